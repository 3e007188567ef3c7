/-! ===== the changes keep what both have in common ===== -/
section WRT
variable {ln cw ic bs ss : Int32} {se we un sf pa isI br ma sfr : Nat → Int32} {j w i : Nat}
theorem upd_at (f : Nat → Int32) (j : Nat) (x : Int32) (w : Nat) : upd f j x w = if w = j then x else f w := rfl
theorem upd_same {f : Nat → Int32} {x : Int32} (h : f j = x) : upd f j x = f := by
  funext w
  rw [upd_at]
  split
  · rename_i e; rw [e, h]
  · rfl
theorem x_fill_at {unit am : Int32} : ∀ n w, x_fill unit am sf n w = if w < n ∧ bt unit w = true then am else sf w := by
  intro n
  induction n with
  | zero => intro w; rw [if_neg (by omega)]; rfl
  | succ n ih =>
    intro w
    show (if bt unit n = true then upd (x_fill unit am sf n) n am else x_fill unit am sf n) w = _
    by_cases c : bt unit n = true
    · rw [if_pos c, upd_at]
      by_cases e : w = n
      · rw [if_pos e, e]
        have k : n < n + 1 ∧ bt unit n = true := ⟨by omega, c⟩
        rw [if_pos k]
      · rw [if_neg e, ih]
        by_cases k : w < n ∧ bt unit w = true
        · have k2 : w < n + 1 ∧ bt unit w = true := ⟨by omega, k.2⟩
          rw [if_pos k, if_pos k2]
        · have k2 : ¬ (w < n + 1 ∧ bt unit w = true) := fun h => k ⟨by omega, h.2⟩
          rw [if_neg k, if_neg k2]
    · rw [if_neg c, ih]
      by_cases k : w < n ∧ bt unit w = true
      · have k2 : w < n + 1 ∧ bt unit w = true := ⟨by omega, k.2⟩
        rw [if_pos k, if_pos k2]
      · have k2 : ¬ (w < n + 1 ∧ bt unit w = true) := fun h => (show w < n ∨ w = n by omega).elim (fun h2 => k ⟨h2, h.2⟩) (fun h2 => c (by rw [← h2]; exact h.2))
        rw [if_neg k, if_neg k2]
theorem x_part_at {unit : Int32} : ∀ n w, x_part unit un n w = if w < n ∧ bt unit w = true then x_bit w else un w := by
  intro n
  induction n with
  | zero => intro w; rw [if_neg (by omega)]; rfl
  | succ n ih =>
    intro w
    show (if bt unit n = true then upd (x_part unit un n) n (x_bit n) else x_part unit un n) w = _
    by_cases c : bt unit n = true
    · rw [if_pos c, upd_at]
      by_cases e : w = n
      · rw [if_pos e, e]
        have k : n < n + 1 ∧ bt unit n = true := ⟨by omega, c⟩
        rw [if_pos k]
      · rw [if_neg e, ih]
        by_cases k : w < n ∧ bt unit w = true
        · have k2 : w < n + 1 ∧ bt unit w = true := ⟨by omega, k.2⟩
          rw [if_pos k, if_pos k2]
        · have k2 : ¬ (w < n + 1 ∧ bt unit w = true) := fun h => k ⟨by omega, h.2⟩
          rw [if_neg k, if_neg k2]
    · rw [if_neg c, ih]
      by_cases k : w < n ∧ bt unit w = true
      · have k2 : w < n + 1 ∧ bt unit w = true := ⟨by omega, k.2⟩
        rw [if_pos k, if_pos k2]
      · have k2 : ¬ (w < n + 1 ∧ bt unit w = true) := fun h => (show w < n ∨ w = n by omega).elim (fun h2 => k ⟨h2, h.2⟩) (fun h2 => c (by rw [← h2]; exact h.2))
        rw [if_neg k, if_neg k2]
theorem un_bt (h : RB ic un isI ma) (hj : j < 6) (hin : ¬ isI j = 0) : bt (un j) w = true ↔ w = j ∨ w = mtt ma j := by
  rw [h.2.2.2 j hj hin]; exact bt_un hj (mt_inv h.1 j hj).1
theorem fill_at (h : RB ic un isI ma) (hj : j < 6) (hin : ¬ isI j = 0) (hw : w < 6) (am : Int32) : x_fill (un j) am sf 6 w = if w = j ∨ w = mtt ma j then am else sf w := by
  rw [x_fill_at]
  have e := un_bt (w := w) h hj hin
  by_cases c : w = j ∨ w = mtt ma j
  · have k : w < 6 ∧ bt (un j) w = true := ⟨hw, e.mpr c⟩
    rw [if_pos c, if_pos k]
  · have k : ¬ (w < 6 ∧ bt (un j) w = true) := fun h2 => c (e.mp h2.2)
    rw [if_neg c, if_neg k]
theorem part_at (h : RB ic un isI ma) (hj : j < 6) (hin : ¬ isI j = 0) (hw : w < 6) : x_part (un j) un 6 w = if w = j ∨ w = mtt ma j then x_bit w else un w := by
  rw [x_part_at]
  have e := un_bt (w := w) h hj hin
  by_cases c : w = j ∨ w = mtt ma j
  · have k : w < 6 ∧ bt (un j) w = true := ⟨hw, e.mpr c⟩
    rw [if_pos c, if_pos k]
  · have k : ¬ (w < 6 ∧ bt (un j) w = true) := fun h2 => c (e.mp h2.2)
    rw [if_neg c, if_neg k]
-- ---- a pair is parted
theorem mt_part (hm : mok ma) (hj : j < 6) (hw : w < 6) : mtt (m_set ma ma j (-9)) w = if w = j ∨ w = mtt ma j then w else mtt ma w := by
  have e := m_set_at (ma := ma) (sfr := ma) (w := j) (i := w) (x := -9)
  by_cases c : w = j ∨ w = mtt ma j
  · rw [if_pos c] at e ⊢; exact mt_n e
  · rw [if_neg c] at e ⊢
    by_cases k : ma w = -9
    · rw [mt_n (by rw [e]; exact k), mt_n k]
    · rw [mt_p (by rw [e]; exact k), mt_p k]
      unfold m_mt; rw [e]
theorem mok_part (hm : mok ma) (hj : j < 6) : mok (m_set ma ma j (-9)) := by
  intro w hw
  by_cases c : w = j ∨ w = mtt ma j
  · exact Or.inl (by rw [m_set_at, if_pos c])
  · rw [m_set_at, if_neg c]
    by_cases k : ma w = -9
    · exact Or.inl k
    · obtain ⟨t1, t2, t3, t4⟩ := mt_two hm hw k
      have c2 : ¬ (mtt ma w = j ∨ mtt ma w = mtt ma j) := fun h => c ((mt_or hm hj hw).mp h)
      exact Or.inr ⟨mtt ma w, t1, t2, t3, by rw [m_set_at, if_neg c2]; exact t4⟩
theorem RB_part (h : RB ic un isI ma) (hj : j < 6) (hin : ¬ isI j = 0) : RB ic (x_part (un j) un 6) isI (m_set ma ma j (-9)) := by
  refine ⟨mok_part h.1 hj, h.2.1, fun w hw e => ?_, fun w hw hi => ?_⟩
  · rw [m_set_at]
    split
    · rfl
    · exact h.2.2.1 w hw e
  · rw [part_at h hj hin hw, mt_part h.1 hj hw]
    by_cases c : w = j ∨ w = mtt ma j
    · rw [if_pos c, if_pos c, Int32.or_self]
    · rw [if_neg c, if_neg c]; exact h.2.2.2 w hw hi
theorem RS_part (hm : mok ma) (hs : RS ma sfr sf ss) (hj : j < 6) : RS (m_set ma ma j (-9)) sfr sf ss := by
  refine ⟨hs.1, hs.2.1, fun w hw => ?_⟩
  rw [mt_part hm hj hw]
  split
  · rfl
  · exact hs.2.2 w hw
theorem RS_open2 (h : RB ic un isI ma) (hs : RS ma sfr sf ss) (hj : j < 6) (hin : ¬ isI j = 0) : RS ma (m_set ma sfr j (-9)) (x_fill (un j) 0 sf 6) (ss &&& (un j ^^^ (-1))) := by
  have g := RS_open h hs hj hin
  refine ⟨g.1, fun w hw hn => ?_, g.2.2⟩
  rw [fill_at h hj hin hw]
  by_cases c : w = j ∨ w = mtt ma j
  · rw [m_set_at, if_pos c] at hn; exact absurd rfl hn
  · rw [if_neg c]; exact g.2.1 w hw hn
theorem RS_settle (h : RB ic un isI ma) (hs : RS ma sfr sf ss) (hj : j < 6) (hin : ¬ isI j = 0) {x : Int32} (hx : ¬ x = -9) : RS ma (m_set ma sfr j x) (x_fill (un j) x sf 6) (ss ||| un j) := by
  refine ⟨fun w hw => ?_, fun w hw hn => ?_, fun w hw => ?_⟩
  · rw [m_set_at, b_or, Bool.or_eq_true, un_bt h hj hin]
    by_cases c : w = j ∨ w = mtt ma j
    · rw [if_pos c]; exact ⟨fun e => absurd e hx, fun e => absurd (Or.inr c) e⟩
    · rw [if_neg c, hs.1 w hw]
      exact ⟨fun e h2 => h2.elim e c, fun e h2 => e (Or.inl h2)⟩
  · rw [fill_at h hj hin hw, m_set_at]
    by_cases c : w = j ∨ w = mtt ma j
    · rw [if_pos c, if_pos c]
    · rw [if_neg c, if_neg c]
      rw [m_set_at, if_neg c] at hn
      exact hs.2.1 w hw hn
  · rw [m_set_at, m_set_at]
    have e := mt_or h.1 hj hw
    by_cases c : w = j ∨ w = mtt ma j
    · rw [if_pos c, if_pos (e.mpr c)]
    · rw [if_neg c, if_neg (fun h2 => c (e.mp h2)), hs.2.2 w hw]
theorem SF_fill (h : RB ic un isI ma) (hsf : SFb sf) (hj : j < 6) (hin : ¬ isI j = 0) {x : Int32} (hx : 0 ≤ x.toInt ∧ x.toInt ≤ 1000000) : SFb (x_fill (un j) x sf 6) := by
  intro w hw
  rw [fill_at h hj hin hw]
  split
  · exact hx
  · exact hsf w hw
-- ---- a pair is made
theorem mt_pair (ha : i < 6) (hb : j < 6) (hij : i ≠ j) (hw : w < 6) : mtt (upd (upd ma i (nI j)) j (nI i)) w = if w = j then i else if w = i then j else mtt ma w := by
  have e : upd (upd ma i (nI j)) j (nI i) w = if w = j then nI i else if w = i then nI j else ma w := rfl
  by_cases c : w = j
  · rw [if_pos c] at e ⊢
    rw [mt_p (by rw [e]; exact nI_9 i ha)]
    unfold m_mt; rw [e, nI_clamp (by omega)]
  · rw [if_neg c] at e ⊢
    by_cases c2 : w = i
    · rw [if_pos c2] at e ⊢
      rw [mt_p (by rw [e]; exact nI_9 j hb)]
      unfold m_mt; rw [e, nI_clamp (by omega)]
    · rw [if_neg c2] at e ⊢
      by_cases k : ma w = -9
      · rw [mt_n (by rw [e]; exact k), mt_n k]
      · rw [mt_p (by rw [e]; exact k), mt_p k]
        unfold m_mt; rw [e]
theorem mok_pair (hm : mok ma) (ha : i < 6) (hb : j < 6) (hij : i ≠ j) (hi : ma i = -9) (hj : ma j = -9) : mok (upd (upd ma i (nI j)) j (nI i)) := by
  have e : ∀ w, upd (upd ma i (nI j)) j (nI i) w = if w = j then nI i else if w = i then nI j else ma w := fun w => rfl
  intro w hw
  by_cases c : w = j
  · exact Or.inr ⟨i, ha, fun h => hij (h.trans c), by rw [e, if_pos c], by rw [e, if_neg hij, if_pos rfl, c]⟩
  · by_cases c2 : w = i
    · exact Or.inr ⟨j, hb, fun h => c h.symm, by rw [e, if_neg c, if_pos c2], by rw [e, if_pos rfl, c2]⟩
    · rw [e, if_neg c, if_neg c2]
      by_cases k : ma w = -9
      · exact Or.inl k
      · obtain ⟨t1, t2, t3, t4⟩ := mt_two hm hw k
        have c3 : ¬ mtt ma w = j := fun h => by rw [h, hj] at t4; exact nI_9 w hw t4.symm
        have c4 : ¬ mtt ma w = i := fun h => by rw [h, hi] at t4; exact nI_9 w hw t4.symm
        exact Or.inr ⟨mtt ma w, t1, t2, t3, by rw [e, if_neg c3, if_neg c4]; exact t4⟩
theorem RB_pair (h : RB ic un isI ma) (ha : i < 6) (hb : j < 6) (hij : i ≠ j) (hi : ma i = -9) (hj : ma j = -9) (ii : ¬ isI i = 0) (ij : ¬ isI j = 0) : RB ic (upd (upd un i (x_bit i ||| x_bit j)) j (x_bit i ||| x_bit j)) isI (upd (upd ma i (nI j)) j (nI i)) := by
  have e : ∀ w, upd (upd ma i (nI j)) j (nI i) w = if w = j then nI i else if w = i then nI j else ma w := fun w => rfl
  have eu : ∀ w, upd (upd un i (x_bit i ||| x_bit j)) j (x_bit i ||| x_bit j) w = if w = j then (x_bit i ||| x_bit j) else if w = i then (x_bit i ||| x_bit j) else un w := fun w => rfl
  refine ⟨mok_pair h.1 ha hb hij hi hj, h.2.1, fun w hw k => ?_, fun w hw k => ?_⟩
  · have c1 : ¬ w = j := fun c => ij (by rw [← c]; exact k)
    have c2 : ¬ w = i := fun c => ii (by rw [← c]; exact k)
    rw [e, if_neg c1, if_neg c2]; exact h.2.2.1 w hw k
  · rw [mt_pair ha hb hij hw, eu]
    by_cases c : w = j
    · rw [if_pos c, if_pos c, c, Int32.or_comm]
    · rw [if_neg c, if_neg c]
      by_cases c2 : w = i
      · rw [if_pos c2, if_pos c2, c2]
      · rw [if_neg c2, if_neg c2]; exact h.2.2.2 w hw k
theorem RS_pair (hs : RS ma sfr sf ss) (ha : i < 6) (hb : j < 6) (hij : i ≠ j) (hi : sfr i = -9) (hj : sfr j = -9) : RS (upd (upd ma i (nI j)) j (nI i)) sfr sf ss := by
  refine ⟨hs.1, hs.2.1, fun w hw => ?_⟩
  rw [mt_pair ha hb hij hw]
  by_cases c : w = j
  · rw [if_pos c, c, hi, hj]
  · rw [if_neg c]
    by_cases c2 : w = i
    · rw [if_pos c2, c2, hi, hj]
    · rw [if_neg c2]; exact hs.2.2 w hw
-- ---- paid
theorem sN_upd (x : Int32) (hj : j < 6) : sN (fun w => (upd pa j x w).toInt) 6 = sN (fun w => (pa w).toInt) 6 - (pa j).toInt + x.toInt := by
  have e : sN (fun w => (upd pa j x w).toInt) 6 = sN (fun w => (pa w).toInt + (if w = j then (fun w => x.toInt - (pa w).toInt) w else 0)) 6 := sN_congr (fun w hw => by
    rw [upd_at]
    by_cases c : w = j
    · rw [if_pos c, if_pos c]; show x.toInt = (pa w).toInt + (x.toInt - (pa w).toInt); omega
    · rw [if_neg c, if_neg c]; omega)
  rw [e, sN_add, sN_one, if_pos hj]; omega
theorem PA_upd (h : PAb pa) (hj : j < 6) {x : Int32} (hx : 0 ≤ x.toInt) (hs : sN (fun w => (pa w).toInt) 6 - (pa j).toInt + x.toInt ≤ 1000000) : PAb (upd pa j x) := by
  refine ⟨fun w hw => ?_, by rw [sN_upd x hj]; exact hs⟩
  rw [upd_at]
  split
  · exact hx
  · exact h.1 w hw
theorem PA_0 (h : PAb pa) (hj : j < 6) : PAb (upd pa j 0) := PA_upd h hj (by decide) (by
  have := (pa_le h hj).1
  have := h.2
  show _ + (0 : Int) ≤ _
  omega)
theorem W_upd (h : W1 we) {x : Int32} (hx : 0 ≤ x.toInt ∧ x.toInt ≤ 100) : W1 (upd we j x) := by
  intro w hw
  rw [upd_at]
  split
  · exact hx
  · exact h w hw
end WRT
def INVt (u : XS) (m : MS) : Prop := m.1 = u.1 ∧ m.2.1 = u.2.1 ∧ m.2.2.1 = u.2.2.2.2.2.1 ∧ m.2.2.2.2.1 = u.2.2.2.2.2.2.1 ∧ m.2.2.2.2.2.2.2.2 = u.2.2.2.2.2.2.2.2.2 ∧ INV u.1 u.2.1 u.2.2.1 u.2.2.2.1 u.2.2.2.2.1 u.2.2.2.2.2.1 u.2.2.2.2.2.2.1 u.2.2.2.2.2.2.2.1 u.2.2.2.2.2.2.2.2.1 u.2.2.2.2.2.2.2.2.2 m.2.2.2.1 m.2.2.2.2.2.1 m.2.2.2.2.2.2.1 m.2.2.2.2.2.2.2.1
theorem INVt_i {ln cw ic bs ss : Int32} {se we un sf pa isI br ma sfr : Nat → Int32} (I : INV ln cw ic bs ss se we un sf pa isI br ma sfr) : INVt (ln, cw, ic, bs, ss, se, we, un, sf, pa) (ln, cw, se, isI, we, br, ma, sfr, pa) := ⟨rfl, rfl, rfl, rfl, rfl, I⟩
theorem to_rg {x a b : Int32} (h : ¬ (x < a ∨ b < x)) : a.toInt ≤ x.toInt ∧ x.toInt ≤ b.toInt := in_M (Classical.byContradiction (fun h2 => h (out_iff.mpr h2)))
