/-! ===== the answers are the same: what is asked ===== -/
theorem out_iff {v a b : Int32} : (v < a ∨ b < v) ↔ ¬ (a ≤ v ∧ v ≤ b) := by
  constructor
  · rintro (h | h) ⟨h1, h2⟩
    · exact Int32.not_le.mpr h h1
    · exact Int32.not_le.mpr h h2
  · intro h
    by_cases c : v < a
    · exact Or.inl c
    · exact Or.inr (Int32.not_le.mp (fun h2 => h ⟨Int32.not_lt.mp c, h2⟩))
theorem or3_not {A B C : Prop} : (¬ A ∨ ¬ B ∨ ¬ C) ↔ ¬ (A ∧ B ∧ C) := by
  by_cases a : A <;> by_cases b : B <;> by_cases c : C <;> simp [a, b, c]
theorem nI6 {i j : Nat} (hi : i < 6) (hj : j < 6) (h : nI i = nI j) : i = j := (nI_eq (by omega) (by omega)).mp h
theorem kn_iff {ic v : Int32} {un isI ma : Nat → Int32} (h : RB ic un isI ma) : (∃ j, j < 6 ∧ v = nI j ∧ bt ic j = true) ↔ (∃ j, j < 6 ∧ v = nI j ∧ ¬ isI j = 0) :=
  ⟨fun ⟨j, a, b, c⟩ => ⟨j, a, b, (RB_bt h a).mp c⟩, fun ⟨j, a, b, c⟩ => ⟨j, a, b, (RB_bt h a).mpr c⟩⟩
theorem kq_both {ic v : Int32} {un isI ma : Nat → Int32} (h : RB ic un isI ma) {ox im L1 L2 : Prop} {A B : Nat → Prop} (ho : ox ↔ ¬ im) (h1 : (((¬ ∃ j, j < 6 ∧ v = nI j ∧ bt ic j = true) ∨ ox) ∧ L1) ∨ (∃ j, j < 6 ∧ v = nI j ∧ bt ic j = true ∧ ¬ ox ∧ A j)) (h2 : (((¬ ∃ j, j < 6 ∧ v = nI j ∧ ¬ isI j = 0) ∨ ¬ im) ∧ L2) ∨ (∃ j, j < 6 ∧ v = nI j ∧ ¬ isI j = 0 ∧ im ∧ B j)) : (L1 ∧ L2) ∨ ∃ j, j < 6 ∧ ¬ isI j = 0 ∧ A j ∧ B j := by
  rcases h1 with ⟨a, l1⟩ | ⟨j, hj, e, hb, no, hA⟩
  · rcases h2 with ⟨_, l2⟩ | ⟨j, hj, e, hb, hi, hB⟩
    · exact Or.inl ⟨l1, l2⟩
    · rcases a with a | a
      · exact absurd ((kn_iff h).mpr ⟨j, hj, e, hb⟩) a
      · exact absurd hi (ho.mp a)
  · rcases h2 with ⟨b, l2⟩ | ⟨j2, hj2, e2, hb2, hi, hB⟩
    · rcases b with b | b
      · exact absurd ((kn_iff h).mp ⟨j, hj, e, hb⟩) b
      · exact absurd (ho.mpr b) no
    · have : j2 = j := nI6 hj2 hj (by rw [← e2, e])
      subst this
      exact Or.inr ⟨j2, hj2, hb2, hA, hB⟩
theorem xk_both {ic v : Int32} {un isI ma : Nat → Int32} (h : RB ic un isI ma) {n1 n2 : Prop} {A B : Nat → Prop} (h1 : xk (fun j => bt ic j = true) v n1 A) (h2 : xk (fun j => ¬ isI j = 0) v n2 B) : (n1 ∧ n2) ∨ ∃ j, j < 6 ∧ v = nI j ∧ ¬ isI j = 0 ∧ A j ∧ B j := by
  rcases h1 with ⟨j, hj, e, hb, hA⟩ | ⟨a, l1⟩
  · rcases h2 with ⟨j2, hj2, e2, hb2, hB⟩ | ⟨b, l2⟩
    · have : j2 = j := nI6 hj2 hj (by rw [← e2, e])
      subst this
      exact Or.inr ⟨j2, hj2, e, hb2, hA, hB⟩
    · exact absurd ((kn_iff h).mp ⟨j, hj, e, hb⟩) b
  · rcases h2 with ⟨j2, hj2, e2, hb2, hB⟩ | ⟨b, l2⟩
    · exact absurd ((kn_iff h).mpr ⟨j2, hj2, e2, hb2⟩) a
    · exact Or.inl ⟨l1, l2⟩
theorem th_012 {v : Int32} (h : 0 ≤ v ∧ v ≤ 2) : v = 0 ∨ v = 1 ∨ v = 2 := by
  obtain ⟨j, hj, rfl⟩ := th3_of h
  rcases (show j = 0 ∨ j = 1 ∨ j = 2 by omega) with rfl | rfl | rfl
  · exact Or.inl rfl
  · exact Or.inr (Or.inl rfl)
  · exact Or.inr (Or.inr rfl)
section ASK
variable {ln cw ic bs ss : Int32} {se we un sf pa isI br ma sfr : Nat → Int32} {j : Nat}
theorem I_ent (I : INV ln cw ic bs ss se we un sf pa isI br ma sfr) : m_ent ln cw se isI we = Rat.divInt (x_E ln cw ic se we) (x_dn cw ic we) := ent_eq (I_rb I) (I_w I) (I_c I) (I_l I) rfl
theorem I_cr (I : INV ln cw ic bs ss se we un sf pa isI br ma sfr) : m_crN ln cw se isI we ma sfr 6 = Rat.divInt (x_C ln cw ic we un sf (se 0) ss) (x_dn cw ic we) := by
  rw [crN_eq (I_rb I) (I_rs I) (I_w I) (I_c I) rfl (I_se I) 6 (Nat.le_refl _), ← C_I (I_rb I) (I_w I) (I_c I) (I_l I) (I_sf I)]
theorem I_re (I : INV ln cw ic bs ss se we un sf pa isI br ma sfr) : m_re ln cw se isI we ma sfr = o_re (x_E ln cw ic se we) (x_C ln cw ic we un sf (se 0) ss) (x_dn cw ic we) := re_eq (I_rb I) (I_rs I) (I_w I) (I_c I) (I_l I) (I_sf I) rfl rfl (I_se I)
theorem I_mi (I : INV ln cw ic bs ss se we un sf pa isI br ma sfr) : m_re ln cw se isI we ma sfr - m_duN ln cw se isI we br ma sfr 6 = o_mi (x_E ln cw ic se we) (x_C ln cw ic we un sf (se 0) ss) (x_dn cw ic we) ((x_op ic we ss).toInt) ((x_la ic we un ss bs).toInt) ((x_sh cw ic we un (se 1) ss bs).toInt) := by
  rw [I_re I, I_du I]; rfl
theorem I_sn (I : INV ln cw ic bs ss se we un sf pa isI br ma sfr) : m_seN isI ma sfr 6 = (x_sumN (x_headsN ic un 6 &&& ss) sf 6).toInt ∧ 0 ≤ (x_sumN (x_headsN ic un 6 &&& ss) sf 6).toInt ∧ (x_sumN (x_headsN ic un 6 &&& ss) sf 6).toInt ≤ 6000000 := by
  have e := x_sum_I (set := x_headsN ic un 6 &&& ss) (M := 1000000) (I_sf I) (by omega)
  have g : ∀ n, n ≤ 6 → m_seN isI ma sfr n = sN (fun i => if bt (x_headsN ic un 6 &&& ss) i = true then (sf i).toInt else 0) n := by
    intro n
    induction n with
    | zero => intro _; rfl
    | succ n ih =>
      intro hn
      show m_seN isI ma sfr n + _ = sN _ n + (if bt (x_headsN ic un 6 &&& ss) n = true then (sf n).toInt else 0)
      rw [ih (by omega)]
      congr 1
      have hh := heads_iff (i := n) (I_rb I)
      have hs := RS_bt (I_rs I) (w := n) (by omega)
      have hc : bt (x_headsN ic un 6 &&& ss) n = true ↔ m_isU isI ma n ∧ ¬ sfr n = -9 := by
        rw [b_and, Bool.and_eq_true, hh, hs]
        exact ⟨fun h => ⟨h.1.2, h.2⟩, fun h => ⟨⟨by omega, h.1⟩, h.2⟩⟩
      by_cases c1 : m_isU isI ma n
      · by_cases c2 : sfr n = -9
        · have k : ¬ bt (x_headsN ic un 6 &&& ss) n = true := fun h => (hc.mp h).2 c2
          rw [if_pos c1, if_pos c2, if_neg k]
        · have k : bt (x_headsN ic un 6 &&& ss) n = true := hc.mpr ⟨c1, c2⟩
          rw [if_pos c1, if_neg c2, if_pos k, (I_rs I).2.1 n (by omega) c2]
      · have k : ¬ bt (x_headsN ic un 6 &&& ss) n = true := fun h => c1 (hc.mp h).1
        rw [if_neg c1, if_neg k]
  have b := sN_bd (f := fun i => if bt (x_headsN ic un 6 &&& ss) i = true then (sf i).toInt else 0) (M := 1000000) (n := 6) (fun i hi => by
    have := I_sf I i hi
    show 0 ≤ (if bt (x_headsN ic un 6 &&& ss) i = true then (sf i).toInt else 0) ∧ (if bt (x_headsN ic un 6 &&& ss) i = true then (sf i).toInt else 0) ≤ ((1000000 : Nat) : Int)
    split <;> omega)
  rw [e]
  exact ⟨g 6 (Nat.le_refl _), b.1, by omega⟩
theorem cr_un (I : INV ln cw ic bs ss se we un sf pa isI br ma sfr) (hj : j < 6) : m_cr ln cw se isI we ma sfr (m_un ma j) = m_cr ln cw se isI we ma sfr j := by
  rw [un_min (I_rb I).1 hj]
  rcases Nat.le_total j (mtt ma j) with c | c
  · rw [show min j (mtt ma j) = j by omega]
  · rw [show min j (mtt ma j) = mtt ma j by omega]
    unfold m_cr m_sv m_cb
    rw [(I_rs I).2.2 j hj, uw_mt (I_rb I).1 hj (I_w I)]
theorem I_xcr (I : INV ln cw ic bs ss se we un sf pa isI br ma sfr) (hj : j < 6) : (x_cred ln we un sf j (se 0) (x_bd cw ic we)).toInt = credI ln we un sf j (se 0) (x_bd cw ic we) ∧ rng (x_cred ln we un sf j (se 0) (x_bd cw ic we)).toInt := by
  obtain ⟨b1, b2, b3, b4, b5, b6⟩ := bl_bd (I_rb I) (I_w I) (I_c I)
  have hd : 1 ≤ (x_bd cw ic we).toInt ∧ (x_bd cw ic we).toInt ≤ 700 := by rw [b6]; exact ⟨b4, b5⟩
  have hb := cred_bd (un := un) (mn := se 0) (I_w I) (I_l I) hd (I_sf I) hj
  have e : (x_cred ln we un sf j (se 0) (x_bd cw ic we)).toInt = credI ln we un sf j (se 0) (x_bd cw ic we) := by
    rw [cred_iL (I_w I) (I_l I) hd (I_sf I) hj]
    exact iL_t (by unfold rng; omega)
  exact ⟨e, by rw [e]; unfold rng; omega⟩
theorem I_G (I : INV ln cw ic bs ss se we un sf pa isI br ma sfr) {mn sp : Int32} (hmn : mn = 0 ∨ mn = 1 ∨ mn = 2) : m_duN ln cw (upd (upd se 0 mn) 1 sp) isI we br ma sfr 6 + iQ (m_seN isI ma sfr 6) = xDU ln cw ic se we un sf mn sp ss bs + iQ (x_sumN (x_headsN ic un 6 &&& ss) sf 6).toInt := by
  rw [duN_eq (se := se) (se2 := upd (upd se 0 mn) 1 sp) (mn := mn) (sp := sp) (I_rb I) (I_rs I) (I_rr I) (I_w I) (I_c I) (I_l I) (I_sf I) rfl rfl rfl hmn, (I_sn I).1]
theorem m_set_at {w i : Nat} {x : Int32} : m_set ma sfr w x i = if i = w ∨ i = mtt ma w then x else sfr i := by
  unfold m_set
  by_cases c : ma w = -9
  · rw [if_pos c, mt_n c]
    unfold upd
    by_cases e : i = w
    · rw [if_pos e, if_pos (Or.inl e)]
    · rw [if_neg e, if_neg (fun h => h.elim e e)]
  · rw [if_neg c, ← mt_p c]
    unfold upd
    by_cases e : i = mtt ma w
    · rw [if_pos e, if_pos (Or.inr e)]
    · rw [if_neg e]
      by_cases e2 : i = w
      · rw [if_pos e2, if_pos (Or.inl e2)]
      · rw [if_neg e2, if_neg (fun h => h.elim e2 e)]
theorem bt_cl {x : Int32} {w i : Nat} (h : RB ic un isI ma) (hw : w < 6) (hin : ¬ isI w = 0) (hi : i < 6) : bt (x &&& (un w ^^^ (-1))) i = true ↔ bt x i = true ∧ ¬ (i = w ∨ i = mtt ma w) := by
  have e := bt_un (i := i) hw (mt_inv h.1 w hw).1
  rw [← h.2.2.2 w hw hin] at e
  rw [b_and, bt_not _ (by omega), Bool.and_eq_true, ← e]
  cases bt (un w) i <;> simp
theorem mt_or (h : mok ma) {w i : Nat} (hw : w < 6) (hi : i < 6) : (mtt ma i = w ∨ mtt ma i = mtt ma w) ↔ (i = w ∨ i = mtt ma w) := by
  have h1 := mt_inv h i hi
  have h2 := mt_inv h w hw
  constructor
  · rintro (e | e)
    · exact Or.inr (by rw [← e, h1.2])
    · exact Or.inl (by rw [← h1.2, e, h2.2])
  · rintro (e | e)
    · exact Or.inr (by rw [e])
    · exact Or.inl (by rw [e, h2.2])
theorem RS_open (h : RB ic un isI ma) (hs : RS ma sfr sf ss) {w : Nat} (hw : w < 6) (hin : ¬ isI w = 0) : RS ma (m_set ma sfr w (-9)) sf (ss &&& (un w ^^^ (-1))) := by
  refine ⟨fun i hi => ?_, fun i hi hn => ?_, fun i hi => ?_⟩
  · rw [m_set_at, bt_cl h hw hin hi]
    by_cases c : i = w ∨ i = mtt ma w
    · rw [if_pos c]; exact ⟨fun _ h2 => h2.2 c, fun _ => rfl⟩
    · rw [if_neg c, hs.1 i hi]
      exact ⟨fun h1 h2 => h1 h2.1, fun h1 h2 => h1 ⟨h2, c⟩⟩
  · rw [m_set_at] at hn ⊢
    by_cases c : i = w ∨ i = mtt ma w
    · rw [if_pos c] at hn; exact absurd rfl hn
    · rw [if_neg c] at hn ⊢; exact hs.2.1 i hi hn
  · rw [m_set_at, m_set_at]
    have e := mt_or h.1 hw hi
    by_cases c : i = w ∨ i = mtt ma w
    · rw [if_pos c, if_pos (e.mpr c)]
    · rw [if_neg c, if_neg (fun h2 => c (e.mp h2)), hs.2.2 i hi]
theorem RR_1 (hr : RR br bs) (hj : j < 6) : RR (upd br j 1) (bs ||| x_bit j) := by
  intro w hw
  rw [b_or, bt_b hj]
  unfold upd
  by_cases c : w = j
  · rw [if_pos c, decide_eq_true c, Bool.or_true]; simp
  · rw [if_neg c, decide_eq_false c, Bool.or_false]; exact hr w hw
theorem RR_0 (hr : RR br bs) (hj : j < 6) : RR (upd br j 0) (bs &&& (x_bit j ^^^ (-1))) := by
  intro w hw
  rw [b_and, bt_not _ (by omega), bt_b hj]
  unfold upd
  by_cases c : w = j
  · rw [if_pos c, decide_eq_true c]; simp
  · rw [if_neg c, decide_eq_false c]; simp; exact (hr w hw).trans (by cases bt bs w <;> simp)
end ASK
theorem a_amount {ln cw ic bs ss : Int32} {se we un sf pa isI br ma sfr : Nat → Int32} {x wh : Int32} {u2 : QS} {aU aL : Nat → Int64} {r1 r2 : Int64} (I : INV ln cw ic bs ss se we un sf pa isI br ma sfr) (h1 : (fun r _ => ((wh < 0 ∨ 1 < wh) ∧ r = (-9223372036854775808)) ∨ (¬ (wh < 0 ∨ 1 < wh) ∧ ((x = 0 ∧ r = tellQ (Rat.divInt (x_E ln cw ic se we) (x_dn cw ic we)) wh) ∨ (x = 1 ∧ r = tellQ (Rat.divInt (x_C ln cw ic we un sf (se 0) ss) (x_dn cw ic we)) wh) ∨ (x = 2 ∧ r = tellQ (o_re (x_E ln cw ic se we) (x_C ln cw ic we un sf (se 0) ss) (x_dn cw ic we)) wh) ∨ (x = 3 ∧ r = tellQ (o_mi (x_E ln cw ic se we) (x_C ln cw ic we un sf (se 0) ss) (x_dn cw ic we) ((x_op ic we ss).toInt) ((x_la ic we un ss bs).toInt) ((x_sh cw ic we un (se 1) ss bs).toInt)) wh) ∨ (x = 4 ∧ r = tellQ (o_du (x_E ln cw ic se we) (x_C ln cw ic we un sf (se 0) ss) (x_dn cw ic we) ((x_op ic we ss).toInt) ((x_la ic we un ss bs).toInt) ((x_sh cw ic we un (se 1) ss bs).toInt)) wh) ∨ ((x.toInt < 0 ∨ 4 < x.toInt) ∧ r = (-9223372036854775808))))) r1 ()) (h2 : (fun r _ => (¬ ((0 ≤ x ∧ x ≤ 4) ∧ (0 ≤ wh ∧ wh ≤ 1)) ∧ r = (-9223372036854775808)) ∨ (∃ i7, i7 < 5 ∧ x = nI i7 ∧ (0 ≤ wh ∧ wh ≤ 1) ∧ r = if wh = 0 then (vp_updL (vp_updL (vp_updL (vp_updL (vp_updL aU 0 (iL (m_ent ln cw se isI we).num)) 1 (iL (m_crN ln cw se isI we ma sfr 6).num)) 2 (iL (m_re ln cw se isI we ma sfr).num)) 4 (iL (m_duN ln cw se isI we br ma sfr 6).num)) 3 (iL ((m_re ln cw se isI we ma sfr) - (m_duN ln cw se isI we br ma sfr 6)).num)) i7 else (vp_updL (vp_updL (vp_updL (vp_updL (vp_updL aL 0 (iL ((m_ent ln cw se isI we).den : Int))) 1 (iL ((m_crN ln cw se isI we ma sfr 6).den : Int))) 2 (iL ((m_re ln cw se isI we ma sfr).den : Int))) 4 (iL ((m_duN ln cw se isI we br ma sfr 6).den : Int))) 3 (iL (((m_re ln cw se isI we ma sfr) - (m_duN ln cw se isI we br ma sfr 6)).den : Int))) i7)) r2 u2) : r1 = r2 := by
  rcases h2 with ⟨n2, e2⟩ | ⟨i, hi, hx, hw, e2⟩
  · rcases h1 with ⟨_, e1⟩ | ⟨o1, h1⟩
    · rw [e1, e2]
    · have hw : 0 ≤ wh ∧ wh ≤ 1 := Classical.byContradiction (fun h => o1 (out_iff.mpr h))
      rcases h1 with ⟨hx, _⟩ | ⟨hx, _⟩ | ⟨hx, _⟩ | ⟨hx, _⟩ | ⟨hx, _⟩ | ⟨_, e1⟩
      · exact absurd ⟨by rw [hx]; decide, hw⟩ n2
      · exact absurd ⟨by rw [hx]; decide, hw⟩ n2
      · exact absurd ⟨by rw [hx]; decide, hw⟩ n2
      · exact absurd ⟨by rw [hx]; decide, hw⟩ n2
      · exact absurd ⟨by rw [hx]; decide, hw⟩ n2
      · rw [e1, e2]
  · rcases h1 with ⟨o1, _⟩ | ⟨o1, h1⟩
    · exact absurd hw (out_iff.mp o1)
    · rcases (show i = 0 ∨ i = 1 ∨ i = 2 ∨ i = 3 ∨ i = 4 by omega) with rfl | rfl | rfl | rfl | rfl
      · have e2 : r2 = tellQ (m_ent ln cw se isI we) wh := e2
        rw [I_ent I] at e2
        rcases h1 with ⟨_, e1⟩ | ⟨hy, _⟩ | ⟨hy, _⟩ | ⟨hy, _⟩ | ⟨hy, _⟩ | ⟨hy, _⟩
        · rw [e1, e2]
        all_goals (rw [hx] at hy; exact absurd hy (by decide))
      · have e2 : r2 = tellQ (m_crN ln cw se isI we ma sfr 6) wh := e2
        rw [I_cr I] at e2
        rcases h1 with ⟨hy, _⟩ | ⟨_, e1⟩ | ⟨hy, _⟩ | ⟨hy, _⟩ | ⟨hy, _⟩ | ⟨hy, _⟩
        rotate_left
        · rw [e1, e2]
        all_goals (rw [hx] at hy; exact absurd hy (by decide))
      · have e2 : r2 = tellQ (m_re ln cw se isI we ma sfr) wh := e2
        rw [I_re I] at e2
        rcases h1 with ⟨hy, _⟩ | ⟨hy, _⟩ | ⟨_, e1⟩ | ⟨hy, _⟩ | ⟨hy, _⟩ | ⟨hy, _⟩
        rotate_left 2
        · rw [e1, e2]
        all_goals (rw [hx] at hy; exact absurd hy (by decide))
      · have e2 : r2 = tellQ (m_re ln cw se isI we ma sfr - m_duN ln cw se isI we br ma sfr 6) wh := e2
        rw [I_mi I] at e2
        rcases h1 with ⟨hy, _⟩ | ⟨hy, _⟩ | ⟨hy, _⟩ | ⟨_, e1⟩ | ⟨hy, _⟩ | ⟨hy, _⟩
        rotate_left 3
        · rw [e1, e2]
        all_goals (rw [hx] at hy; exact absurd hy (by decide))
      · have e2 : r2 = tellQ (m_duN ln cw se isI we br ma sfr 6) wh := e2
        rw [I_du I] at e2
        rcases h1 with ⟨hy, _⟩ | ⟨hy, _⟩ | ⟨hy, _⟩ | ⟨hy, _⟩ | ⟨_, e1⟩ | ⟨hy, _⟩
        rotate_left 4
        · rw [e1, e2]
        all_goals (rw [hx] at hy; exact absurd hy (by decide))
theorem a_credit {ln cw ic bs ss : Int32} {se we un sf pa isI br ma sfr : Nat → Int32} {v wh : Int32} {u2 : QS} {r1 r2 : Int64} (I : INV ln cw ic bs ss se we un sf pa isI br ma sfr) (h1 : (fun r _ => (((¬ ∃ i7, i7 < 6 ∧ v = nI i7 ∧ bt ic i7 = true) ∨ (wh < 0 ∨ 1 < wh)) ∧ r = (-9223372036854775808)) ∨ (∃ i7, i7 < 6 ∧ v = nI i7 ∧ bt ic i7 = true ∧ ¬ (wh < 0 ∨ 1 < wh) ∧ r = tellQ (Rat.divInt (if bt ss i7 = true then (x_cred ln we un sf i7 (se 0) (x_bd cw ic we)).toInt else 0) (x_dn cw ic we)) wh)) r1 ()) (h2 : (fun r _ => (((¬ ∃ i7, i7 < 6 ∧ v = nI i7 ∧ ¬ isI i7 = 0) ∨ ¬ (0 ≤ wh ∧ wh ≤ 1)) ∧ r = (-9223372036854775808)) ∨ (∃ i7, i7 < 6 ∧ v = nI i7 ∧ ¬ isI i7 = 0 ∧ (0 ≤ wh ∧ wh ≤ 1) ∧ r = tellQ (m_cr ln cw se isI we ma sfr (m_un ma i7)) wh)) r2 u2) : r1 = r2 := by
  rcases kq_both (I_rb I) out_iff h1 h2 with ⟨e1, e2⟩ | ⟨j, hj, hin, e1, e2⟩
  · rw [e1, e2]
  · rw [e1, e2, cr_un I hj, cr_eq (I_rb I) (I_rs I) (I_w I) (I_c I) hj hin rfl (I_se I), (I_xcr I hj).1]
theorem a_unitDue {ln cw ic bs ss : Int32} {se we un sf pa isI br ma sfr : Nat → Int32} {v wh : Int32} {u2 : QS} {r1 r2 : Int64} (I : INV ln cw ic bs ss se we un sf pa isI br ma sfr) (h1 : (fun r _ => (((¬ ∃ i7, i7 < 6 ∧ v = nI i7 ∧ bt ic i7 = true) ∨ (wh < 0 ∨ 1 < wh)) ∧ r = (-9223372036854775808)) ∨ (∃ i7, i7 < 6 ∧ v = nI i7 ∧ bt ic i7 = true ∧ ¬ (wh < 0 ∨ 1 < wh) ∧ r = tellQ (o_pw (x_E ln cw ic se we) (x_C ln cw ic we un sf (se 0) ss) (x_dn cw ic we) ((x_op ic we ss).toInt) ((x_la ic we un ss bs).toInt) ((x_sh cw ic we un (se 1) ss bs).toInt) * iQ (x_ub ic bs we un i7 ss).toInt) wh)) r1 ()) (h2 : (fun r _ => (((¬ ∃ i7, i7 < 6 ∧ v = nI i7 ∧ ¬ isI i7 = 0) ∨ ¬ (0 ≤ wh ∧ wh ≤ 1)) ∧ r = (-9223372036854775808)) ∨ (∃ i7, i7 < 6 ∧ v = nI i7 ∧ ¬ isI i7 = 0 ∧ (0 ≤ wh ∧ wh ≤ 1) ∧ r = tellQ (m_dU ln cw se isI we br ma sfr (m_un ma i7)) wh)) r2 u2) : r1 = r2 := by
  rcases kq_both (I_rb I) out_iff h1 h2 with ⟨e1, e2⟩ | ⟨j, hj, hin, e1, e2⟩
  · rw [e1, e2]
  · rw [e1, e2, ud_eq (se := se) (I_rb I) (I_rs I) (I_rr I) (I_w I) (I_c I) (I_l I) (I_sf I) rfl rfl rfl (I_se I) hj hin]
theorem a_due {ln cw ic bs ss : Int32} {se we un sf pa isI br ma sfr : Nat → Int32} {v wh : Int32} {u2 : QS} {r1 r2 : Int64} (I : INV ln cw ic bs ss se we un sf pa isI br ma sfr) (h1 : (fun r _ => (((¬ ∃ i7, i7 < 6 ∧ v = nI i7 ∧ bt ic i7 = true) ∨ (wh < 0 ∨ 1 < wh)) ∧ r = (-9223372036854775808)) ∨ (∃ i7, i7 < 6 ∧ v = nI i7 ∧ bt ic i7 = true ∧ ¬ (wh < 0 ∨ 1 < wh) ∧ r = tellQ (o_pw (x_E ln cw ic se we) (x_C ln cw ic we un sf (se 0) ss) (x_dn cw ic we) ((x_op ic we ss).toInt) ((x_la ic we un ss bs).toInt) ((x_sh cw ic we un (se 1) ss bs).toInt) * iQ (x_bears bs ss we un i7).toInt) wh)) r1 ()) (h2 : (fun r _ => (((¬ ∃ i7, i7 < 6 ∧ v = nI i7 ∧ ¬ isI i7 = 0) ∨ ¬ (0 ≤ wh ∧ wh ≤ 1)) ∧ r = (-9223372036854775808)) ∨ (∃ i7, i7 < 6 ∧ v = nI i7 ∧ ¬ isI i7 = 0 ∧ (0 ≤ wh ∧ wh ≤ 1) ∧ r = tellQ (m_due we br ma i7 (m_dU ln cw se isI we br ma sfr (m_un ma i7))) wh)) r2 u2) : r1 = r2 := by
  rcases kq_both (I_rb I) out_iff h1 h2 with ⟨e1, e2⟩ | ⟨j, hj, hin, e1, e2⟩
  · rw [e1, e2]
  · rw [e1, e2, I_due I hj hin]
theorem a_fair {ln cw ic bs ss : Int32} {se we un sf pa isI br ma sfr : Nat → Int32} {v wh : Int32} {u2 : QS} {r1 r2 : Int64} (I : INV ln cw ic bs ss se we un sf pa isI br ma sfr) (h1 : (fun r _ => (((¬ ∃ i7, i7 < 6 ∧ v = nI i7 ∧ bt ic i7 = true) ∨ (wh < 0 ∨ 1 < wh)) ∧ r = (-9223372036854775808)) ∨ (∃ i7, i7 < 6 ∧ v = nI i7 ∧ bt ic i7 = true ∧ ¬ (wh < 0 ∨ 1 < wh) ∧ r = tellQ (Rat.divInt (x_fairUp ic bs ss we un pa i7 (iL (o_du (x_E ln cw ic se we) (x_C ln cw ic we un sf (se 0) ss) (x_dn cw ic we) ((x_op ic we ss).toInt) ((x_la ic we un ss bs).toInt) ((x_sh cw ic we un (se 1) ss bs).toInt)).num)).toInt (o_fd (x_E ln cw ic se we) (x_C ln cw ic we un sf (se 0) ss) (x_dn cw ic we) ((x_op ic we ss).toInt) ((x_la ic we un ss bs).toInt) ((x_sh cw ic we un (se 1) ss bs).toInt))) wh)) r1 ()) (h2 : (fun r _ => (((¬ ∃ i7, i7 < 6 ∧ v = nI i7 ∧ ¬ isI i7 = 0) ∨ ¬ (0 ≤ wh ∧ wh ≤ 1)) ∧ r = (-9223372036854775808)) ∨ (∃ i7, i7 < 6 ∧ v = nI i7 ∧ ¬ isI i7 = 0 ∧ (0 ≤ wh ∧ wh ≤ 1) ∧ r = tellQ (m_fair (m_due we br ma i7 (m_dU ln cw se isI we br ma sfr (m_un ma i7))) (m_duN ln cw se isI we br ma sfr 6) ((m_paN pa 6).toInt)) wh)) r2 u2) : r1 = r2 := by
  rcases kq_both (I_rb I) out_iff h1 h2 with ⟨e1, e2⟩ | ⟨j, hj, hin, e1, e2⟩
  · rw [e1, e2]
  · rw [e1, e2, I_fair I hj hin]
theorem a_over {ln cw ic bs ss : Int32} {se we un sf pa isI br ma sfr : Nat → Int32} {v wh : Int32} {u2 : QS} {r1 r2 : Int64} (I : INV ln cw ic bs ss se we un sf pa isI br ma sfr) (h1 : (fun r _ => (((¬ ∃ i7, i7 < 6 ∧ v = nI i7 ∧ bt ic i7 = true) ∨ (wh < 0 ∨ 1 < wh)) ∧ r = (-9223372036854775808)) ∨ (∃ i7, i7 < 6 ∧ v = nI i7 ∧ bt ic i7 = true ∧ ¬ (wh < 0 ∨ 1 < wh) ∧ r = tellQ (Rat.divInt (x_overUp ic bs ss we un pa i7 (iL (o_du (x_E ln cw ic se we) (x_C ln cw ic we un sf (se 0) ss) (x_dn cw ic we) ((x_op ic we ss).toInt) ((x_la ic we un ss bs).toInt) ((x_sh cw ic we un (se 1) ss bs).toInt)).num) (iL (o_fd (x_E ln cw ic se we) (x_C ln cw ic we un sf (se 0) ss) (x_dn cw ic we) ((x_op ic we ss).toInt) ((x_la ic we un ss bs).toInt) ((x_sh cw ic we un (se 1) ss bs).toInt)))).toInt (o_fd (x_E ln cw ic se we) (x_C ln cw ic we un sf (se 0) ss) (x_dn cw ic we) ((x_op ic we ss).toInt) ((x_la ic we un ss bs).toInt) ((x_sh cw ic we un (se 1) ss bs).toInt))) wh)) r1 ()) (h2 : (fun r _ => (((¬ ∃ i7, i7 < 6 ∧ v = nI i7 ∧ ¬ isI i7 = 0) ∨ ¬ (0 ≤ wh ∧ wh ≤ 1)) ∧ r = (-9223372036854775808)) ∨ (∃ i7, i7 < 6 ∧ v = nI i7 ∧ ¬ isI i7 = 0 ∧ (0 ≤ wh ∧ wh ≤ 1) ∧ r = tellQ (iQ ((pa i7).toInt) - (m_fair (m_due we br ma i7 (m_dU ln cw se isI we br ma sfr (m_un ma i7))) (m_duN ln cw se isI we br ma sfr 6) ((m_paN pa 6).toInt))) wh)) r2 u2) : r1 = r2 := by
  rcases kq_both (I_rb I) out_iff h1 h2 with ⟨e1, e2⟩ | ⟨j, hj, hin, e1, e2⟩
  · rw [e1, e2]
  · rw [e1, e2, I_over I hj hin]
theorem a_gets {ln cw ic bs ss : Int32} {se we un sf pa isI br ma sfr : Nat → Int32} {mn sp wh : Int32} {u2 : QS} {r1 r2 : Int64} (I : INV ln cw ic bs ss se we un sf pa isI br ma sfr) (h1 : (fun r _ => (((mn < 0 ∨ 2 < mn) ∨ (sp < 0 ∨ 2 < sp) ∨ (wh < 0 ∨ 1 < wh)) ∧ r = (-9223372036854775808)) ∨ (¬ ((mn < 0 ∨ 2 < mn) ∨ (sp < 0 ∨ 2 < sp) ∨ (wh < 0 ∨ 1 < wh)) ∧ r = tellQ (o_du (x_E ln cw ic se we) (x_C ln cw ic we un sf mn ss) (x_dn cw ic we) ((x_op ic we ss).toInt) ((x_la ic we un ss bs).toInt) ((x_sh cw ic we un sp ss bs).toInt) + iQ (x_sumN (x_headsN ic un 6 &&& ss) sf 6).toInt) wh)) r1 ()) (h2 : (fun r _ => (¬ ((0 ≤ mn ∧ mn ≤ 2) ∧ (0 ≤ sp ∧ sp ≤ 2) ∧ (0 ≤ wh ∧ wh ≤ 1)) ∧ r = (-9223372036854775808)) ∨ (((0 ≤ mn ∧ mn ≤ 2) ∧ (0 ≤ sp ∧ sp ≤ 2) ∧ (0 ≤ wh ∧ wh ≤ 1)) ∧ r = tellQ ((m_duN ln cw (upd (upd se 0 mn) 1 sp) isI we br ma sfr 6) + iQ (m_seN isI ma sfr 6)) wh)) r2 u2) : r1 = r2 := by
  have ho : ((mn < 0 ∨ 2 < mn) ∨ (sp < 0 ∨ 2 < sp) ∨ (wh < 0 ∨ 1 < wh)) ↔ ¬ ((0 ≤ mn ∧ mn ≤ 2) ∧ (0 ≤ sp ∧ sp ≤ 2) ∧ (0 ≤ wh ∧ wh ≤ 1)) := by
    rw [out_iff, out_iff, out_iff]
    exact or3_not
  rcases h1 with ⟨o1, e1⟩ | ⟨o1, e1⟩
  · rcases h2 with ⟨o2, e2⟩ | ⟨o2, e2⟩
    · rw [e1, e2]
    · exact absurd o2 (ho.mp o1)
  · rcases h2 with ⟨o2, e2⟩ | ⟨o2, e2⟩
    · exact absurd (ho.mpr o2) o1
    · rw [e1, e2, I_G I (th_012 o2.1)]
