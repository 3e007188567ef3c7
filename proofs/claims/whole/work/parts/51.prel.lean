/-! ===== class and reference: who belongs together ===== -/
def mtt (ma : Nat → Int32) (w : Nat) : Nat := if ma w = -9 then w else m_mt ma w
section REL
variable {ic bs st ss cw cn ln : Int32} {un isI ma br sf sfr we se pa row : Nat → Int32} {w i : Nat}
theorem mt_n (h : ma w = -9) : mtt ma w = w := if_pos h
theorem mt_p (h : ¬ ma w = -9) : mtt ma w = m_mt ma w := if_neg h
theorem nI_9 : ∀ i, i < 6 → ¬ nI i = -9 := by decide +kernel
theorem mt_two (h : mok ma) (hw : w < 6) (hn : ¬ ma w = -9) : mtt ma w < 6 ∧ mtt ma w ≠ w ∧ ma w = nI (mtt ma w) ∧ ma (mtt ma w) = nI w := by
  rcases h w hw with e | ⟨i, hi, hne, e1, e2⟩
  · exact absurd e hn
  · have c : mtt ma w = i := by rw [mt_p hn]; unfold m_mt; rw [e1, nI_clamp (by omega)]
    rw [c]; exact ⟨hi, hne, e1, e2⟩
theorem mt_inv (h : mok ma) : inv6 (mtt ma) := by
  intro w hw
  by_cases hn : ma w = -9
  · rw [mt_n hn]; exact ⟨hw, mt_n hn⟩
  · obtain ⟨h1, h2, h3, h4⟩ := mt_two h hw hn
    refine ⟨h1, ?_⟩
    have b : ¬ ma (mtt ma w) = -9 := by rw [h4]; exact nI_9 w hw
    rw [mt_p b]; unfold m_mt; rw [h4, nI_clamp (by omega)]
theorem mt_eq (h : mok ma) (hw : w < 6) : ma w = -9 ↔ mtt ma w = w := ⟨mt_n, fun e => Classical.byContradiction (fun hn => (mt_two h hw hn).2.1 e)⟩
/-- who is in the case, who with whom -/
def RB (ic : Int32) (un isI ma : Nat → Int32) : Prop := mok ma ∧ (∀ w, w < 6 → (isI w = 0 ↔ ¬ bt ic w = true)) ∧ (∀ w, w < 6 → isI w = 0 → ma w = -9) ∧ (∀ w, w < 6 → ¬ isI w = 0 → un w = x_bit w ||| x_bit (mtt ma w))
/-- who has settled, for how much -/
def RS (ma sfr sf : Nat → Int32) (st : Int32) : Prop := (∀ w, w < 6 → (sfr w = -9 ↔ ¬ bt st w = true)) ∧ (∀ w, w < 6 → ¬ sfr w = -9 → sfr w = sf w) ∧ (∀ w, w < 6 → sfr (mtt ma w) = sfr w)
/-- who is broke -/
def RR (br : Nat → Int32) (bs : Int32) : Prop := ∀ w, w < 6 → (br w = 0 ↔ ¬ bt bs w = true)
def W1 (we : Nat → Int32) : Prop := ∀ w, w < 6 → 0 ≤ (we w).toInt ∧ (we w).toInt ≤ 100
theorem RB_in (h : RB ic un isI ma) (hw : w < 6) : isI (mtt ma w) = 0 ↔ isI w = 0 := by
  obtain ⟨hm, -, h3, -⟩ := h
  have hi := mt_inv hm w hw
  constructor
  · intro e
    have e2 := mt_n (h3 _ hi.1 e)
    rw [hi.2] at e2
    rw [e2]; exact e
  · intro e; rw [mt_n (h3 w hw e)]; exact e
theorem RB_bt (h : RB ic un isI ma) (hw : w < 6) : bt ic w = true ↔ ¬ isI w = 0 := by
  have := h.2.1 w hw
  constructor
  · intro e h2; exact (this.mp h2) e
  · intro e; exact Classical.byContradiction (fun h2 => e (this.mpr h2))
theorem RS_bt (h : RS ma sfr sf st) (hw : w < 6) : bt st w = true ↔ ¬ sfr w = -9 := by
  have := h.1 w hw
  constructor
  · intro e h2; exact (this.mp h2) e
  · intro e; exact Classical.byContradiction (fun h2 => e (this.mpr h2))
theorem RR_bt (h : RR br bs) (hw : w < 6) : bt bs w = true ↔ ¬ br w = 0 := by
  have := h w hw
  constructor
  · intro e h2; exact (this.mp h2) e
  · intro e; exact Classical.byContradiction (fun h2 => e (this.mpr h2))
theorem ubr_iff : m_ubr br ma w ↔ ¬ br w = 0 ∧ ¬ br (mtt ma w) = 0 := by
  by_cases h : ma w = -9
  · rw [mt_n h]; exact ⟨fun h2 => ⟨h2.1, h2.1⟩, fun h2 => ⟨h2.1, Or.inl h⟩⟩
  · rw [mt_p h]; exact ⟨fun h2 => ⟨h2.1, h2.2.elim (fun h3 => absurd h3 h) id⟩, fun h2 => ⟨h2.1, Or.inr h2.2⟩⟩
theorem isU_iff (hm : mok ma) (hw : w < 6) : m_isU isI ma w ↔ ¬ isI w = 0 ∧ w ≤ mtt ma w := by
  by_cases h : ma w = -9
  · rw [mt_n h]; exact ⟨fun h2 => ⟨h2.1, Nat.le_refl _⟩, fun h2 => ⟨h2.1, Or.inl h⟩⟩
  · obtain ⟨h1, h2, h3, -⟩ := mt_two hm hw h
    constructor
    · rintro ⟨a, b⟩
      refine ⟨a, ?_⟩
      rcases b with b | b
      · exact absurd b h
      · rw [h3] at b
        rcases Nat.lt_or_ge w (mtt ma w) with c | c
        · omega
        · exact absurd b (nI_nlt c (by omega))
    · rintro ⟨a, b⟩
      refine ⟨a, Or.inr ?_⟩
      rw [h3]
      exact nI_lt (by omega) (by omega)
theorem un_min (hm : mok ma) (hw : w < 6) : m_un ma w = min w (mtt ma w) := by
  unfold m_un
  by_cases h : ma w = -9
  · rw [if_pos h, mt_n h]; omega
  · obtain ⟨h1, h2, h3, -⟩ := mt_two hm hw h
    rw [if_neg h, ← mt_p h]
    by_cases c : mtt ma w < w
    · rw [if_pos (by rw [h3]; exact nI_lt c (by omega))]; omega
    · rw [if_neg (by rw [h3]; exact nI_nlt (by omega) (by omega))]; omega
theorem uw_I (hm : mok ma) (hw : w < 6) (hW : W1 we) : (m_uw we ma w).toInt = (we w).toInt + (if mtt ma w = w then 0 else (we (mtt ma w)).toInt) := by
  unfold m_uw
  have h1 := hW w hw
  by_cases h : ma w = -9
  · rw [if_pos h, if_pos (mt_n h), i32_add (by show _ ≤ _ + (0 : Int); omega) (by show _ + (0 : Int) < _; omega)]; rfl
  · obtain ⟨h2, h3, -, -⟩ := mt_two hm hw h
    have h4 := hW _ h2
    rw [if_neg h, if_neg h3, ← mt_p h, i32_add (by omega) (by omega)]
theorem uw_mt (hm : mok ma) (hw : w < 6) (hW : W1 we) : m_uw we ma (mtt ma w) = m_uw we ma w := by
  have hi := mt_inv hm w hw
  apply Int32.toInt_inj.mp
  rw [uw_I hm hi.1 hW, uw_I hm hw hW, hi.2]
  by_cases e : mtt ma w = w
  · rw [if_pos e, if_pos (by omega), e]
  · rw [if_neg e, if_neg (by omega)]; omega
theorem uw_bd (hm : mok ma) (hw : w < 6) (hW : W1 we) : 0 ≤ (m_uw we ma w).toInt ∧ (m_uw we ma w).toInt ≤ 200 := by
  rw [uw_I hm hw hW]
  have h1 := hW w hw
  have h2 := hW _ (mt_inv hm w hw).1
  split <;> omega
-- ---- sums
theorem x_sum_I {set : Int32} {M : Nat} (h : ∀ i, i < 6 → 0 ≤ (row i).toInt ∧ (row i).toInt ≤ M) (hM : M ≤ 10000000) : (x_sumN set row 6).toInt = sN (fun i => if bt set i = true then (row i).toInt else 0) 6 := by
  have g := acc_I (z := x_sumN set row) (d := fun i => if bt set i = true then row i else 0) (c := 0) (M := M) rfl (by omega)
    (fun i hi => by
      show (if bt set i = true then x_sumN set row i + row i else x_sumN set row i) = _ + (if bt set i = true then row i else 0)
      split
      · rfl
      · rw [Int32.add_zero])
    (fun i hi => by
      have := h i hi
      show 0 ≤ (if bt set i = true then row i else 0).toInt ∧ (if bt set i = true then row i else 0).toInt ≤ M
      split
      · exact this
      · exact ⟨by decide, by show (0 : Int) ≤ M; omega⟩) hM 6 (Nat.le_refl _)
  rw [g, Int.zero_add]
  refine sN_congr (fun i hi => ?_)
  show (if bt set i = true then row i else 0).toInt = _
  split <;> rfl
theorem un_I (h : RB ic un isI ma) (hw : w < 6) (hin : ¬ isI w = 0) (V : Nat → Int) : sN (fun i => if bt (un w) i = true then V i else 0) 6 = V w + (if mtt ma w = w then 0 else V (mtt ma w)) := by
  have hi := mt_inv h.1 w hw
  rw [h.2.2.2 w hw hin]
  by_cases e : mtt ma w = w
  · rw [if_pos e, e]
    have e2 : sN (fun i => if bt (x_bit w ||| x_bit w) i = true then V i else 0) 6 = sN (fun i => if i = w then V i else 0) 6 := sN_congr (fun i hi => by
      by_cases c : i = w
      · rw [if_pos c, if_pos ((bt_un hw hw).mpr (Or.inl c))]
      · rw [if_neg c, if_neg (fun h2 => c (((bt_un hw hw).mp h2).elim id id))])
    rw [e2, sN_one, if_pos hw]; omega
  · rw [if_neg e]
    have e2 : sN (fun i => if bt (x_bit w ||| x_bit (mtt ma w)) i = true then V i else 0) 6 = sN (fun i => (if i = w then V i else 0) + (if i = mtt ma w then V i else 0)) 6 := sN_congr (fun i hi2 => by
      by_cases c : i = w
      · rw [if_pos c, if_pos ((bt_un hw hi.1).mpr (Or.inl c)), if_neg (by omega)]; omega
      · by_cases c2 : i = mtt ma w
        · rw [if_neg c, if_pos c2, if_pos ((bt_un hw hi.1).mpr (Or.inr c2))]; omega
        · rw [if_neg c, if_neg c2, if_neg (fun h2 => ((bt_un hw hi.1).mp h2).elim c c2)]; omega)
    rw [e2, sN_add, sN_one, sN_one, if_pos hw, if_pos hi.1]
theorem x_uw (h : RB ic un isI ma) (hw : w < 6) (hin : ¬ isI w = 0) (hW : W1 we) : x_sumN (un w) we 6 = m_uw we ma w := by
  apply Int32.toInt_inj.mp
  rw [x_sum_I (M := 100) hW (by omega), un_I h hw hin (fun i => (we i).toInt), uw_I h.1 hw hW]
theorem bl_I (hW : W1 we) (hc : 0 ≤ cn.toInt ∧ cn.toInt ≤ 100) : (m_blN cn isI we 6).toInt = cn.toInt + sN (fun i => if isI i = 0 then 0 else (we i).toInt) 6 := by
  have g := acc_I (z := m_blN cn isI we) (d := fun i => if isI i = 0 then 0 else we i) (c := cn.toInt) (M := 100) rfl (by omega) (fun i hi => rfl)
    (fun i hi => by
      have := hW i hi
      show 0 ≤ (if isI i = 0 then 0 else we i).toInt ∧ (if isI i = 0 then 0 else we i).toInt ≤ ((100 : Nat) : Int)
      split
      · exact ⟨by decide, by decide⟩
      · exact this) (by omega) 6 (Nat.le_refl _)
  rw [g]
  congr 1
  refine sN_congr (fun i hi => ?_)
  show (if isI i = 0 then 0 else we i).toInt = _
  split <;> rfl
theorem in_I (h : RB ic un isI ma) (V : Nat → Int) : sN (fun i => if bt ic i = true then V i else 0) 6 = sN (fun i => if isI i = 0 then 0 else V i) 6 := sN_congr (fun i hi => by
  by_cases e : isI i = 0
  · rw [if_pos e, if_neg ((h.2.1 i hi).mp e)]
  · rw [if_neg e, if_pos ((RB_bt h hi).mpr e)])
theorem in_bd (hW : W1 we) : 0 ≤ sN (fun i => if isI i = 0 then 0 else (we i).toInt) 6 ∧ sN (fun i => if isI i = 0 then 0 else (we i).toInt) 6 ≤ 600 := by
  have := sN_bd (f := fun i => if isI i = 0 then 0 else (we i).toInt) (M := 100) (n := 6) (fun i hi => by
    have := hW i hi
    show 0 ≤ (if isI i = 0 then 0 else (we i).toInt) ∧ (if isI i = 0 then 0 else (we i).toInt) ≤ ((100 : Nat) : Int)
    split <;> omega)
  omega
theorem bl_eq (h : RB ic un isI ma) (hW : W1 we) (hc : 0 ≤ cw.toInt ∧ cw.toInt ≤ 100) : x_blame cw ic we = m_blN cw isI we 6 := by
  apply Int32.toInt_inj.mp
  have e := x_sum_I (set := ic) (M := 100) hW (by omega)
  rw [in_I h] at e
  have b := in_bd (isI := isI) hW
  unfold x_blame
  rw [bl_I hW hc, i32_add (by omega) (by omega), e]
-- ---- heads of units, broke units
theorem heads_ex (n : Nat) : bt (x_headsN ic un n) i = true ↔ ∃ w, w < n ∧ bt ic w = true ∧ bt (un w &&& -(un w)) i = true := by
  induction n with
  | zero => exact ⟨fun h => absurd ((b_0 i).symm.trans h) (by decide), fun ⟨w, h, _⟩ => absurd h (Nat.not_lt_zero w)⟩
  | succ n ih =>
    show bt (if bt ic n = true then x_headsN ic un n ||| (un n &&& -(un n)) else x_headsN ic un n) i = true ↔ _
    by_cases c : bt ic n = true
    · rw [if_pos c, b_or, Bool.or_eq_true, ih]
      constructor
      · rintro (⟨w, h1, h2⟩ | h)
        · exact ⟨w, by omega, h2⟩
        · exact ⟨n, by omega, c, h⟩
      · rintro ⟨w, h1, h2, h3⟩
        rcases (show w < n ∨ w = n by omega) with h | rfl
        · exact Or.inl ⟨w, h, h2, h3⟩
        · exact Or.inr h3
    · rw [if_neg c, ih]
      constructor
      · rintro ⟨w, h1, h2⟩; exact ⟨w, by omega, h2⟩
      · rintro ⟨w, h1, h2, h3⟩
        rcases (show w < n ∨ w = n by omega) with h | rfl
        · exact ⟨w, h, h2, h3⟩
        · exact absurd h2 c
theorem heads_iff (h : RB ic un isI ma) : bt (x_headsN ic un 6) i = true ↔ i < 6 ∧ m_isU isI ma i := by
  rw [heads_ex]
  constructor
  · rintro ⟨w, hw, h2, h3⟩
    have hin := (RB_bt h hw).mp h2
    have hi := mt_inv h.1 w hw
    rw [h.2.2.2 w hw hin, un_low w hw _ hi.1, bt_b (by omega), decide_eq_true_iff] at h3
    rcases Nat.le_total w (mtt ma w) with c | c
    · have e : i = w := by omega
      subst e
      exact ⟨hw, (isU_iff h.1 hw).mpr ⟨hin, c⟩⟩
    · have e : i = mtt ma w := by omega
      subst e
      exact ⟨hi.1, (isU_iff h.1 hi.1).mpr ⟨fun e => hin ((RB_in h hw).mp e), by rw [hi.2]; exact c⟩⟩
  · rintro ⟨hi, hu⟩
    have hu := (isU_iff h.1 hi).mp hu
    have hm := mt_inv h.1 i hi
    refine ⟨i, hi, (RB_bt h hi).mpr hu.1, ?_⟩
    rw [h.2.2.2 i hi hu.1, un_low i hi _ hm.1, bt_b (by omega), decide_eq_true_iff]
    omega
theorem ob_ex (n : Nat) (hn : n ≤ 6) : bt (x_obN ic un st bs n) i = true ↔ i < n ∧ bt ic i = true ∧ ¬ bt st i = true ∧ un i &&& (bs ^^^ (-1)) = 0 := by
  induction n with
  | zero => exact ⟨fun h => absurd ((b_0 i).symm.trans h) (by decide), fun h => absurd h.1 (Nat.not_lt_zero i)⟩
  | succ n ih =>
    have ih := ih (by omega)
    show bt (if bt (ic &&& (st ^^^ (-1))) n = true then (if un n &&& (bs ^^^ (-1)) = 0 then x_obN ic un st bs n ||| x_bit n else x_obN ic un st bs n) else x_obN ic un st bs n) i = true ↔ _
    have c0 : bt (ic &&& (st ^^^ (-1))) n = true ↔ bt ic n = true ∧ ¬ bt st n = true := by
      rw [b_and, bt_not st (by omega), Bool.and_eq_true]
      cases bt st n <;> simp
    by_cases c : bt (ic &&& (st ^^^ (-1))) n = true
    · rw [if_pos c]
      by_cases c2 : un n &&& (bs ^^^ (-1)) = 0
      · rw [if_pos c2, b_or, Bool.or_eq_true, ih, bt_b (by omega), decide_eq_true_iff]
        constructor
        · rintro (⟨h1, h2⟩ | rfl)
          · exact ⟨by omega, h2⟩
          · exact ⟨by omega, (c0.mp c).1, (c0.mp c).2, c2⟩
        · rintro ⟨h1, h2⟩
          rcases (show i < n ∨ i = n by omega) with h | h
          · exact Or.inl ⟨h, h2⟩
          · exact Or.inr h
      · rw [if_neg c2, ih]
        constructor
        · rintro ⟨h1, h2⟩; exact ⟨by omega, h2⟩
        · rintro ⟨h1, h2⟩
          rcases (show i < n ∨ i = n by omega) with h | rfl
          · exact ⟨h, h2⟩
          · exact absurd h2.2.2 c2
    · rw [if_neg c, ih]
      constructor
      · rintro ⟨h1, h2⟩; exact ⟨by omega, h2⟩
      · rintro ⟨h1, h2⟩
        rcases (show i < n ∨ i = n by omega) with h | rfl
        · exact ⟨h, h2⟩
        · exact absurd (c0.mpr ⟨h2.1, h2.2.1⟩) c
theorem ob_iff (h : RB ic un isI ma) (hs : RS ma sfr sf st) (hr : RR br bs) : bt (x_obN ic un st bs 6) i = true ↔ i < 6 ∧ ¬ isI i = 0 ∧ sfr i = -9 ∧ m_ubr br ma i := by
  rw [ob_ex 6 (Nat.le_refl _)]
  constructor
  · rintro ⟨hi, h1, h2, h3⟩
    have hin := (RB_bt h hi).mp h1
    have hm := mt_inv h.1 i hi
    rw [h.2.2.2 i hi hin, un_sub hi hm.1] at h3
    exact ⟨hi, hin, (hs.1 i hi).mpr h2, ubr_iff.mpr ⟨(RR_bt hr hi).mp h3.1, (RR_bt hr hm.1).mp h3.2⟩⟩
  · rintro ⟨hi, hin, h2, h3⟩
    have hm := mt_inv h.1 i hi
    have h3 := ubr_iff.mp h3
    refine ⟨hi, (RB_bt h hi).mpr hin, (hs.1 i hi).mp h2, ?_⟩
    rw [h.2.2.2 i hi hin, un_sub hi hm.1]
    exact ⟨(RR_bt hr hi).mpr h3.1, (RR_bt hr hm.1).mpr h3.2⟩
end REL
