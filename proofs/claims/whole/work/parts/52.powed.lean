/-! ===== what is owed: class and reference ===== -/
section OWE
variable {ic bs st cw ln mn sp : Int32} {un isI ma br sf sfr we se pa se2 : Nat → Int32} {w i : Nat}
def p1 (isI sfr : Nat → Int32) (w : Nat) : Bool := decide (¬ isI w = 0 ∧ sfr w = -9)
def p2 (br ma : Nat → Int32) (w : Nat) : Bool := decide (m_ubr br ma w)
theorem p1_mt (h : RB ic un isI ma) (hs : RS ma sfr sf st) (hw : w < 6) : p1 isI sfr (mtt ma w) = p1 isI sfr w := by
  unfold p1
  have e := RB_in h hw
  have e2 := hs.2.2 w hw
  rw [e2]
  exact decide_eq_decide.mpr ⟨fun h2 => ⟨fun h3 => h2.1 (e.mpr h3), h2.2⟩, fun h2 => ⟨fun h3 => h2.1 (e.mp h3), h2.2⟩⟩
theorem p2_mt (hm : mok ma) (hw : w < 6) : p2 br ma (mtt ma w) = p2 br ma w := by
  unfold p2
  have e := (mt_inv hm w hw).2
  refine decide_eq_decide.mpr ?_
  rw [ubr_iff, ubr_iff, e]
  exact ⟨fun h => ⟨h.2, h.1⟩, fun h => ⟨h.2, h.1⟩⟩
theorem m_op_I (z : Int32) (hm : mok ma) (hW : W1 we) (p : Nat → Bool) (hp : ∀ w, w < 6 → p (mtt ma w) = p w) (hc : ∀ u, u < 6 → ((m_isU isI ma u ∧ sfr u = -9 ∧ (¬ z = 0 ∨ ¬ m_ubr br ma u)) ↔ (p u = true ∧ u ≤ mtt ma u))) :
    (m_opN z isI we br ma sfr 6).toInt = sN (fun w => if p w = true then (we w).toInt else 0) 6 ∧ (∀ u, u < 6 → (m_isU isI ma u ∧ sfr u = -9 ∧ (¬ z = 0 ∨ ¬ m_ubr br ma u)) → (m_uw we ma u).toInt ≤ (m_opN z isI we br ma sfr 6).toInt) := by
  have hd : ∀ i, i < 6 → 0 ≤ (if m_isU isI ma i ∧ sfr i = -9 ∧ (¬ z = 0 ∨ ¬ m_ubr br ma i) then m_uw we ma i else 0).toInt ∧ (if m_isU isI ma i ∧ sfr i = -9 ∧ (¬ z = 0 ∨ ¬ m_ubr br ma i) then m_uw we ma i else 0).toInt ≤ ((200 : Nat) : Int) := fun i hi => by
    have := uw_bd hm hi hW
    split
    · exact this
    · exact ⟨by decide, by decide⟩
  have g := acc_I (z := m_opN z isI we br ma sfr) (d := fun i => if m_isU isI ma i ∧ sfr i = -9 ∧ (¬ z = 0 ∨ ¬ m_ubr br ma i) then m_uw we ma i else 0) (c := 0) (M := 200) rfl (by omega) (fun i hi => rfl) hd (by omega) 6 (Nat.le_refl _)
  rw [Int.zero_add] at g
  constructor
  · rw [g, ← sN_unit (mt_inv hm) p hp (fun w => (we w).toInt)]
    refine sN_congr (fun i hi => ?_)
    show (if m_isU isI ma i ∧ sfr i = -9 ∧ (¬ z = 0 ∨ ¬ m_ubr br ma i) then m_uw we ma i else 0).toInt = _
    by_cases c : p i = true ∧ i ≤ mtt ma i
    · rw [if_pos c, if_pos ((hc i hi).mpr c), uw_I hm hi hW]
    · rw [if_neg c, if_neg (fun h2 => c ((hc i hi).mp h2))]; rfl
  · intro u hu hcu
    rw [g]
    have := sN_ge (f := fun i => (if m_isU isI ma i ∧ sfr i = -9 ∧ (¬ z = 0 ∨ ¬ m_ubr br ma i) then m_uw we ma i else 0).toInt) (n := 6) (j := u) (fun i hi => (hd i hi).1) hu
    have e : (if m_isU isI ma u ∧ sfr u = -9 ∧ (¬ z = 0 ∨ ¬ m_ubr br ma u) then m_uw we ma u else 0) = m_uw we ma u := if_pos hcu
    rw [e] at this
    exact this
theorem op1_I (h : RB ic un isI ma) (hs : RS ma sfr sf st) (hW : W1 we) : (m_opN 1 isI we br ma sfr 6).toInt = sN (fun w => if p1 isI sfr w = true then (we w).toInt else 0) 6 :=
  (m_op_I 1 h.1 hW (p1 isI sfr) (fun w hw => p1_mt h hs hw) (fun u hu => by
    rw [isU_iff h.1 hu]
    unfold p1
    rw [decide_eq_true_iff]
    exact ⟨fun h2 => ⟨⟨h2.1.1, h2.2.1⟩, h2.1.2⟩, fun h2 => ⟨⟨h2.1.1, h2.2⟩, h2.1.2, Or.inl (by decide)⟩⟩)).1
theorem op0_c (h : RB ic un isI ma) {u : Nat} (hu : u < 6) : ((m_isU isI ma u ∧ sfr u = -9 ∧ (¬ (0 : Int32) = 0 ∨ ¬ m_ubr br ma u)) ↔ ((p1 isI sfr u && !p2 br ma u) = true ∧ u ≤ mtt ma u)) := by
  rw [isU_iff h.1 hu, Bool.and_eq_true]
  unfold p1 p2
  rw [decide_eq_true_iff, Bool.not_eq_true', decide_eq_false_iff_not]
  exact ⟨fun h2 => ⟨⟨⟨h2.1.1, h2.2.1⟩, h2.2.2.elim (fun h3 => absurd rfl h3) id⟩, h2.1.2⟩, fun h2 => ⟨⟨h2.1.1.1, h2.2⟩, h2.1.1.2, Or.inr h2.1.2⟩⟩
theorem op0_I (h : RB ic un isI ma) (hs : RS ma sfr sf st) (hW : W1 we) : (m_opN 0 isI we br ma sfr 6).toInt = sN (fun w => if (p1 isI sfr w && !p2 br ma w) = true then (we w).toInt else 0) 6 ∧ (∀ u, u < 6 → m_isU isI ma u → sfr u = -9 → ¬ m_ubr br ma u → (m_uw we ma u).toInt ≤ (m_opN 0 isI we br ma sfr 6).toInt) := by
  have g := m_op_I (br := br) (sfr := sfr) (isI := isI) 0 h.1 hW (fun w => p1 isI sfr w && !p2 br ma w) (fun w hw => by rw [p1_mt h hs hw, p2_mt h.1 hw]) (fun u hu => op0_c h hu)
  exact ⟨g.1, fun u hu h1 h2 h3 => g.2 u hu ⟨h1, h2, Or.inr h3⟩⟩
theorem x_op_I (h : RB ic un isI ma) (hs : RS ma sfr sf st) (hW : W1 we) : (x_op ic we st).toInt = sN (fun w => if p1 isI sfr w = true then (we w).toInt else 0) 6 := by
  unfold x_op
  rw [x_sum_I (M := 100) hW (by omega)]
  refine sN_congr (fun i hi => ?_)
  have c : bt (ic &&& (st ^^^ (-1))) i = true ↔ p1 isI sfr i = true := by
    unfold p1
    rw [b_and, bt_not st (by omega), Bool.and_eq_true, decide_eq_true_iff, RB_bt h hi, hs.1 i hi]
    cases bt st i <;> simp
  by_cases c2 : p1 isI sfr i = true
  · rw [if_pos c2, if_pos (c.mpr c2)]
  · rw [if_neg c2, if_neg (fun h2 => c2 (c.mp h2))]
theorem x_la_I (h : RB ic un isI ma) (hs : RS ma sfr sf st) (hr : RR br bs) (hW : W1 we) : (x_la ic we un st bs).toInt = sN (fun w => if (p1 isI sfr w && p2 br ma w) = true then (we w).toInt else 0) 6 := by
  unfold x_la
  rw [x_sum_I (M := 100) hW (by omega)]
  refine sN_congr (fun i hi => ?_)
  have c : bt (x_obN ic un st bs 6) i = true ↔ (p1 isI sfr i && p2 br ma i) = true := by
    rw [ob_iff h hs hr, Bool.and_eq_true]
    unfold p1 p2
    rw [decide_eq_true_iff, decide_eq_true_iff]
    exact ⟨fun h2 => ⟨⟨h2.2.1, h2.2.2.1⟩, h2.2.2.2⟩, fun h2 => ⟨hi, h2.1.1, h2.1.2, h2.2⟩⟩
  by_cases c2 : (p1 isI sfr i && p2 br ma i) = true
  · rw [if_pos c2, if_pos (c.mpr c2)]
  · rw [if_neg c2, if_neg (fun h2 => c2 (c.mp h2))]
theorem w_nn (hW : W1 we) (p : Nat → Bool) : 0 ≤ sN (fun w => if p w = true then (we w).toInt else 0) 6 ∧ sN (fun w => if p w = true then (we w).toInt else 0) 6 ≤ 600 := by
  have := sN_bd (f := fun w => if p w = true then (we w).toInt else 0) (M := 100) (n := 6) (fun i hi => by
    have := hW i hi
    show 0 ≤ (if p i = true then (we i).toInt else 0) ∧ (if p i = true then (we i).toInt else 0) ≤ ((100 : Nat) : Int)
    split <;> omega)
  omega
/-- the weights of the open ones: all, those of broke units, the others -/
theorem op_all (h : RB ic un isI ma) (hs : RS ma sfr sf st) (hr : RR br bs) (hW : W1 we) : x_op ic we st = m_opN 1 isI we br ma sfr 6 ∧ (m_opN 0 isI we br ma sfr 6).toInt = (x_op ic we st).toInt - (x_la ic we un st bs).toInt ∧ 0 ≤ (x_la ic we un st bs).toInt ∧ (x_la ic we un st bs).toInt ≤ (x_op ic we st).toInt ∧ (x_op ic we st).toInt ≤ 600 := by
  have e1 := x_op_I h hs hW
  have e2 := op1_I (br := br) h hs hW
  have e3 := x_la_I h hs hr hW
  have e4 := (op0_I (br := br) h hs hW).1
  have b1 := w_nn hW (p1 isI sfr)
  have b2 := w_nn hW (fun w => p1 isI sfr w && p2 br ma w)
  have b3 := w_nn hW (fun w => p1 isI sfr w && !p2 br ma w)
  have e5 : sN (fun w => if p1 isI sfr w = true then (we w).toInt else 0) 6 = sN (fun w => if (p1 isI sfr w && !p2 br ma w) = true then (we w).toInt else 0) 6 + sN (fun w => if (p1 isI sfr w && p2 br ma w) = true then (we w).toInt else 0) 6 := by
    rw [← sN_add]
    refine sN_congr (fun i hi => ?_)
    cases p1 isI sfr i <;> cases p2 br ma i <;> simp
  exact ⟨Int32.toInt_inj.mp (by rw [e1, e2]), by omega, by omega, by omega, by omega⟩
theorem ab_eq (h : RB ic un isI ma) (hs : RS ma sfr sf st) (hr : RR br bs) (hW : W1 we) : x_op ic we st - x_la ic we un st bs = m_opN 0 isI we br ma sfr 6 := by
  obtain ⟨-, h2, h3, h4, h5⟩ := op_all h hs hr hW
  apply Int32.toInt_inj.mp
  rw [h2, i32_sub (by omega) (by omega)]
theorem sh_eq (h : RB ic un isI ma) (hs : RS ma sfr sf st) (hr : RR br bs) (hW : W1 we) (he : se2 1 = sp) : x_sh cw ic we un sp st bs = m_am se2 cw (m_opN 0 isI we br ma sfr 6) := by
  unfold x_sh m_am
  rw [ab_eq h hs hr hW, he]
theorem sh_bd (h : RB ic un isI ma) (hs : RS ma sfr sf st) (hr : RR br bs) (hW : W1 we) (hc : 0 ≤ cw.toInt ∧ cw.toInt ≤ 100) : 0 ≤ (x_sh cw ic we un sp st bs).toInt ∧ (x_sh cw ic we un sp st bs).toInt ≤ 700 ∧ ((x_sh cw ic we un sp st bs).toInt = 0 ∨ (x_op ic we st).toInt - (x_la ic we un st bs).toInt ≤ (x_sh cw ic we un sp st bs).toInt) := by
  obtain ⟨-, -, h3, h4, h5⟩ := op_all h hs hr hW
  have e : (x_op ic we st - x_la ic we un st bs).toInt = (x_op ic we st).toInt - (x_la ic we un st bs).toInt := i32_sub (by omega) (by omega)
  unfold x_sh
  split
  · omega
  · split
    · rw [i32_add (by omega) (by omega)]; omega
    · exact ⟨by decide, by decide, Or.inl rfl⟩
-- ---- lower number, entitled
theorem bl_bd (h : RB ic un isI ma) (hW : W1 we) (hc : 0 ≤ cw.toInt ∧ cw.toInt ≤ 100) : cw.toInt ≤ (m_blN cw isI we 6).toInt ∧ (m_blN cw isI we 6).toInt ≤ 700 ∧ x_dn cw ic we = (if (m_blN cw isI we 6).toInt = 0 then 1 else (m_blN cw isI we 6).toInt) ∧ 1 ≤ x_dn cw ic we ∧ x_dn cw ic we ≤ 700 ∧ (x_bd cw ic we).toInt = x_dn cw ic we := by
  have e := bl_I (isI := isI) hW hc
  have b := in_bd (isI := isI) hW
  have e2 : x_dn cw ic we = (if (m_blN cw isI we 6).toInt = 0 then 1 else (m_blN cw isI we 6).toInt) := by
    unfold x_dn x_bd
    rw [bl_eq h hW hc]
    by_cases c : m_blN cw isI we 6 < 1
    · have c2 := Int32.lt_iff_toInt_lt.mp c
      have c2 : (m_blN cw isI we 6).toInt < 1 := c2
      rw [if_pos c, if_pos (by omega)]; rfl
    · have c2 : ¬ (m_blN cw isI we 6).toInt < 1 := fun h2 => c (Int32.lt_iff_toInt_lt.mpr h2)
      rw [if_neg c, if_neg (by omega)]
  refine ⟨by omega, by omega, e2, ?_, ?_, rfl⟩
  · rw [e2]; split <;> omega
  · rw [e2]; split <;> omega
theorem q_z (d : Int) : Rat.divInt 0 d = 0 := by rw [rq_eq, Rat.intCast_zero, Rat.div_def, Rat.zero_mul]
theorem ent_I (h : RB ic un isI ma) (hW : W1 we) (hc : 0 ≤ cw.toInt ∧ cw.toInt ≤ 100) (hl : 0 ≤ ln.toInt ∧ ln.toInt ≤ 1000000) : x_E ln cw ic se we = (if 100 * cw ≤ se 2 * m_blN cw isI we 6 then ln.toInt * ((m_blN cw isI we 6).toInt - cw.toInt) else 0) ∧ 0 ≤ x_E ln cw ic se we ∧ x_E ln cw ic se we ≤ 1000000 * x_dn cw ic we := by
  obtain ⟨b1, b2, b3, b4, b5, -⟩ := bl_bd h hW hc
  have e1 : (m_blN cw isI we 6 - cw).toInt = (m_blN cw isI we 6).toInt - cw.toInt := i32_sub (by omega) (by omega)
  have hm := mul_bd hl.1 hl.2 (b := (m_blN cw isI we 6).toInt - cw.toInt) (y := (m_blN cw isI we 6).toInt - cw.toInt) (by omega) (by omega)
  have hE : x_E ln cw ic se we = (if 100 * cw ≤ se 2 * m_blN cw isI we 6 then ln.toInt * ((m_blN cw isI we 6).toInt - cw.toInt) else 0) := by
    unfold x_E x_ent
    rw [bl_eq h hW hc]
    split
    · rw [iL_32, iL_32, iL_mul, e1]
      exact iL_t (by unfold rng; omega)
    · rfl
  refine ⟨hE, ?_⟩
  rw [hE]
  have hd : (m_blN cw isI we 6).toInt ≤ x_dn cw ic we := by rw [b3]; split <;> omega
  split <;> omega
theorem ent_eq (h : RB ic un isI ma) (hW : W1 we) (hc : 0 ≤ cw.toInt ∧ cw.toInt ≤ 100) (hl : 0 ≤ ln.toInt ∧ ln.toInt ≤ 1000000) (he : se2 2 = se 2) : m_ent ln cw se2 isI we = Rat.divInt (x_E ln cw ic se we) (x_dn cw ic we) := by
  obtain ⟨b1, b2, b3, b4, b5, -⟩ := bl_bd h hW hc
  obtain ⟨hE, -, -⟩ := ent_I (se := se) h hW hc hl
  rw [hE]
  unfold m_ent
  rw [he]
  by_cases c : m_blN cw isI we 6 = 0
  · have c2 := i32_0.mp c
    rw [if_pos c, q_z]
    have e : ln.toInt * ((m_blN cw isI we 6).toInt - cw.toInt) = 0 := by rw [show (m_blN cw isI we 6).toInt - cw.toInt = 0 by omega, Int.mul_zero]
    rw [e, ite_self, q_z]
  · have c2 : ¬ (m_blN cw isI we 6).toInt = 0 := fun h2 => c (i32_0.mpr h2)
    have e1 : (m_blN cw isI we 6 - cw).toInt = (m_blN cw isI we 6).toInt - cw.toInt := i32_sub (by omega) (by omega)
    rw [if_neg c, b3, if_neg c2]
    split
    · rw [e1]
    · rw [q_z, q_z]
end OWE
