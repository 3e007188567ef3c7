/-! ===== the answers are the same: what is asked (2) ===== -/
section ASK2
variable {ln cw ic bs ss : Int32} {se we un sf pa isI br ma sfr : Nat → Int32} {j : Nat}
theorem i32_neg {x : Int32} (h : -2147483648 < x.toInt) : (-x).toInt = -x.toInt := by
  have e : -x = 0 - x := by rw [Int32.zero_sub]
  have h0 : ((0 : Int32)).toInt = 0 := rfl
  have hb := Int32.toInt_lt x
  rw [e, i32_sub (by rw [h0]; omega) (by rw [h0]; omega), h0]; omega
theorem q_nn2 {n d : Int} (hn : 0 ≤ n) (hd : 0 ≤ d) : 0 ≤ Rat.divInt n d := by
  rcases (show d = 0 ∨ 0 < d by omega) with rfl | h
  · rw [Rat.divInt_zero]; exact Rat.le_refl
  · exact Rat.num_nonneg.mp ((q_nn n h).mpr hn)
theorem pw_nn {E C dn op la sh : Int} (h : o_ok E C dn op la sh) : 0 ≤ o_pw E C dn op la sh := by
  have hR := o_R_bd h
  obtain ⟨-, -, -, -, h5, -, h7, h8, -, h10, -, -⟩ := h
  unfold o_pw
  have h9 : 0 ≤ dn * op := Int.mul_nonneg (by omega) (by omega)
  split
  · exact q_nn2 hR.1 h9
  · exact q_nn2 (Int.mul_nonneg hR.1 (by omega)) (Int.mul_nonneg h9 h10)
theorem pw_num {P : Rat} (hP : 0 ≤ P) (h0 : ¬ P = 0) {b : Int} (hb : 0 ≤ b) : (P * iQ b).num ≤ 0 ↔ b = 0 := by
  constructor
  · intro h
    have h1 : 0 ≤ P * iQ b := Rat.mul_nonneg hP (Rat.intCast_nonneg.mpr hb)
    have h2 := Rat.num_nonneg.mpr h1
    have h3 := Rat.num_eq_zero.mp (show (P * iQ b).num = 0 by omega)
    rcases Rat.mul_eq_zero.mp h3 with h4 | h4
    · exact absurd h4 h0
    · exact Rat.intCast_eq_zero_iff.mp h4
  · intro h; rw [h]
    have : P * iQ 0 = 0 := Rat.mul_zero P
    rw [this]; exact Int.le_refl _
theorem owe_eq (I : INV ln cw ic bs ss se we un sf pa isI br ma sfr) : ∀ n, n ≤ 6 → m_oweN ln cw se isI we br ma sfr n = if (xPW ln cw ic se we un sf (se 0) (se 1) ss bs).num = 0 then 0 else x_oweN ic bs ss we un n := by
  intro n
  induction n with
  | zero => intro _; rw [show x_oweN ic bs ss we un 0 = 0 from rfl, ite_self]; rfl
  | succ n ih =>
    intro hn
    have ih := ih (by omega)
    show (if isI n = 0 then m_oweN ln cw se isI we br ma sfr n else m_oweN ln cw se isI we br ma sfr n ||| (if (m_due we br ma n (m_dU ln cw se isI we br ma sfr (m_un ma n))).num ≤ 0 then 0 else (1 : Int32) <<< (nI n &&& 31))) = if (xPW ln cw ic se we un sf (se 0) (se 1) ss bs).num = 0 then 0 else (if bt ic n = true then (if x_bears bs ss we un n ≤ 0 then x_oweN ic bs ss we un n else x_oweN ic bs ss we un n ||| x_bit n) else x_oweN ic bs ss we un n)
    by_cases hin : isI n = 0
    · rw [if_pos hin, ih, if_neg (((I_rb I).2.1 n (by omega)).mp hin)]
    · rw [if_neg hin, ih, if_pos ((RB_bt (I_rb I) (by omega)).mpr hin), I_due I (by omega) hin]
      have hb := be_bd (bs := bs) (ss := ss) (un := un) (j := n) (I_w I) (by omega)
      have hP : 0 ≤ xPW ln cw ic se we un sf (se 0) (se 1) ss bs := pw_nn (I_ok I (se 0) (se 1))
      by_cases c : (xPW ln cw ic se we un sf (se 0) (se 1) ss bs).num = 0
      · rw [if_pos c, if_pos c]
        have c2 := Rat.num_eq_zero.mp c
        have e : (xPW ln cw ic se we un sf (se 0) (se 1) ss bs * iQ (x_bears bs ss we un n).toInt).num ≤ 0 := by rw [c2, Rat.zero_mul]; exact Int.le_refl _
        rw [if_pos e, Int32.or_zero]
      · rw [if_neg c, if_neg c]
        have g := pw_num hP (fun h => c (Rat.num_eq_zero.mpr h)) hb.1
        by_cases c2 : (x_bears bs ss we un n).toInt = 0
        · have c3 : x_bears bs ss we un n ≤ 0 := Int32.le_iff_toInt_le.mpr (by show _ ≤ (0 : Int); omega)
          rw [if_pos (g.mpr c2), if_pos c3, Int32.or_zero]
        · have c3 : ¬ x_bears bs ss we un n ≤ 0 := fun h => by
            have h : (x_bears bs ss we un n).toInt ≤ 0 := Int32.le_iff_toInt_le.mp h
            omega
          rw [if_neg (fun h => c2 (g.mp h)), if_neg c3]; rfl
theorem nb_if {b : Bool} {c : Prop} [Decidable c] (h : b = true ↔ c) : nb b = if c then 1 else 0 := by
  unfold nb
  by_cases k : c
  · rw [if_pos k, if_pos (h.mpr k)]
  · rw [if_neg k, if_neg (fun h2 => k (h.mp h2))]
theorem pc_in (I : INV ln cw ic bs ss se we un sf pa isI br ma sfr) : x_pc ic = m_inN isI 6 := by
  have g : ∀ i, i < 6 → nb (bt ic i) = (if isI i = 0 then 0 else 1) := fun i hi => by
    unfold nb
    by_cases k : isI i = 0
    · rw [if_pos k, if_neg (((I_rb I).2.1 i hi).mp k)]
    · rw [if_neg k, if_pos ((RB_bt (I_rb I) hi).mpr k)]
  rw [pc_sum (I_hi I), g 0 (by omega), g 1 (by omega), g 2 (by omega), g 3 (by omega), g 4 (by omega), g 5 (by omega)]
  rfl
theorem pc_mu {x z1 z2 : Int32} (hb : ∀ i, i < 32 → (bt x i = true ↔ i < 6 ∧ (m_isU isI ma i ∧ (z1 = 0 ∨ ¬ sfr i = -9) ∧ (z2 = 0 ∨ (sfr i = -9 ∧ m_ubr br ma i))))) : x_pc x = m_muN z1 z2 isI br ma sfr 6 := by
  have g : ∀ i, i < 6 → nb (bt x i) = (if m_isU isI ma i ∧ (z1 = 0 ∨ ¬ sfr i = -9) ∧ (z2 = 0 ∨ (sfr i = -9 ∧ m_ubr br ma i)) then 1 else 0) := fun i hi =>
    nb_if ((hb i (by omega)).trans ⟨fun h => h.2, fun h => ⟨hi, h⟩⟩)
  rw [pc_sum (fun i h1 h2 => Bool.eq_false_iff.mpr (fun h => by have := ((hb i h2).mp h).1; omega)), g 0 (by omega), g 1 (by omega), g 2 (by omega), g 3 (by omega), g 4 (by omega), g 5 (by omega)]
  rfl
theorem pa32 (I : INV ln cw ic bs ss se we un sf pa isI br ma sfr) : x_sumN ic pa 6 = (m_paN pa 6).toInt32 := by
  have h1 := pa_nn (I_p I)
  have h2 := (I_p I).2
  apply Int32.toInt_inj.mp
  rw [I_px I, pa_m]
  show _ = (Int64.ofInt _).toInt32.toInt
  rw [Int64.toInt32_ofInt]
  exact (Int32.toInt_ofInt_of_le (by show (-2147483648 : Int) ≤ _; omega) (by show _ < (2147483648 : Int); omega)).symm
end ASK2
theorem a_bestManner {ln cw ic bs ss : Int32} {se we un sf pa isI br ma sfr : Nat → Int32} {u2 : QS} {r1 r2 : Int32} (I : INV ln cw ic bs ss se we un sf pa isI br ma sfr) (h1 : (fun r _ => r = x_bm (x_G ln cw ic bs ss se we un sf 0) (x_G ln cw ic bs ss se we un sf 1) (x_G ln cw ic bs ss se we un sf 2)) r1 ()) (h2 : (fun r _ => r = m_bm ln cw se isI we br ma sfr 2) r2 u2) : r1 = r2 := by
  have G0 : m_G ln cw se isI we br ma sfr 0 = x_G ln cw ic bs ss se we un sf 0 := I_G I (Or.inl rfl)
  have G1 : m_G ln cw se isI we br ma sfr 1 = x_G ln cw ic bs ss se we un sf 1 := I_G I (Or.inr (Or.inl rfl))
  have G2 : m_G ln cw se isI we br ma sfr 2 = x_G ln cw ic bs ss se we un sf 2 := I_G I (Or.inr (Or.inr rfl))
  have h1 : r1 = _ := h1
  have h2 : r2 = m_bm ln cw se isI we br ma sfr 2 := h2
  rw [h1, h2]
  have e1 : m_bm ln cw se isI we br ma sfr 1 = if (x_G ln cw ic bs ss se we un sf 1 - x_G ln cw ic bs ss se we un sf 0).num ≤ 0 then 0 else 1 := by
    show (if (m_G ln cw se isI we br ma sfr 1 - m_G ln cw se isI we br ma sfr 0).num ≤ 0 then 0 else 1) = _
    rw [G0, G1]
  have e2 : m_bm ln cw se isI we br ma sfr 2 = if (x_G ln cw ic bs ss se we un sf 2 - m_G ln cw se isI we br ma sfr (m_bm ln cw se isI we br ma sfr 1)).num ≤ 0 then m_bm ln cw se isI we br ma sfr 1 else 2 := by
    show (if (m_G ln cw se isI we br ma sfr 2 - m_G ln cw se isI we br ma sfr (m_bm ln cw se isI we br ma sfr 1)).num ≤ 0 then m_bm ln cw se isI we br ma sfr 1 else 2) = _
    rw [G2]
  rw [e2, e1]
  unfold x_bm
  by_cases c : (x_G ln cw ic bs ss se we un sf 1 - x_G ln cw ic bs ss se we un sf 0).num ≤ 0
  · rw [if_pos c, if_pos c, G0]
  · rw [if_neg c, if_neg c, G1]
theorem a_saves {ln cw ic bs ss : Int32} {se we un sf pa isI br ma sfr : Nat → Int32} {v x wh : Int32} {u2 : QS} {r1 r2 : Int64} (I : INV ln cw ic bs ss se we un sf pa isI br ma sfr) (h1 : (fun r _ => (((¬ ∃ i7, i7 < 6 ∧ v = nI i7 ∧ bt ic i7 = true) ∨ (x < 0 ∨ 1000000 < x) ∨ (wh < 0 ∨ 1 < wh)) ∧ r = (-9223372036854775808)) ∨ (∃ i7, i7 < 6 ∧ v = nI i7 ∧ bt ic i7 = true ∧ ¬ (x < 0 ∨ 1000000 < x) ∧ ¬ (wh < 0 ∨ 1 < wh) ∧ r = tellQ (o_pw (x_E ln cw ic se we) (x_C ln cw ic we un sf (se 0) (ss &&& (un i7 ^^^ (-1)))) (x_dn cw ic we) ((x_op ic we (ss &&& (un i7 ^^^ (-1)))).toInt) ((x_la ic we un (ss &&& (un i7 ^^^ (-1))) bs).toInt) ((x_sh cw ic we un (se 1) (ss &&& (un i7 ^^^ (-1))) bs).toInt) * iQ (x_ub ic bs we un i7 (ss &&& (un i7 ^^^ (-1)))).toInt + iQ (-x).toInt) wh)) r1 ()) (h2 : (fun r _ => (((¬ ∃ i7, i7 < 6 ∧ v = nI i7 ∧ ¬ isI i7 = 0) ∨ ¬ (0 ≤ x ∧ x ≤ 1000000) ∨ ¬ (0 ≤ wh ∧ wh ≤ 1)) ∧ r = (-9223372036854775808)) ∨ (∃ i7, i7 < 6 ∧ v = nI i7 ∧ ¬ isI i7 = 0 ∧ (0 ≤ x ∧ x ≤ 1000000) ∧ (0 ≤ wh ∧ wh ≤ 1) ∧ r = tellQ ((m_dU ln cw se isI we br ma (m_set ma sfr i7 (-9)) (m_un ma i7)) - iQ x.toInt) wh)) r2 u2) : r1 = r2 := by
  have h1 : (((¬ ∃ j, j < 6 ∧ v = nI j ∧ bt ic j = true) ∨ ((x < 0 ∨ 1000000 < x) ∨ (wh < 0 ∨ 1 < wh))) ∧ r1 = -9223372036854775808) ∨ (∃ j, j < 6 ∧ v = nI j ∧ bt ic j = true ∧ ¬ ((x < 0 ∨ 1000000 < x) ∨ (wh < 0 ∨ 1 < wh)) ∧ (¬ (x < 0 ∨ 1000000 < x) ∧ r1 = tellQ (xPW ln cw ic se we un sf (se 0) (se 1) (ss &&& (un j ^^^ (-1))) bs * iQ (x_ub ic bs we un j (ss &&& (un j ^^^ (-1)))).toInt + iQ (-x).toInt) wh)) := by
    rcases h1 with h | ⟨j, a, b, c, d, e, f⟩
    · exact Or.inl h
    · exact Or.inr ⟨j, a, b, c, fun h => h.elim d e, d, f⟩
  have h2 : (((¬ ∃ j, j < 6 ∧ v = nI j ∧ ¬ isI j = 0) ∨ ¬ ((0 ≤ x ∧ x ≤ 1000000) ∧ (0 ≤ wh ∧ wh ≤ 1))) ∧ r2 = -9223372036854775808) ∨ (∃ j, j < 6 ∧ v = nI j ∧ ¬ isI j = 0 ∧ ((0 ≤ x ∧ x ≤ 1000000) ∧ (0 ≤ wh ∧ wh ≤ 1)) ∧ r2 = tellQ ((m_dU ln cw se isI we br ma (m_set ma sfr j (-9)) (m_un ma j)) - iQ x.toInt) wh) := by
    rcases h2 with ⟨h, e⟩ | ⟨j, a, b, c, d, e, f⟩
    · exact Or.inl ⟨h.elim Or.inl (fun h => Or.inr (fun k => h.elim (fun h => h k.1) (fun h => h k.2))), e⟩
    · exact Or.inr ⟨j, a, b, c, ⟨d, e⟩, f⟩
  have ho : ((x < 0 ∨ 1000000 < x) ∨ (wh < 0 ∨ 1 < wh)) ↔ ¬ ((0 ≤ x ∧ x ≤ 1000000) ∧ (0 ≤ wh ∧ wh ≤ 1)) := by
    rw [out_iff, out_iff, Classical.not_and_iff_not_or_not (a := 0 ≤ x ∧ x ≤ 1000000)]
  rcases kq_both (I_rb I) ho h1 h2 with ⟨e1, e2⟩ | ⟨j, hj, hin, ⟨hx, e1⟩, e2⟩
  · rw [e1, e2]
  · have hx2 : 0 ≤ x ∧ x ≤ 1000000 := Classical.byContradiction (fun h => hx (out_iff.mpr h))
    have hx3 := in_M hx2
    have hx4 : (0 : Int) ≤ x.toInt := hx3.1
    rw [e1, e2, ud_eq (se := se) (st := ss &&& (un j ^^^ (-1))) (I_rb I) (RS_open (I_rb I) (I_rs I) hj hin) (I_rr I) (I_w I) (I_c I) (I_l I) (I_sf I) rfl rfl rfl (I_se I) hj hin, i32_neg (by omega)]
    have e3 : iQ (-x.toInt) = -iQ x.toInt := Rat.intCast_neg _
    rw [e3, Rat.sub_eq_add_neg]
theorem a_misses {ln cw ic bs ss : Int32} {se we un sf pa isI br ma sfr : Nat → Int32} {v wh : Int32} {u2 : QS} {r1 r2 : Int64} (I : INV ln cw ic bs ss se we un sf pa isI br ma sfr) (h1 : (fun r _ => (((¬ ∃ i7, i7 < 6 ∧ v = nI i7 ∧ bt ic i7 = true) ∨ (wh < 0 ∨ 1 < wh)) ∧ r = (-9223372036854775808)) ∨ (∃ i7, i7 < 6 ∧ v = nI i7 ∧ bt ic i7 = true ∧ ¬ (wh < 0 ∨ 1 < wh) ∧ r = tellQ (o_mi (x_E ln cw ic se we) (x_C ln cw ic we un sf (se 0) ss) (x_dn cw ic we) ((x_op ic we ss).toInt) ((x_la ic we un ss (bs ||| x_bit i7)).toInt) ((x_sh cw ic we un (se 1) ss (bs ||| x_bit i7)).toInt) - o_mi (x_E ln cw ic se we) (x_C ln cw ic we un sf (se 0) ss) (x_dn cw ic we) ((x_op ic we ss).toInt) ((x_la ic we un ss (bs &&& (x_bit i7 ^^^ (-1)))).toInt) ((x_sh cw ic we un (se 1) ss (bs &&& (x_bit i7 ^^^ (-1)))).toInt)) wh)) r1 ()) (h2 : (fun r _ => (((¬ ∃ i7, i7 < 6 ∧ v = nI i7 ∧ ¬ isI i7 = 0) ∨ ¬ (0 ≤ wh ∧ wh ≤ 1)) ∧ r = (-9223372036854775808)) ∨ (∃ i7, i7 < 6 ∧ v = nI i7 ∧ ¬ isI i7 = 0 ∧ (0 ≤ wh ∧ wh ≤ 1) ∧ r = tellQ (((m_re ln cw se isI we ma sfr) - (m_duN ln cw se isI we (upd br i7 1) ma sfr 6)) - ((m_re ln cw se isI we ma sfr) - (m_duN ln cw se isI we (upd br i7 0) ma sfr 6))) wh)) r2 u2) : r1 = r2 := by
  rcases kq_both (I_rb I) out_iff h1 h2 with ⟨e1, e2⟩ | ⟨j, hj, hin, e1, e2⟩
  · rw [e1, e2]
  · rw [e1, e2, I_re I, duN_eq (se := se) (bs := bs ||| x_bit j) (I_rb I) (I_rs I) (RR_1 (I_rr I) hj) (I_w I) (I_c I) (I_l I) (I_sf I) rfl rfl rfl (I_se I), duN_eq (se := se) (bs := bs &&& (x_bit j ^^^ (-1))) (I_rb I) (I_rs I) (RR_0 (I_rr I) hj) (I_w I) (I_c I) (I_l I) (I_sf I) rfl rfl rfl (I_se I)]
    rfl
theorem a_owe {ln cw ic bs ss : Int32} {se we un sf pa isI br ma sfr : Nat → Int32} {u2 : QS} {r1 r2 : Int32} (I : INV ln cw ic bs ss se we un sf pa isI br ma sfr) (h1 : (fun r _ => ((o_pw (x_E ln cw ic se we) (x_C ln cw ic we un sf (se 0) ss) (x_dn cw ic we) ((x_op ic we ss).toInt) ((x_la ic we un ss bs).toInt) ((x_sh cw ic we un (se 1) ss bs).toInt)).num = 0 ∧ r = 0) ∨ (¬ (o_pw (x_E ln cw ic se we) (x_C ln cw ic we un sf (se 0) ss) (x_dn cw ic we) ((x_op ic we ss).toInt) ((x_la ic we un ss bs).toInt) ((x_sh cw ic we un (se 1) ss bs).toInt)).num = 0 ∧ r = x_oweN ic bs ss we un 6)) r1 ()) (h2 : (fun r _ => r = m_oweN ln cw se isI we br ma sfr 6) r2 u2) : r1 = r2 := by
  have h2 : r2 = m_oweN ln cw se isI we br ma sfr 6 := h2
  rw [h2, owe_eq I 6 (Nat.le_refl _)]
  rcases h1 with ⟨c, e⟩ | ⟨c, e⟩
  · rw [e]; exact (if_pos c).symm
  · rw [e]; exact (if_neg c).symm
theorem a_many {ln cw ic bs ss : Int32} {se we un sf pa isI br ma sfr : Nat → Int32} {x : Int32} {r1 r2 : Int32} (I : INV ln cw ic bs ss se we un sf pa isI br ma sfr) (h1 : (fun r => (x = 0 ∧ r = x_pc ic) ∨ (x = 1 ∧ r = x_pc (x_headsN ic un 6)) ∨ (x = 2 ∧ r = x_pc (x_headsN ic un 6 &&& ss)) ∨ (x = 3 ∧ r = x_pc (x_headsN ic un 6 &&& x_obN ic un ss bs 6)) ∨ (x = 4 ∧ r = x_blame cw ic we) ∨ (x = 5 ∧ r = x_sumN ic pa 6) ∨ ((x.toInt < 0 ∨ 5 < x.toInt) ∧ r = -2)) r1) (h2 : (fun r => (x = 0 ∧ r = m_inN isI 6) ∨ (x = 1 ∧ r = m_muN 0 0 isI br ma sfr 6) ∨ (x = 2 ∧ r = m_muN 1 0 isI br ma sfr 6) ∨ (x = 3 ∧ r = m_muN 0 1 isI br ma sfr 6) ∨ (x = 4 ∧ r = m_blN cw isI we 6) ∨ (x = 5 ∧ r = (m_paN pa 6).toInt32) ∨ ((x.toInt < 0 ∨ 5 < x.toInt) ∧ r = -2)) r2) : r1 = r2 := by
  have hh := fun i => heads_iff (i := i) (I_rb I)
  have e0 := pc_in I
  have e1 : x_pc (x_headsN ic un 6) = m_muN 0 0 isI br ma sfr 6 := pc_mu (fun i hi => (hh i).trans ⟨fun h => ⟨h.1, h.2, Or.inl rfl, Or.inl rfl⟩, fun h => ⟨h.1, h.2.1⟩⟩)
  have e2 : x_pc (x_headsN ic un 6 &&& ss) = m_muN 1 0 isI br ma sfr 6 := pc_mu (fun i hi => by
    rw [b_and, Bool.and_eq_true, hh i]
    exact ⟨fun h => ⟨h.1.1, h.1.2, Or.inr ((RS_bt (I_rs I) h.1.1).mp h.2), Or.inl rfl⟩, fun h => ⟨⟨h.1, h.2.1⟩, (RS_bt (I_rs I) h.1).mpr (h.2.2.1.elim (fun h => absurd h (by decide)) id)⟩⟩)
  have e3 : x_pc (x_headsN ic un 6 &&& x_obN ic un ss bs 6) = m_muN 0 1 isI br ma sfr 6 := pc_mu (fun i hi => by
    rw [b_and, Bool.and_eq_true, hh i, ob_iff (I_rb I) (I_rs I) (I_rr I)]
    exact ⟨fun h => ⟨h.1.1, h.1.2, Or.inl rfl, Or.inr h.2.2.2⟩, fun h => ⟨⟨h.1, h.2.1⟩, h.1, h.2.1.1, h.2.2.2.elim (fun h => absurd h (by decide)) id⟩⟩)
  have e4 := bl_eq (I_rb I) (I_w I) (I_c I)
  have e5 := pa32 I
  rcases h1 with ⟨hx, g1⟩ | ⟨hx, g1⟩ | ⟨hx, g1⟩ | ⟨hx, g1⟩ | ⟨hx, g1⟩ | ⟨hx, g1⟩ | ⟨hx, g1⟩
  · rcases h2 with ⟨hy, g2⟩ | ⟨hy, g2⟩ | ⟨hy, g2⟩ | ⟨hy, g2⟩ | ⟨hy, g2⟩ | ⟨hy, g2⟩ | ⟨hy, g2⟩
    · rw [g1, g2]; exact e0
    all_goals (rw [hx] at hy; exact absurd hy (by decide))
  · rcases h2 with ⟨hy, g2⟩ | ⟨hy, g2⟩ | ⟨hy, g2⟩ | ⟨hy, g2⟩ | ⟨hy, g2⟩ | ⟨hy, g2⟩ | ⟨hy, g2⟩
    rotate_left 1
    · rw [g1, g2]; exact e1
    all_goals (rw [hx] at hy; exact absurd hy (by decide))
  · rcases h2 with ⟨hy, g2⟩ | ⟨hy, g2⟩ | ⟨hy, g2⟩ | ⟨hy, g2⟩ | ⟨hy, g2⟩ | ⟨hy, g2⟩ | ⟨hy, g2⟩
    rotate_left 2
    · rw [g1, g2]; exact e2
    all_goals (rw [hx] at hy; exact absurd hy (by decide))
  · rcases h2 with ⟨hy, g2⟩ | ⟨hy, g2⟩ | ⟨hy, g2⟩ | ⟨hy, g2⟩ | ⟨hy, g2⟩ | ⟨hy, g2⟩ | ⟨hy, g2⟩
    rotate_left 3
    · rw [g1, g2]; exact e3
    all_goals (rw [hx] at hy; exact absurd hy (by decide))
  · rcases h2 with ⟨hy, g2⟩ | ⟨hy, g2⟩ | ⟨hy, g2⟩ | ⟨hy, g2⟩ | ⟨hy, g2⟩ | ⟨hy, g2⟩ | ⟨hy, g2⟩
    rotate_left 4
    · rw [g1, g2]; exact e4
    all_goals (rw [hx] at hy; exact absurd hy (by decide))
  · rcases h2 with ⟨hy, g2⟩ | ⟨hy, g2⟩ | ⟨hy, g2⟩ | ⟨hy, g2⟩ | ⟨hy, g2⟩ | ⟨hy, g2⟩ | ⟨hy, g2⟩
    rotate_left 5
    · rw [g1, g2]; exact e5
    all_goals (rw [hx] at hy; exact absurd hy (by decide))
  · rcases h2 with ⟨hy, g2⟩ | ⟨hy, g2⟩ | ⟨hy, g2⟩ | ⟨hy, g2⟩ | ⟨hy, g2⟩ | ⟨hy, g2⟩ | ⟨hy, g2⟩
    rotate_right
    · rw [g1, g2]
    all_goals (rw [hy] at hx; exact absurd hx (by decide))
theorem a_ofWrong {ln cw ic bs ss : Int32} {se we un sf pa isI br ma sfr : Nat → Int32} {v x : Int32} {r1 r2 : Int32} (I : INV ln cw ic bs ss se we un sf pa isI br ma sfr) (h1 : (fun r => xk (fun j => bt ic j = true) v (r = -1) (fun j => (x = 0 ∧ r = we j) ∨ (x = 1 ∧ bp r (bt bs j = true)) ∨ (x = 2 ∧ ((∃ w, w < 6 ∧ r = nI w ∧ bt (un j &&& (x_bit j ^^^ (-1))) w = true ∧ ∀ i, i < w → ¬ bt (un j &&& (x_bit j ^^^ (-1))) i = true) ∨ (r = -9 ∧ ∀ i, i < 6 → ¬ bt (un j &&& (x_bit j ^^^ (-1))) i = true))) ∨ (x = 3 ∧ bp r (bt ss j = true)) ∨ (x = 4 ∧ ((bt ss j = true ∧ r = sf j) ∨ (¬ bt ss j = true ∧ r = -9))) ∨ (x = 5 ∧ r = pa j) ∨ ((x.toInt < 0 ∨ 5 < x.toInt) ∧ r = -2))) r1) (h2 : (fun r => xk (fun j => ¬ isI j = 0) v (r = -1) (fun j => (x = 0 ∧ r = we j) ∨ (x = 1 ∧ bp r (¬ br j = 0)) ∨ (x = 2 ∧ r = ma j) ∨ (x = 3 ∧ bp r (¬ sfr j = -9)) ∨ (x = 4 ∧ r = sfr j) ∨ (x = 5 ∧ r = pa j) ∨ ((x.toInt < 0 ∨ 5 < x.toInt) ∧ r = -2))) r2) : r1 = r2 := by
  rcases xk_both (I_rb I) h1 h2 with ⟨e1, e2⟩ | ⟨j, hj, hv, hin, h1, h2⟩
  · rw [e1, e2]
  · have b0 : ∀ {r s : Int32} {A B : Prop}, (A ↔ B) → bp r A → bp s B → r = s := by
      intro r s A B hAB h1 h2
      rcases h1 with ⟨e1, a⟩ | ⟨e1, a⟩
      · rcases h2 with ⟨e2, b⟩ | ⟨e2, b⟩
        · rw [e1, e2]
        · exact absurd (hAB.mp a) b
      · rcases h2 with ⟨e2, b⟩ | ⟨e2, b⟩
        · exact absurd (hAB.mpr b) a
        · rw [e1, e2]
    rcases h1 with ⟨hx, g1⟩ | ⟨hx, g1⟩ | ⟨hx, g1⟩ | ⟨hx, g1⟩ | ⟨hx, g1⟩ | ⟨hx, g1⟩ | ⟨hx, g1⟩
    · rcases h2 with ⟨hy, g2⟩ | ⟨hy, g2⟩ | ⟨hy, g2⟩ | ⟨hy, g2⟩ | ⟨hy, g2⟩ | ⟨hy, g2⟩ | ⟨hy, g2⟩
      · rw [g1, g2]
      all_goals (rw [hx] at hy; exact absurd hy (by decide))
    · rcases h2 with ⟨hy, g2⟩ | ⟨hy, g2⟩ | ⟨hy, g2⟩ | ⟨hy, g2⟩ | ⟨hy, g2⟩ | ⟨hy, g2⟩ | ⟨hy, g2⟩
      rotate_left
      · exact b0 (RR_bt (I_rr I) hj) g1 g2
      all_goals (rw [hx] at hy; exact absurd hy (by decide))
    · rcases h2 with ⟨hy, g2⟩ | ⟨hy, g2⟩ | ⟨hy, g2⟩ | ⟨hy, g2⟩ | ⟨hy, g2⟩ | ⟨hy, g2⟩ | ⟨hy, g2⟩
      rotate_left 2
      · have hm := mt_inv (I_rb I).1 j hj
        have hb : ∀ i, i < 6 → (bt (un j &&& (x_bit j ^^^ (-1))) i = true ↔ i = mtt ma j ∧ i ≠ j) := by
          intro i hi
          have e := bt_un (i := i) hj hm.1
          rw [← (I_rb I).2.2.2 j hj hin] at e
          rw [b_and, Bool.and_eq_true, bt_not _ (by omega), bt_b hj, e]
          constructor
          · rintro ⟨h1, h2⟩
            have h3 : i ≠ j := fun h => by rw [decide_eq_true h] at h2; cases h2
            exact ⟨h1.elim (fun h => absurd h h3) id, h3⟩
          · rintro ⟨h1, h2⟩
            exact ⟨Or.inr h1, by rw [decide_eq_false h2]; rfl⟩
        rw [g2]
        rcases g1 with ⟨w, hw, e, h3, _⟩ | ⟨e, h3⟩
        · have h4 := (hb w hw).mp h3
          have hn : ¬ ma j = -9 := fun h => h4.2 (h4.1.trans (mt_n h))
          rw [e, h4.1, (mt_two (I_rb I).1 hj hn).2.2.1]
        · have hn : ma j = -9 := Classical.byContradiction (fun h => by
            obtain ⟨t1, t2, -, -⟩ := mt_two (I_rb I).1 hj h
            exact h3 _ t1 ((hb _ t1).mpr ⟨rfl, t2⟩))
          rw [e, hn]
      all_goals (rw [hx] at hy; exact absurd hy (by decide))
    · rcases h2 with ⟨hy, g2⟩ | ⟨hy, g2⟩ | ⟨hy, g2⟩ | ⟨hy, g2⟩ | ⟨hy, g2⟩ | ⟨hy, g2⟩ | ⟨hy, g2⟩
      rotate_left 3
      · exact b0 (RS_bt (I_rs I) hj) g1 g2
      all_goals (rw [hx] at hy; exact absurd hy (by decide))
    · rcases h2 with ⟨hy, g2⟩ | ⟨hy, g2⟩ | ⟨hy, g2⟩ | ⟨hy, g2⟩ | ⟨hy, g2⟩ | ⟨hy, g2⟩ | ⟨hy, g2⟩
      rotate_left 4
      · rw [g2]
        rcases g1 with ⟨a, e⟩ | ⟨a, e⟩
        · rw [e, (I_rs I).2.1 j hj ((RS_bt (I_rs I) hj).mp a)]
        · rw [e, ((I_rs I).1 j hj).mpr a]
      all_goals (rw [hx] at hy; exact absurd hy (by decide))
    · rcases h2 with ⟨hy, g2⟩ | ⟨hy, g2⟩ | ⟨hy, g2⟩ | ⟨hy, g2⟩ | ⟨hy, g2⟩ | ⟨hy, g2⟩ | ⟨hy, g2⟩
      rotate_left 5
      · rw [g1, g2]
      all_goals (rw [hx] at hy; exact absurd hy (by decide))
    · rcases h2 with ⟨hy, g2⟩ | ⟨hy, g2⟩ | ⟨hy, g2⟩ | ⟨hy, g2⟩ | ⟨hy, g2⟩ | ⟨hy, g2⟩ | ⟨hy, g2⟩
      rotate_right
      · rw [g1, g2]
      all_goals (rw [hy] at hx; exact absurd hx (by decide))
