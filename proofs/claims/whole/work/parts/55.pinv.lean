/-! ===== what class and reference have in common ===== -/
section INVS
variable {ln cw ic bs ss : Int32} {se we un sf pa isI br ma sfr : Nat → Int32} {w i j : Nat}
def PAb (pa : Nat → Int32) : Prop := (∀ w, w < 6 → 0 ≤ (pa w).toInt) ∧ sN (fun w => (pa w).toInt) 6 ≤ 1000000
def INV (ln cw ic bs ss : Int32) (se we un sf pa isI br ma sfr : Nat → Int32) : Prop :=
  RB ic un isI ma ∧ RS ma sfr sf ss ∧ RR br bs ∧ W1 we ∧ SFb sf ∧ (0 ≤ ln.toInt ∧ ln.toInt ≤ 1000000) ∧ (0 ≤ cw.toInt ∧ cw.toInt ≤ 100) ∧ (se 0 = 0 ∨ se 0 = 1 ∨ se 0 = 2) ∧ PAb pa ∧ (∀ w, w < 6 → isI w = 0 → sfr w = -9 ∧ br w = 0 ∧ pa w = 0) ∧ (∀ w, w < 6 → br w = 0 ∨ br w = 1) ∧ (∀ i, 6 ≤ i → i < 32 → bt ic i = false)
abbrev xFD (ln cw ic : Int32) (se we un sf : Nat → Int32) (mn sp st bs : Int32) : Int := o_fd (x_E ln cw ic se we) (x_C ln cw ic we un sf mn st) (x_dn cw ic we) ((x_op ic we st).toInt) ((x_la ic we un st bs).toInt) ((x_sh cw ic we un sp st bs).toInt)
theorem I_rb (I : INV ln cw ic bs ss se we un sf pa isI br ma sfr) : RB ic un isI ma := I.1
theorem I_rs (I : INV ln cw ic bs ss se we un sf pa isI br ma sfr) : RS ma sfr sf ss := I.2.1
theorem I_rr (I : INV ln cw ic bs ss se we un sf pa isI br ma sfr) : RR br bs := I.2.2.1
theorem I_w (I : INV ln cw ic bs ss se we un sf pa isI br ma sfr) : W1 we := I.2.2.2.1
theorem I_sf (I : INV ln cw ic bs ss se we un sf pa isI br ma sfr) : SFb sf := I.2.2.2.2.1
theorem I_l (I : INV ln cw ic bs ss se we un sf pa isI br ma sfr) : 0 ≤ ln.toInt ∧ ln.toInt ≤ 1000000 := I.2.2.2.2.2.1
theorem I_c (I : INV ln cw ic bs ss se we un sf pa isI br ma sfr) : 0 ≤ cw.toInt ∧ cw.toInt ≤ 100 := I.2.2.2.2.2.2.1
theorem I_se (I : INV ln cw ic bs ss se we un sf pa isI br ma sfr) : se 0 = 0 ∨ se 0 = 1 ∨ se 0 = 2 := I.2.2.2.2.2.2.2.1
theorem I_p (I : INV ln cw ic bs ss se we un sf pa isI br ma sfr) : PAb pa := I.2.2.2.2.2.2.2.2.1
theorem I_no (I : INV ln cw ic bs ss se we un sf pa isI br ma sfr) : ∀ w, w < 6 → isI w = 0 → sfr w = -9 ∧ br w = 0 ∧ pa w = 0 := I.2.2.2.2.2.2.2.2.2.1
theorem I_br (I : INV ln cw ic bs ss se we un sf pa isI br ma sfr) : ∀ w, w < 6 → br w = 0 ∨ br w = 1 := I.2.2.2.2.2.2.2.2.2.2.1
theorem I_hi (I : INV ln cw ic bs ss se we un sf pa isI br ma sfr) : ∀ i, 6 ≤ i → i < 32 → bt ic i = false := I.2.2.2.2.2.2.2.2.2.2.2
theorem I_ok (I : INV ln cw ic bs ss se we un sf pa isI br ma sfr) (mn sp : Int32) : x_ok ln cw ic se we un sf mn sp ss bs := xok (I_rb I) (I_rs I) (I_rr I) (I_w I) (I_c I) (I_l I) (I_sf I) se mn sp
theorem I_mok (I : INV ln cw ic bs ss se we un sf pa isI br ma sfr) : m_ok ln cw isI we br ma sfr := mokk (I_rb I) (I_rs I) (I_rr I) (I_w I) (I_c I) (I_l I) (I_sf I)
theorem pa_le (h : PAb pa) (hw : w < 6) : 0 ≤ (pa w).toInt ∧ (pa w).toInt ≤ 1000000 := by
  have h1 := sN_ge (f := fun w => (pa w).toInt) (n := 6) (j := w) (fun i hi => h.1 i hi) hw
  have h1 : (pa w).toInt ≤ sN (fun w => (pa w).toInt) 6 := h1
  have := h.1 w hw
  have := h.2
  omega
theorem pa_m (n : Nat) : m_paN pa n = iL (sN (fun w => (pa w).toInt) n) := by
  induction n with
  | zero => rfl
  | succ n ih =>
    show m_paN pa n + (pa n).toInt64 = iL (sN _ n + (pa n).toInt)
    rw [ih, iL_32, iL_add]
theorem pa_nn (h : PAb pa) : 0 ≤ sN (fun w => (pa w).toInt) 6 := sN_nn (fun i hi => h.1 i hi)
theorem I_pm (I : INV ln cw ic bs ss se we un sf pa isI br ma sfr) : (m_paN pa 6).toInt = sN (fun w => (pa w).toInt) 6 := by
  have h1 := pa_nn (I_p I)
  have h2 := (I_p I).2
  rw [pa_m]; exact iL_t (by unfold rng; omega)
theorem I_px (I : INV ln cw ic bs ss se we un sf pa isI br ma sfr) : (x_sumN ic pa 6).toInt = sN (fun w => (pa w).toInt) 6 := by
  rw [x_sum_I (M := 1000000) (fun i hi => pa_le (I_p I) hi) (by omega)]
  refine sN_congr (fun i hi => ?_)
  by_cases c : isI i = 0
  · rw [if_neg (((I_rb I).2.1 i hi).mp c), ((I_no I) i hi c).2.2]; rfl
  · rw [if_pos ((RB_bt (I_rb I) hi).mpr c)]
theorem I_du (I : INV ln cw ic bs ss se we un sf pa isI br ma sfr) : (m_duN ln cw se isI we br ma sfr 6) = (xDU ln cw ic se we un sf (se 0) (se 1) ss bs) := duN_eq (I_rb I) (I_rs I) (I_rr I) (I_w I) (I_c I) (I_l I) (I_sf I) rfl rfl rfl (I_se I)
theorem I_due (I : INV ln cw ic bs ss se we un sf pa isI br ma sfr) (hj : j < 6) (hin : ¬ isI j = 0) : (m_due we br ma j (m_dU ln cw se isI we br ma sfr (m_un ma j))) = (xPW ln cw ic se we un sf (se 0) (se 1) ss bs) * iQ (x_bears bs ss we un j).toInt := due_eq (I_rb I) (I_rs I) (I_rr I) (I_w I) (I_c I) (I_l I) (I_sf I) rfl rfl rfl (I_se I) hj hin
theorem I_dub (I : INV ln cw ic bs ss se we un sf pa isI br ma sfr) : rng (xDU ln cw ic se we un sf (se 0) (se 1) ss bs).num ∧ rng ((xDU ln cw ic se we un sf (se 0) (se 1) ss bs).den : Int) ∧ 0 ≤ (xDU ln cw ic se we un sf (se 0) (se 1) ss bs).num := by
  have hok := I_ok I (se 0) (se 1)
  have hD := o_D_bd hok
  have hb := o_du_bd hok
  have h1 : (xDU ln cw ic se we un sf (se 0) (se 1) ss bs).num.natAbs ≤ _ := bd_num_le hD.1 hb
  have h2 : (xDU ln cw ic se we un sf (se 0) (se 1) ss bs).den ≤ _ := bd_den_le hD.1 hb
  refine ⟨by unfold rng; omega, by unfold rng; omega, ?_⟩
  rw [← I_du I]
  exact Rat.num_nonneg.mpr (m_duN_bd (se := se) (I_mok I) 6 (Nat.le_refl _)).2
theorem fu_I (I : INV ln cw ic bs ss se we un sf pa isI br ma sfr) (hj : j < 6) : (x_fairUp ic bs ss we un pa j (iL (xDU ln cw ic se we un sf (se 0) (se 1) ss bs).num)).toInt = (if (xDU ln cw ic se we un sf (se 0) (se 1) ss bs) = 0 then 0 else (sN (fun w => (pa w).toInt) 6) * (x_bears bs ss we un j).toInt) ∧ 0 ≤ (x_fairUp ic bs ss we un pa j (iL (xDU ln cw ic se we un sf (se 0) (se 1) ss bs).num)).toInt ∧ (x_fairUp ic bs ss we un pa j (iL (xDU ln cw ic se we un sf (se 0) (se 1) ss bs).num)).toInt ≤ 600000000 := by
  have hb := be_bd (bs := bs) (ss := ss) (un := un) (I_w I) hj
  have h1 := pa_nn (I_p I)
  have h2 := (I_p I).2
  have hd := I_dub I
  have hm := mul_bd h1 h2 hb.1 hb.2
  have e : (x_fairUp ic bs ss we un pa j (iL (xDU ln cw ic se we un sf (se 0) (se 1) ss bs).num)).toInt = (if (xDU ln cw ic se we un sf (se 0) (se 1) ss bs) = 0 then 0 else (sN (fun w => (pa w).toInt) 6) * (x_bears bs ss we un j).toInt) := by
    unfold x_fairUp
    by_cases c : (xDU ln cw ic se we un sf (se 0) (se 1) ss bs) = 0
    · have c2 : iL (xDU ln cw ic se we un sf (se 0) (se 1) ss bs).num = 0 := by rw [c]; rfl
      rw [if_pos c, if_pos c2]; rfl
    · have c2 : ¬ iL (xDU ln cw ic se we un sf (se 0) (se 1) ss bs).num = 0 := fun h => c (Rat.num_eq_zero.mp ((iL_eq hd.1 rng_0).mp h))
      rw [if_neg c, if_neg c2, iL_32, iL_32, iL_mul, I_px I]
      exact iL_t (by unfold rng; omega)
  refine ⟨e, ?_⟩
  rw [e]
  split <;> omega
theorem fd_I (I : INV ln cw ic bs ss se we un sf pa isI br ma sfr) : 1 ≤ (xFD ln cw ic se we un sf (se 0) (se 1) ss bs) ∧ (xFD ln cw ic se we un sf (se 0) (se 1) ss bs) ≤ 600 := by
  obtain ⟨o1, o2, o3, o4, o5⟩ := op_all (I_rb I) (I_rs I) (I_rr I) (I_w I)
  show 1 ≤ o_fd _ _ _ _ _ _ ∧ o_fd _ _ _ _ _ _ ≤ 600
  unfold o_fd
  split
  · omega
  · rename_i h
    have : ¬ (x_op ic we ss).toInt - (x_la ic we un ss bs).toInt = 0 := fun e => h (by unfold o_du; rw [e]; exact Rat.mul_zero _)
    omega
theorem ou_I (I : INV ln cw ic bs ss se we un sf pa isI br ma sfr) (hj : j < 6) : (x_overUp ic bs ss we un pa j (iL (xDU ln cw ic se we un sf (se 0) (se 1) ss bs).num) (iL (xFD ln cw ic se we un sf (se 0) (se 1) ss bs))).toInt = (pa j).toInt * (xFD ln cw ic se we un sf (se 0) (se 1) ss bs) - (x_fairUp ic bs ss we un pa j (iL (xDU ln cw ic se we un sf (se 0) (se 1) ss bs).num)).toInt ∧ -600000000 ≤ (x_overUp ic bs ss we un pa j (iL (xDU ln cw ic se we un sf (se 0) (se 1) ss bs).num) (iL (xFD ln cw ic se we un sf (se 0) (se 1) ss bs))).toInt ∧ (x_overUp ic bs ss we un pa j (iL (xDU ln cw ic se we un sf (se 0) (se 1) ss bs).num) (iL (xFD ln cw ic se we un sf (se 0) (se 1) ss bs))).toInt ≤ 600000000 := by
  have hf := fu_I I hj
  have hd := fd_I I
  have hp := pa_le (I_p I) hj
  have hm := mul_bd hp.1 hp.2 (b := (xFD ln cw ic se we un sf (se 0) (se 1) ss bs)) (y := 600) (by omega) hd.2
  have e : (x_overUp ic bs ss we un pa j (iL (xDU ln cw ic se we un sf (se 0) (se 1) ss bs).num) (iL (xFD ln cw ic se we un sf (se 0) (se 1) ss bs))).toInt = (pa j).toInt * (xFD ln cw ic se we un sf (se 0) (se 1) ss bs) - (x_fairUp ic bs ss we un pa j (iL (xDU ln cw ic se we un sf (se 0) (se 1) ss bs).num)).toInt := by
    unfold x_overUp
    rw [iL_32, iL_mul, iL_of (x_fairUp ic bs ss we un pa j (iL (xDU ln cw ic se we un sf (se 0) (se 1) ss bs).num)), iL_sub]
    rw [iL_t (a := (x_fairUp ic bs ss we un pa j (iL (xDU ln cw ic se we un sf (se 0) (se 1) ss bs).num)).toInt) (by unfold rng; omega)]
    exact iL_t (by unfold rng; omega)
  refine ⟨e, ?_⟩
  rw [e]
  omega
theorem fair_q (I : INV ln cw ic bs ss se we un sf pa isI br ma sfr) (hj : j < 6) (hin : ¬ isI j = 0) (hz : ¬ (m_duN ln cw se isI we br ma sfr 6).num = 0) : (m_due we br ma j (m_dU ln cw se isI we br ma sfr (m_un ma j))) / (m_duN ln cw se isI we br ma sfr 6) = Rat.divInt (x_bears bs ss we un j).toInt ((x_op ic we ss).toInt - (x_la ic we un ss bs).toInt) ∧ ¬ (xPW ln cw ic se we un sf (se 0) (se 1) ss bs) = 0 ∧ ¬ (x_op ic we ss).toInt - (x_la ic we un ss bs).toInt = 0 := by
  rw [I_due I hj hin]
  have hz : ¬ (m_duN ln cw se isI we br ma sfr 6) = 0 := fun e => hz (Rat.num_eq_zero.mpr e)
  rw [I_du I] at hz ⊢
  have e : (xDU ln cw ic se we un sf (se 0) (se 1) ss bs) = (xPW ln cw ic se we un sf (se 0) (se 1) ss bs) * (((x_op ic we ss).toInt - (x_la ic we un ss bs).toInt : Int) : Rat) := rfl
  rw [e] at hz ⊢
  have h1 : ¬ (xPW ln cw ic se we un sf (se 0) (se 1) ss bs) = 0 := fun h => hz (by rw [h, Rat.zero_mul])
  have h2 : ¬ (x_op ic we ss).toInt - (x_la ic we un ss bs).toInt = 0 := fun h => hz (by rw [h]; exact Rat.mul_zero _)
  refine ⟨?_, h1, h2⟩
  rw [rq_eq]
  exact fair_alg _ _ _ h1 (ii_ne h2)
theorem I_fok (I : INV ln cw ic bs ss se we un sf pa isI br ma sfr) (hj : j < 6) (hin : ¬ isI j = 0) : f_ok (m_due we br ma j (m_dU ln cw se isI we br ma sfr (m_un ma j))) (m_duN ln cw se isI we br ma sfr 6) := by
  have hd := I_dub I
  obtain ⟨o1, o2, o3, o4, o5⟩ := op_all (I_rb I) (I_rs I) (I_rr I) (I_w I)
  have hb := be_bd (bs := bs) (ss := ss) (un := un) (I_w I) hj
  have hok := I_ok I (se 0) (se 1)
  have hp := o_pw_bd hok
  have hm := mulI_le (xPW ln cw ic se we un sf (se 0) (se 1) ss bs) (x_bears bs ss we un j).toInt
  have hk : rng ((xPW ln cw ic se we un sf (se 0) (se 1) ss bs).num * (x_bears bs ss we un j).toInt) := pw_k hok hb.1 hb.2
  refine fok_of (b := (x_bears bs ss we un j).toInt) (k := (x_op ic we ss).toInt - (x_la ic we un ss bs).toInt) (by rw [I_du I]; exact hd.2.2) (by rw [I_du I]; exact hd.1) (by rw [I_du I]; exact hd.2.1) ?_ ?_ hb (by omega) (fun hz => (fair_q I hj hin hz).1)
  · rw [I_due I hj hin]
    unfold rng at hk ⊢
    omega
  · rw [I_due I hj hin]
    have hq : (((xPW ln cw ic se we un sf (se 0) (se 1) ss bs)).den : Int) ≤ 294000001 := hp.2
    have hq2 : (((xPW ln cw ic se we un sf (se 0) (se 1) ss bs) * iQ (x_bears bs ss we un j).toInt).den : Int) ≤ ((xPW ln cw ic se we un sf (se 0) (se 1) ss bs)).den := hm.2
    unfold rng
    omega
theorem I_fair (I : INV ln cw ic bs ss se we un sf pa isI br ma sfr) (hj : j < 6) (hin : ¬ isI j = 0) : m_fair (m_due we br ma j (m_dU ln cw se isI we br ma sfr (m_un ma j))) (m_duN ln cw se isI we br ma sfr 6) ((m_paN pa 6).toInt) = Rat.divInt (x_fairUp ic bs ss we un pa j (iL (xDU ln cw ic se we un sf (se 0) (se 1) ss bs).num)).toInt (xFD ln cw ic se we un sf (se 0) (se 1) ss bs) := by
  rw [(fu_I I hj).1, I_pm I]
  by_cases hz : (m_duN ln cw se isI we br ma sfr 6).num = 0
  · have h0 : (xDU ln cw ic se we un sf (se 0) (se 1) ss bs) = 0 := by rw [← I_du I]; exact Rat.num_eq_zero.mp hz
    unfold m_fair
    rw [if_pos hz, if_pos h0, q_z, q_z]
  · obtain ⟨q1, q2, q3⟩ := fair_q I hj hin hz
    have h0 : ¬ (xDU ln cw ic se we un sf (se 0) (se 1) ss bs) = 0 := fun e => hz (by rw [I_du I, e]; rfl)
    have hn := (I_dub I).2.2
    rw [← I_du I] at hn
    have ef : (xFD ln cw ic se we un sf (se 0) (se 1) ss bs) = (x_op ic we ss).toInt - (x_la ic we un ss bs).toInt := by
      show o_fd _ _ _ _ _ _ = _
      unfold o_fd
      exact if_neg h0
    unfold m_fair
    rw [if_neg hz, if_neg h0, muQ_q, fx_q _ _ (by omega), q1, ef, rq_eq, rq_eq, Rat.intCast_mul]
    have e1 : (((1 : Nat) : Int) : Rat) = 1 := rfl
    rw [e1]; grind
theorem I_over (I : INV ln cw ic bs ss se we un sf pa isI br ma sfr) (hj : j < 6) (hin : ¬ isI j = 0) : iQ ((pa j).toInt) - m_fair (m_due we br ma j (m_dU ln cw se isI we br ma sfr (m_un ma j))) (m_duN ln cw se isI we br ma sfr 6) ((m_paN pa 6).toInt) = Rat.divInt (x_overUp ic bs ss we un pa j (iL (xDU ln cw ic se we un sf (se 0) (se 1) ss bs).num) (iL (xFD ln cw ic se we un sf (se 0) (se 1) ss bs))).toInt (xFD ln cw ic se we un sf (se 0) (se 1) ss bs) := by
  have hd := fd_I I
  rw [I_fair I hj hin, (ou_I I hj).1, ← q_sub, q_can _ (by omega)]
  congr 1
  rw [rq_eq]
  have e1 : ((1 : Int) : Rat) = 1 := rfl
  rw [e1]; grind
end INVS
