/-! ===== what one owes, what is fair: class and reference ===== -/
section FAIR
variable {ic bs st ss cw ln mn sp : Int32} {un isI ma br sf sfr we se pa se2 : Nat → Int32} {w i j : Nat}
theorem xok (h : RB ic un isI ma) (hs : RS ma sfr sf st) (hr : RR br bs) (hW : W1 we) (hc : 0 ≤ cw.toInt ∧ cw.toInt ≤ 100) (hl : 0 ≤ ln.toInt ∧ ln.toInt ≤ 1000000) (hsf : SFb sf) (se : Nat → Int32) (mn sp : Int32) : x_ok ln cw ic se we un sf mn sp st bs := by
  obtain ⟨b1, b2, b3, b4, b5, b6⟩ := bl_bd h hW hc
  obtain ⟨o1, o2, o3, o4, o5⟩ := op_all h hs hr hW
  obtain ⟨s1, s2, s3⟩ := sh_bd (sp := sp) h hs hr hW hc
  obtain ⟨-, e1, e2⟩ := ent_I (se := se) h hW hc hl
  have hd : 1 ≤ (x_bd cw ic we).toInt ∧ (x_bd cw ic we).toInt ≤ 700 := by rw [b6]; exact ⟨b4, b5⟩
  have c1 := creds_bd (ic := ic) (un := un) (mn := mn) (st := st) hW hl hd hsf
  rw [← C_I h hW hc hl hsf] at c1
  refine ⟨e1, e2, c1.1, by omega, b4, b5, o3, o4, o5, s1, s2, ?_⟩
  rcases s3 with s3 | s3
  · exact Or.inl s3
  · refine Or.inr ?_
    generalize (x_op ic we st).toInt = op at *
    generalize (x_la ic we un st bs).toInt = la at *
    generalize (x_sh cw ic we un sp st bs).toInt = sh at *
    have h1 : la * (op - la) ≤ la * sh := Int.mul_le_mul_of_nonneg_left s3 o3
    have e3 : (sh + la) * (op - la) = sh * (op - la) + la * (op - la) := Int.add_mul _ _ _
    have e4 : op * sh = (op - la) * sh + la * sh := by rw [← Int.add_mul, Int.sub_add_cancel]
    have e5 : sh * (op - la) = (op - la) * sh := Int.mul_comm _ _
    omega
theorem mokk (h : RB ic un isI ma) (hs : RS ma sfr sf st) (hr : RR br bs) (hW : W1 we) (hc : 0 ≤ cw.toInt ∧ cw.toInt ≤ 100) (hl : 0 ≤ ln.toInt ∧ ln.toInt ≤ 1000000) (hsf : SFb sf) : m_ok ln cw isI we br ma sfr := by
  obtain ⟨b1, b2, b3, b4, b5, b6⟩ := bl_bd h hW hc
  obtain ⟨o1, o2, o3, o4, o5⟩ := op_all h hs hr hW
  refine ⟨h.1, hl, ⟨hc.1, hc.2, b1, b2⟩, fun u hu => uw_bd h.1 hu hW, fun u hu => ?_, ⟨by omega, by rw [← o1]; omega, by rw [← o1]; exact o5⟩, (op0_I (br := br) h hs hW).2⟩
  by_cases c : sfr u = -9
  · exact Or.inl c
  · refine Or.inr ?_
    rw [hs.2.1 u hu c]; exact hsf u hu
theorem ub_eq (h : RB ic un isI ma) (hs : RS ma sfr sf st) (hr : RR br bs) (hW : W1 we) (hj : j < 6) (hin : ¬ isI j = 0) : x_ub ic bs we un j st = if sfr j = -9 ∧ ¬ m_ubr br ma j then m_uw we ma j else 0 := by
  unfold x_ub
  by_cases c : sfr j = -9
  · rw [if_neg ((hs.1 j hj).mp c)]
    by_cases c2 : m_ubr br ma j
    · rw [if_pos ((ob_iff h hs hr).mpr ⟨hj, hin, c, c2⟩), if_neg (fun h2 => h2.2 c2)]
    · rw [if_neg (fun h2 => c2 ((ob_iff h hs hr).mp h2).2.2.2), if_pos ⟨c, c2⟩, x_uw h hj hin hW]
  · rw [if_pos ((RS_bt hs hj).mpr c), if_neg (fun h2 => c h2.1)]
theorem ub_bd (hW : W1 we) : 0 ≤ (x_ub ic bs we un j st).toInt ∧ (x_ub ic bs we un j st).toInt ≤ 600 := by
  have := us_bd (un := un) (w := j) hW
  unfold x_ub
  split
  · exact ⟨by decide, by decide⟩
  · split
    · exact ⟨by decide, by decide⟩
    · exact this
theorem be_bd (hW : W1 we) (hj : j < 6) : 0 ≤ (x_bears bs ss we un j).toInt ∧ (x_bears bs ss we un j).toInt ≤ 600 := by
  have := us_bd (un := un) (w := j) hW
  have := hW j hj
  unfold x_bears
  split
  · exact ⟨by decide, by decide⟩
  · split
    · omega
    · assumption
theorem ud_eq (h : RB ic un isI ma) (hs : RS ma sfr sf st) (hr : RR br bs) (hW : W1 we) (hc : 0 ≤ cw.toInt ∧ cw.toInt ≤ 100) (hl : 0 ≤ ln.toInt ∧ ln.toInt ≤ 1000000) (hsf : SFb sf) (he2 : se2 2 = se 2) (he : se2 0 = mn) (he1 : se2 1 = sp) (hmn : mn = 0 ∨ mn = 1 ∨ mn = 2) (hj : j < 6) (hin : ¬ isI j = 0) :
    m_dU ln cw se2 isI we br ma sfr (m_un ma j) = xPW ln cw ic se we un sf mn sp st bs * iQ (x_ub ic bs we un j st).toInt := by
  have hm := mt_inv h.1 j hj
  rw [dU_eq (se := se) h hs hr hW hc hl hsf he2 he he1 hmn (un_lt h.1 hj), ub_eq h hs hr hW hj hin]
  have e : (c_ow isI br ma sfr (m_un ma j) ↔ sfr j = -9 ∧ ¬ m_ubr br ma j) ∧ m_uw we ma (m_un ma j) = m_uw we ma j := by
    rw [un_min h.1 hj]
    rcases Nat.le_total j (mtt ma j) with c | c
    · rw [show min j (mtt ma j) = j by omega]
      exact ⟨⟨fun h2 => h2.2, fun h2 => ⟨(isU_iff h.1 hj).mpr ⟨hin, c⟩, h2⟩⟩, rfl⟩
    · rw [show min j (mtt ma j) = mtt ma j by omega]
      refine ⟨?_, uw_mt h.1 hj hW⟩
      have e1 := hs.2.2 j hj
      have e2 := decide_eq_decide.mp (p2_mt (br := br) h.1 hj)
      show (_ ∧ sfr (mtt ma j) = -9 ∧ ¬ m_ubr br ma (mtt ma j)) ↔ _
      rw [e1, e2]
      exact ⟨fun h2 => h2.2, fun h2 => ⟨(isU_iff h.1 hm.1).mpr ⟨fun e => hin ((RB_in h hj).mp e), by rw [hm.2]; exact c⟩, h2⟩⟩
  rw [e.2]
  congr 2
  by_cases c : sfr j = -9 ∧ ¬ m_ubr br ma j
  · rw [if_pos c, if_pos (e.1.mpr c)]
  · rw [if_neg c, if_neg (fun h2 => c (e.1.mp h2))]; rfl
theorem muQ_q (x : Rat) (c : Int) (d : Nat) : muQ x.num x.den c d = x * ((c : Rat) / ((d : Int) : Rat)) := by
  unfold muQ; rw [← rat_nd]
theorem due_alg (P a b : Rat) (h : a + b ≠ 0) : P * (a + b) * (a / (a + b)) = P * a := by grind
theorem due_eq (h : RB ic un isI ma) (hs : RS ma sfr sf ss) (hr : RR br bs) (hW : W1 we) (hc : 0 ≤ cw.toInt ∧ cw.toInt ≤ 100) (hl : 0 ≤ ln.toInt ∧ ln.toInt ≤ 1000000) (hsf : SFb sf) (he2 : se2 2 = se 2) (he : se2 0 = mn) (he1 : se2 1 = sp) (hmn : mn = 0 ∨ mn = 1 ∨ mn = 2) (hj : j < 6) (hin : ¬ isI j = 0) :
    m_due we br ma j (m_dU ln cw se2 isI we br ma sfr (m_un ma j)) = xPW ln cw ic se we un sf mn sp ss bs * iQ (x_bears bs ss we un j).toInt := by
  have hm := mt_inv h.1 j hj
  rw [ud_eq (se := se) h hs hr hW hc hl hsf he2 he he1 hmn hj hin, ub_eq h hs hr hW hj hin]
  generalize xPW ln cw ic se we un sf mn sp ss bs = P
  have z0 : iQ 0 = 0 := rfl
  have eo : bt (ss ||| bs) j = true ↔ (¬ sfr j = -9 ∨ ¬ br j = 0) := by rw [b_or, Bool.or_eq_true, RS_bt hs hj, RR_bt hr hj]
  unfold m_due x_bears
  by_cases c1 : br j = 0
  · rw [if_pos c1]
    have hub : ¬ m_ubr br ma j := fun h2 => h2.1 c1
    by_cases c2 : sfr j = -9
    · have k1 : sfr j = -9 ∧ ¬ m_ubr br ma j := ⟨c2, hub⟩
      have k2 : ¬ bt (ss ||| bs) j = true := fun h2 => (eo.mp h2).elim (fun h3 => h3 c2) (fun h3 => h3 c1)
      rw [if_pos k1, if_neg k2, h.2.2.2 j hj hin]
      have eu := un_and hj hm.1 bs
      have nb1 : ¬ bt bs j = true := (hr j hj).mp c1
      by_cases c3 : ma j = -9
      · rw [if_pos c3, if_pos (eu.mpr ⟨nb1, by rw [mt_n c3]; exact nb1⟩)]
        have e := uw_I h.1 hj hW
        rw [if_pos (mt_n c3), Int.add_zero] at e
        rw [e]
      · rw [if_neg c3, ← mt_p c3]
        obtain ⟨t1, t2, t3, t4⟩ := mt_two h.1 hj c3
        have e := uw_I h.1 hj hW
        rw [if_neg t2] at e
        by_cases c4 : br (mtt ma j) = 0
        · have nb2 : ¬ bt bs (mtt ma j) = true := (hr _ hm.1).mp c4
          have w1 := hW j hj
          have w2 := hW _ hm.1
          have e3 : (we j + we (mtt ma j)).toInt = (we j).toInt + (we (mtt ma j)).toInt := i32_add (by omega) (by omega)
          rw [if_pos c4, if_pos (eu.mpr ⟨nb1, nb2⟩), e]
          by_cases c5 : we j + we (mtt ma j) = 0
          · have c6 := i32_0.mp c5
            rw [if_pos c5, muQ_q, show (we j).toInt + (we (mtt ma j)).toInt = 0 by omega, show (we j).toInt = 0 by omega, z0, Rat.mul_zero, Rat.zero_mul]
          · have c6 : ¬ (we j + we (mtt ma j)).toInt = 0 := fun h2 => c5 (i32_0.mpr h2)
            rw [if_neg c5, muQ_q, e3, Int.toNat_of_nonneg (by omega), Rat.intCast_add]
            rw [e3] at c6
            have e9 : iQ ((we j).toInt + (we (mtt ma j)).toInt) = ((we j).toInt : Rat) + ((we (mtt ma j)).toInt : Rat) := Rat.intCast_add _ _
            rw [e9]
            exact due_alg P _ _ (by rw [← Rat.intCast_add]; exact ii_ne c6)
        · have nb2 : bt bs (mtt ma j) = true := (RR_bt hr hm.1).mpr c4
          rw [if_neg c4, if_neg (fun h2 => (eu.mp h2).2 nb2), ← h.2.2.2 j hj hin, x_uw h hj hin hW]
    · have k1 : ¬ (sfr j = -9 ∧ ¬ m_ubr br ma j) := fun h2 => c2 h2.1
      rw [if_neg k1, if_pos (eo.mpr (Or.inl c2))]
      have z1 : ((0 : Int32)).toInt = 0 := rfl
      rw [z1, z0, Rat.mul_zero, muQ_q, muQ_q, Rat.zero_mul, Rat.zero_mul]
      split
      · rfl
      · split
        · split <;> rfl
        · rfl
  · rw [if_neg c1, if_pos (eo.mpr (Or.inr c1)), q_z]
    show (0 : Rat) = P * iQ 0
    rw [z0, Rat.mul_zero]
-- ---- fair
theorem mu_red (a : Rat) (c : Int) (d : Nat) (hd : 0 < d) (hcd : Nat.Coprime c.natAbs d) : Nat.gcd (a.num.tdiv ((Nat.gcd a.num.natAbs d : Nat) : Int) * c.tdiv ((Nat.gcd c.natAbs a.den : Nat) : Int)).natAbs (a.den / Nat.gcd c.natAbs a.den * (d / Nat.gcd a.num.natAbs d)) = 1 := by
  have g : Nat.Coprime (a.num.natAbs / Nat.gcd a.num.natAbs d * (c.natAbs / Nat.gcd c.natAbs a.den)) (a.den / Nat.gcd c.natAbs a.den * (d / Nat.gcd a.num.natAbs d)) := by
    rw [Nat.coprime_mul_iff_left]
    refine ⟨Nat.coprime_mul_iff_right.2 ⟨?_, ?_⟩, Nat.coprime_mul_iff_right.2 ⟨?_, ?_⟩⟩
    · exact (a.reduced.coprime_div_left (Nat.gcd_dvd_left ..)).coprime_div_right (Nat.gcd_dvd_right ..)
    · exact Nat.coprime_div_gcd_div_gcd (Nat.gcd_pos_of_pos_right _ hd)
    · exact Nat.coprime_div_gcd_div_gcd (Nat.gcd_pos_of_pos_right _ a.den_pos)
    · exact (hcd.coprime_div_left (Nat.gcd_dvd_left ..)).coprime_div_right (Nat.gcd_dvd_right ..)
  rw [Int.natAbs_mul, Int.natAbs_tdiv, Int.natAbs_tdiv, Int.natAbs_natCast, Int.natAbs_natCast]
  exact g
theorem mu_nd (a : Rat) (c : Int) (d : Nat) (hd : 0 < d) (hcd : Nat.Coprime c.natAbs d) : (muQ a.num a.den c d).num = a.num.tdiv ((Nat.gcd a.num.natAbs d : Nat) : Int) * c.tdiv ((Nat.gcd c.natAbs a.den : Nat) : Int) ∧ ((muQ a.num a.den c d).den : Int) = ((a.den / Nat.gcd c.natAbs a.den : Nat) : Int) * ((d / Nat.gcd a.num.natAbs d : Nat) : Int) := by
  have hr := mu_red a c d hd hcd
  have hp := mu_dpos (a := a.num) (c := c) a.den_pos hd
  rw [← mu_eq a.num c a.den d a.den_pos hd]
  rw [rq_num _ _ hp, rq_den _ _ hp]
  have e : (((a.den / Nat.gcd c.natAbs a.den : Nat) : Int) * ((d / Nat.gcd a.num.natAbs d : Nat) : Int)).natAbs = a.den / Nat.gcd c.natAbs a.den * (d / Nat.gcd a.num.natAbs d) := by
    rw [← Int.natCast_mul, Int.natAbs_natCast]
  rw [e, hr]
  exact ⟨Int.tdiv_one _, Int.tdiv_one _⟩
theorem fx_q (dv Du : Rat) (h : 0 < Du.num) : m_fx dv Du = dv / Du := by
  unfold m_fx
  rw [muQ_q, Int.toNat_of_nonneg (by omega)]
  have e := rat_nd Du
  have h1 : (Du.num : Rat) ≠ 0 := q_ne h
  have h2 : ((Du.den : Int) : Rat) ≠ 0 := ic_ne Du.den_pos
  generalize hn : (Du.num : Rat) = n at *
  generalize hd : ((Du.den : Int) : Rat) = d at *
  rw [e]; grind
theorem fok_of {dv Du : Rat} {b k : Int} (h0 : 0 ≤ Du.num) (h1 : rng Du.num) (h2 : rng (Du.den : Int)) (h3 : rng dv.num) (h4 : rng (dv.den : Int)) (hb : 0 ≤ b ∧ b ≤ 600) (hk : 0 ≤ k ∧ k ≤ 600) (hq : ¬ Du.num = 0 → dv / Du = Rat.divInt b k) : f_ok dv Du := by
  refine ⟨h0, h1, h2, h3, h4, fun hz => ?_⟩
  have hp : 0 < Du.num := by omega
  have e := fx_q dv Du hp
  rw [hq hz] at e
  have hcd : Nat.Coprime ((Du.den : Int)).natAbs Du.num.toNat := by
    rw [Int.natAbs_natCast, show Du.num.toNat = Du.num.natAbs by omega]
    exact Du.reduced.symm
  have hnd := mu_nd dv (Du.den : Int) Du.num.toNat (by omega) hcd
  have hle := dq_le b k hk.1
  have e2 : m_fx dv Du = muQ dv.num dv.den (Du.den : Int) Du.num.toNat := rfl
  rw [← e2, e] at hnd
  rw [← hnd.1, ← hnd.2, e]
  refine ⟨by unfold rng; omega, by unfold rng; omega, by omega, by omega⟩
theorem fair_alg (P a b : Rat) (hP : P ≠ 0) (hb : b ≠ 0) : P * a / (P * b) = a / b := by grind
end FAIR
