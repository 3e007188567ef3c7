variable {l : Launch} {dC : Nat → ClassId} {dI : Nat → Nat → Nat} {cI cJ cZ : ClassId}
variable {q : Nat → Nat} {ln cw ic bs ss : Int32} {se we un sf pa : Nat → Int32}
variable {ct : Int32} {ov gf : Nat → Int64} {gi ta : Nat → Int32}
variable {k : Nat → Nat} {r : Rat} {up lo : Int64} {cn tm : Int32} {isI br ma : Nat → Int32} {aU aL uU uL oU oL gU gL : Nat → Int64}

def m_x (w1 op bk am : Int32) : Rat := if am ≤ 0 then Rat.divInt w1.toInt op.toInt else Rat.divInt w1.toInt op.toInt + Rat.divInt (bk.toInt * w1.toInt) (op.toInt * am.toInt)
theorem ad_x (x : Rat) (c : Int) (d : Nat) : adQ x.num x.den c d 1 = x + Rat.divInt c (d : Int) := by
  unfold adQ
  rw [← rat_nd x, rq_eq]
  show x + (1 : Rat) * _ = _
  rw [Rat.one_mul]
/-- what a unit's number may be -/
def x_in (w1 op bk am : Int32) : Prop := (0 ≤ w1.toInt ∧ w1.toInt ≤ op.toInt ∧ 1 ≤ op.toInt ∧ op.toInt ≤ 600) ∧ (0 ≤ bk.toInt ∧ bk.toInt ≤ op.toInt) ∧ (am ≤ 0 ∨ (w1.toInt ≤ am.toInt ∧ am.toInt ≤ 700))
def x_D (op am : Int32) : Nat := op.toInt.natAbs * (if am ≤ 0 then 1 else am.toInt.natAbs)
theorem x_D_bd {w1 op bk am : Int32} (h : x_in w1 op bk am) : 0 < x_D op am ∧ x_D op am ≤ 420000 ∧ op.toInt.natAbs ∣ x_D op am := by
  obtain ⟨h1, h2, h3⟩ := h
  have e : 1 ≤ (if am ≤ 0 then 1 else am.toInt.natAbs) ∧ (if am ≤ 0 then 1 else am.toInt.natAbs) ≤ 700 := by
    split
    · omega
    · rename_i hz
      have := le0_of hz
      rcases h3 with h3 | h3
      · contradiction
      · omega
  unfold x_D
  refine ⟨Nat.mul_pos (by omega) (by omega), (Nat.mul_le_mul (show op.toInt.natAbs ≤ 600 by omega) e.2 : _ ≤ 600 * 700), Nat.dvd_mul_right _ _⟩
theorem m_x_bd {w1 op bk am : Int32} (h : x_in w1 op bk am) : bd (m_x w1 op bk am) (x_D op am) 2 ∧ 0 ≤ m_x w1 op bk am := by
  have hD := x_D_bd h
  obtain ⟨h1, h2, h3⟩ := h
  have k1 : bd (Rat.divInt w1.toInt op.toInt) (x_D op am) 1 := by rw [rq_eq]; exact bd_q (by omega) hD.1 hD.2.2 (by omega)
  have k0 : 0 ≤ Rat.divInt w1.toInt op.toInt := Rat.divInt_nonneg h1.1 (by omega)
  unfold m_x
  split
  · exact ⟨bd_mono k1 (by omega), k0⟩
  · rename_i hz
    have hz2 := le0_of hz
    have h4 : w1.toInt ≤ am.toInt := by
      rcases h3 with h3 | h3
      · contradiction
      · exact h3.1
    have g := mul_bd h2.1 h2.2 h1.1 h4
    have gp : 0 < op.toInt * am.toInt := Int.mul_pos (by omega) (by omega)
    refine ⟨bd_add (U := 1) k1 ?_, Rat.add_nonneg k0 (Rat.divInt_nonneg g.1 (by omega))⟩
    rw [rq_eq]
    refine bd_q gp hD.1 ?_ (by omega)
    unfold x_D
    rw [if_neg hz, Int.natAbs_mul]
    exact Nat.dvd_refl _
set_option maxHeartbeats 4000000 in
set_option maxRecDepth 100000 in
theorem c_X4_findUnit (sz : Nat) (w1 op bk am : Int32) (Rr : Rat) (Dn : Nat) (hU : aU 2 = iL Rr.num) (hL : aL 2 = iL (Rr.den : Int)) (hDn : 0 < Dn ∧ Dn ≤ 700) (hR : bd Rr Dn 1000000) (hin9 : x_in w1 op bk am) : Met l yX4_findUnit (wT yX4_findUnit cX4_findUnit 5 none) ({ frames := 3, cells := 0, slots := 0, locals := 87 }) (pM (dC, dI) (ty3 cI cJ cZ) ((mQ cI cZ k r ln cn tm se isI we br ma sf pa) ++ (mS cJ k aU aL uU uL)) [.ref (k 0), .int w1, .int op, .int bk, .int am] sz) (va_Qv (S := Unit) (fun _ => True) (fun u t9 => bM (dC, dI) (ty3 cI cJ cZ) (va_A ((mQ cI cZ k r ln cn tm se isI we br ma sf pa) ++ (mS cJ k aU aL uU uL)) sz) ((mQ cI cZ k (Rr * m_x w1 op bk am) ln cn tm se isI we br ma sf pa) ++ (mS cJ k aU aL uU uL)) t9) (va_A ((mQ cI cZ k r ln cn tm se isI we br ma sf pa) ++ (mS cJ k aU aL uU uL)) sz)) 0 0 (va_A ((mQ cI cZ k r ln cn tm se isI we br ma sf pa) ++ (mS cJ k aU aL uU uL)) sz) := by
  refine Met.ofW (cc := cX4_findUnit) (maxL := 5) (ret := none) (by decide) rfl ?_
  intro p e s m args below meth c s₁ B hml hv
  obtain ⟨rfl, hsz, hP, hK, hD0⟩ := hv
  have hx := B.exec
  have hb := B.bytes
  have hr := B.returns
  have hts := atoms_spec (ws := wT yX4_findUnit cX4_findUnit 5 none) B.pre
  have hT := wT_T hts
  have hown : s.vm.findClass RX4 = some m.cls := findClass_of_methodNamed B.named
  have hlocks := B.notSynchronized
  subst hsz
  have hD := hD0.self (sz := s.heap.size)
  generalize hAe : va_A ((mQ cI cZ k r ln cn tm se isI we br ma sf pa) ++ (mS cJ k aU aL uU uL)) s.heap.size = A at hD ⊢
  have hA : ∀ q : Nat, s.heap.size ≤ q → A q := fun q h => by rw [← hAe]; exact Or.inr h
  have hS : va_S A s.heap s.heap [] := va_S.rf
  have hl := lv_entry ([.ref (k 0), .int w1, .int op, .int bk, .int am]) (n := 5) (Nat.le_of_ble_eq_true rfl)
  rw [lg_entry_eq]
  generalize (lg_sl ([.ref (k 0), .int w1, .int op, .int bk, .int am]) ++ List.replicate (5 - (lg_sl ([.ref (k 0), .int w1, .int op, .int bk, .int am])).length) Slot.unset).toArray = ls at hl ⊢
  have hl : lv_has ls 5 [(0, .ref (k 0)), (1, .int w1), (2, .int op), (3, .int bk), (4, .int am)] := hl
  have hxb := m_x_bd hin9
  have hxD := x_D_bd hin9
  have hxn := bd_num_le hxD.1 hxb.1
  have hxd := bd_den_le hxD.1 hxb.1
  have hRn := bd_num_le hDn.1 hR
  have hRd := bd_den_le hDn.1 hR
  have hRp := Rr.den_pos
  have hxp := (m_x w1 op bk am).den_pos
  obtain ⟨h1, h2, h3⟩ := id hin9
  have hRn2 : Rr.num.natAbs ≤ 700000000 := by have := Nat.mul_le_mul_left 1000000 hDn.2; omega
  have hxn2 : (m_x w1 op bk am).num.natAbs ≤ 840000 := by omega
  refine lv_aload_n hx hb dX4_findUnit_0 rfl (lv_at hl 0 rfl) ?_
  refine lv_iload_n hx hb dX4_findUnit_1 rfl (lv_at hl 1 rfl) ?_
  refine lv_i2l (v := iL (w1 : Int32).toInt) hx hb dX4_findUnit_2 rfl ?_
  refine lv_iload_n hx hb dX4_findUnit_3 rfl (lv_at hl 2 rfl) ?_
  refine lv_i2l (v := iL (op : Int32).toInt) hx hb dX4_findUnit_4 rfl ?_
  refine fM_v (wc := mQ cI cZ k r ln cn tm se isI we br ma sf pa) (wr := mS cJ k aU aL uU uL) (rMV (wc := mQ cI cZ k r ln cn tm se isI we br ma sf pa) (As := [.long (iL (w1 : Int32).toInt), .long (iL (op : Int32).toInt)]) (rest := []) ⟨hx, hb, hml, hown, hT⟩ (c_X4_makes (l := l) s.heap.size ((w1 : Int32).toInt) ((op : Int32).toInt) (by unfold rng; omega) (by omega) (by unfold rng; omega)) (cwTV 2 hT kc_X4_makes km_X4_78 ki_X4_makes ks_X4_makes kn_X4 rfl rfl md_X4_makes ⟨Nat.le_of_ble_eq_true rfl, Nat.le_of_ble_eq_true rfl⟩) (va_P.sub (ws' := mQ cI cZ k r ln cn tm se isI we br ma sf pa) hP [0, 1, 2, 3, 4, 5, 6, 7] rfl) (va_D.sub (ws' := mQ cI cZ k r ln cn tm se isI we br ma sf pa) hD [0, 1, 2, 3, 4, 5, 6, 7] (by decide) rfl) hK (va_recv hK hP (ci := 4) (q0 := 0) rfl rfl) rfl hl.1 rfl (Nat.le_of_ble_eq_true rfl) dX4_findUnit_5 ⟨Nat.le_of_ble_eq_true rfl, Nat.le_of_ble_eq_true rfl⟩) hP hD hS hA (fun u_5 H locs hw_5 hP hD hS => ?_)
  have hP : va_P (dC, dI) vwCl ((mQ cI cZ k (Rat.divInt ((w1 : Int32).toInt) ((op : Int32).toInt)) ln cn tm se isI we br ma sf pa) ++ (mS cJ k aU aL uU uL)) H := hP
  have hD : va_D A ((mQ cI cZ k (Rat.divInt ((w1 : Int32).toInt) ((op : Int32).toInt)) ln cn tm se isI we br ma sf pa) ++ (mS cJ k aU aL uU uL)) := hD
  refine lv_iload hx hb dX4_findUnit_8 (lv_at hl 4 rfl) ?_
  refine lv_if_le (tgt := 37) hx hb dX4_findUnit_10 (by decide) (fun c_10 => ?_) (fun c_10 => ?_)
  · have hmx : m_x w1 op bk am = (Rat.divInt (w1 : Int32).toInt (op : Int32).toInt) := by unfold m_x; rw [if_pos c_10]
    have hP := hP
    refine lv_aload_n hx hb dX4_findUnit_37 rfl (lv_at hl 0 rfl) ?_
    refine lv_aload_n hx hb dX4_findUnit_38 rfl (lv_at hl 0 rfl) ?_
    refine va_get (D := (dC, dI)) (ci := 4) (v := .ref (k 8)) (C := RX4) (T := TX4) (N := 22) hx hb hT hiX4 hown hK hP 0 rfl rfl 11 (by decide) (hT _ kf_X4_36) (fun _ h9 => h9) rfl dX4_findUnit_39 ?_
    refine lv_iconst (v := 2) hx hb dX4_findUnit_42 (by decide) ?_
    refine ald_l hx hb hK hP 8 1 rfl rfl (by decide) (w := 2) rfl (by decide) dX4_findUnit_43 ?_
    refine topl_eq (y := (iL (Rr).num)) hU ?_
    refine lv_aload_n hx hb dX4_findUnit_44 rfl (lv_at hl 0 rfl) ?_
    refine va_get (D := (dC, dI)) (ci := 4) (v := .ref (k 9)) (C := RX4) (T := TX4) (N := 22) hx hb hT hiX4 hown hK hP 0 rfl rfl 12 (by decide) (hT _ kf_X4_40) (fun _ h9 => h9) rfl dX4_findUnit_45 ?_
    refine lv_iconst (v := 2) hx hb dX4_findUnit_48 (by decide) ?_
    refine ald_l hx hb hK hP 9 1 rfl rfl (by decide) (w := 2) rfl (by decide) dX4_findUnit_49 ?_
    refine topl_eq (y := (iL ((Rr).den : Int))) hL ?_
    refine lv_aload_n hx hb dX4_findUnit_50 rfl (lv_at hl 0 rfl) ?_
    refine va_get (D := (dC, dI)) (ci := 4) (v := .long (iL ((Rat.divInt ((w1 : Int32).toInt) ((op : Int32).toInt))).num)) (C := RX4) (T := TX4) (N := 22) hx hb hT hiX4 hown hK hP 0 rfl rfl 0 (by decide) (hT _ kf_X4_75) (fun _ h9 => h9) rfl dX4_findUnit_51 ?_
    refine lv_aload_n hx hb dX4_findUnit_54 rfl (lv_at hl 0 rfl) ?_
    refine va_get (D := (dC, dI)) (ci := 4) (v := .long (iL (((Rat.divInt ((w1 : Int32).toInt) ((op : Int32).toInt))).den : Int))) (C := RX4) (T := TX4) (N := 22) hx hb hT hiX4 hown hK hP 0 rfl rfl 1 (by decide) (hT _ kf_X4_7) (fun _ h9 => h9) rfl dX4_findUnit_55 ?_
    refine fM_v (wc := mQ cI cZ k (Rat.divInt ((w1 : Int32).toInt) ((op : Int32).toInt)) ln cn tm se isI we br ma sf pa) (wr := mS cJ k aU aL uU uL) (rMV (wc := mQ cI cZ k (Rat.divInt ((w1 : Int32).toInt) ((op : Int32).toInt)) ln cn tm se isI we br ma sf pa) (As := [.long (iL (Rr).num), .long (iL ((Rr).den : Int)), .long (iL ((Rat.divInt ((w1 : Int32).toInt) ((op : Int32).toInt))).num), .long (iL (((Rat.divInt ((w1 : Int32).toInt) ((op : Int32).toInt))).den : Int))]) (rest := []) ⟨hx, hb, hml, hown, hT⟩ (c_X4_multiplies (l := l) H.size ((Rr).num) ((Rr).den) (((Rat.divInt ((w1 : Int32).toInt) ((op : Int32).toInt))).num) (((Rat.divInt ((w1 : Int32).toInt) ((op : Int32).toInt))).den) (by unfold rng; omega) (by first | (unfold rng; omega) | (rw [← hmx]; unfold rng; omega)) hRp (Rat.den_pos _) (by unfold rng; omega) (by first | (unfold rng; omega) | (rw [← hmx]; unfold rng; omega)) (by first | exact mu_num (N := 700000000 * 840000) (Nat.mul_le_mul hRn2 hxn2) (by decide) | (rw [← hmx]; exact mu_num (N := 700000000 * 840000) (Nat.mul_le_mul hRn2 hxn2) (by decide))) (by first | exact mu_den (N := 700 * 420000) hRp hxp (Nat.mul_le_mul (by omega) (by omega)) (by decide) | (rw [← hmx]; exact mu_den (N := 700 * 420000) hRp hxp (Nat.mul_le_mul (by omega) (by omega)) (by decide)))) (cwTV 4 hT kc_X4_multiplies km_X4_145 ki_X4_multiplies ks_X4_multiplies kn_X4 rfl rfl md_X4_multiplies ⟨Nat.le_of_ble_eq_true rfl, Nat.le_of_ble_eq_true rfl⟩) (va_P.sub (ws' := mQ cI cZ k (Rat.divInt ((w1 : Int32).toInt) ((op : Int32).toInt)) ln cn tm se isI we br ma sf pa) hP [0, 1, 2, 3, 4, 5, 6, 7] rfl) (va_D.sub (ws' := mQ cI cZ k (Rat.divInt ((w1 : Int32).toInt) ((op : Int32).toInt)) ln cn tm se isI we br ma sf pa) hD [0, 1, 2, 3, 4, 5, 6, 7] (by decide) rfl) hK (va_recv hK hP (ci := 4) (q0 := 0) rfl rfl) rfl hl.1 rfl (Nat.le_of_ble_eq_true rfl) dX4_findUnit_58 ⟨Nat.le_of_ble_eq_true rfl, Nat.le_of_ble_eq_true rfl⟩) hP hD hS hA (fun u_58 H locs hw_58 hP hD hS => ?_)
    have hP : va_P (dC, dI) vwCl ((mQ cI cZ k (muQ ((Rr).num) ((Rr).den) (((Rat.divInt ((w1 : Int32).toInt) ((op : Int32).toInt))).num) (((Rat.divInt ((w1 : Int32).toInt) ((op : Int32).toInt))).den)) ln cn tm se isI we br ma sf pa) ++ (mS cJ k aU aL uU uL)) H := hP
    have hD : va_D A ((mQ cI cZ k (muQ ((Rr).num) ((Rr).den) (((Rat.divInt ((w1 : Int32).toInt) ((op : Int32).toInt))).num) (((Rat.divInt ((w1 : Int32).toInt) ((op : Int32).toInt))).den)) ln cn tm se isI we br ma sf pa) ++ (mS cJ k aU aL uU uL)) := hD
    rw [show (muQ ((Rr).num) ((Rr).den) (((Rat.divInt ((w1 : Int32).toInt) ((op : Int32).toInt))).num) (((Rat.divInt ((w1 : Int32).toInt) ((op : Int32).toInt))).den)) = (Rr * m_x w1 op bk am) from (by first | exact muQ_rr _ _ | rw [muQ_rr, hmx])] at hP hD
    have hP : va_P (dC, dI) vwCl ((mQ cI cZ k (Rr * m_x w1 op bk am) ln cn tm se isI we br ma sf pa) ++ (mS cJ k aU aL uU uL)) H := hP
    have hD : va_D A ((mQ cI cZ k (Rr * m_x w1 op bk am) ln cn tm se isI we br ma sf pa) ++ (mS cJ k aU aL uU uL)) := hD
    exact retM_v (S := Unit) (post := fun _ => True) (w2 := fun u => (mQ cI cZ k (Rr * m_x w1 op bk am) ln cn tm se isI we br ma sf pa) ++ (mS cJ k aU aL uU uL)) () hx hb hr hlocks trivial hP hK hD hS dX4_findUnit_61
  · have hmx : m_x w1 op bk am = (Rat.divInt (w1 : Int32).toInt (op : Int32).toInt) + Rat.divInt (bk.toInt * w1.toInt) ((op : Int32).toInt * (am : Int32).toInt) := by unfold m_x; rw [if_neg c_10]
    have ha0 := le0_of c_10
    have ham : w1.toInt ≤ am.toInt ∧ am.toInt ≤ 700 := h3.resolve_left c_10
    have gp : 0 < ((op : Int32).toInt * (am : Int32).toInt) := Int.mul_pos (by omega) (by omega)
    have g := mul_bd h2.1 h2.2 h1.1 ham.1
    have g4 := mul_bd (a := op.toInt) (b := am.toInt) (x := 600) (y := 700) (by omega) (by omega) (by omega) (by omega)
    have hr1 : bd (Rat.divInt (w1 : Int32).toInt (op : Int32).toInt) (((op : Int32).toInt * (am : Int32).toInt)).toNat 1 := by rw [rq_eq]; exact bd_q (by omega) (by omega) (by rw [show (((op : Int32).toInt * (am : Int32).toInt)).toNat = op.toInt.natAbs * am.toInt.natAbs from by rw [← Int.natAbs_mul]; omega]; exact Nat.dvd_mul_right _ _) (by omega)
    have hr2 := bd_nd (by omega) hr1
    refine lv_aload_n hx hb dX4_findUnit_13 rfl (lv_at hl 0 rfl) ?_
    refine lv_aload_n hx hb dX4_findUnit_14 rfl (lv_at hl 0 rfl) ?_
    refine va_get (D := (dC, dI)) (ci := 4) (v := .long (iL ((Rat.divInt ((w1 : Int32).toInt) ((op : Int32).toInt))).num)) (C := RX4) (T := TX4) (N := 22) hx hb hT hiX4 hown hK hP 0 rfl rfl 0 (by decide) (hT _ kf_X4_75) (fun _ h9 => h9) rfl dX4_findUnit_15 ?_
    refine lv_aload_n hx hb dX4_findUnit_18 rfl (lv_at hl 0 rfl) ?_
    refine va_get (D := (dC, dI)) (ci := 4) (v := .long (iL (((Rat.divInt ((w1 : Int32).toInt) ((op : Int32).toInt))).den : Int))) (C := RX4) (T := TX4) (N := 22) hx hb hT hiX4 hown hK hP 0 rfl rfl 1 (by decide) (hT _ kf_X4_7) (fun _ h9 => h9) rfl dX4_findUnit_19 ?_
    refine lv_iload_n hx hb dX4_findUnit_22 rfl (lv_at hl 3 rfl) ?_
    refine lv_i2l (v := iL (bk : Int32).toInt) hx hb dX4_findUnit_23 rfl ?_
    refine lv_iload_n hx hb dX4_findUnit_24 rfl (lv_at hl 1 rfl) ?_
    refine lv_i2l (v := iL (w1 : Int32).toInt) hx hb dX4_findUnit_25 rfl ?_
    refine li_mul hx hb (a := ((bk : Int32).toInt)) (b := ((w1 : Int32).toInt)) dX4_findUnit_26 ?_
    refine lv_iload_n hx hb dX4_findUnit_27 rfl (lv_at hl 2 rfl) ?_
    refine lv_i2l (v := iL (op : Int32).toInt) hx hb dX4_findUnit_28 rfl ?_
    refine lv_iload hx hb dX4_findUnit_29 (lv_at hl 4 rfl) ?_
    refine lv_i2l (v := iL (am : Int32).toInt) hx hb dX4_findUnit_31 rfl ?_
    refine li_mul hx hb (a := ((op : Int32).toInt)) (b := ((am : Int32).toInt)) dX4_findUnit_32 ?_
    refine topl_eq (y := (iL (((((op : Int32).toInt * (am : Int32).toInt)).toNat : Nat) : Int))) (congrArg iL (Int.toNat_of_nonneg (by omega)).symm) ?_
    refine lv_lconst (v := iL 1) hx hb dX4_findUnit_33 rfl ?_
    refine fM_v (wc := mQ cI cZ k (Rat.divInt ((w1 : Int32).toInt) ((op : Int32).toInt)) ln cn tm se isI we br ma sf pa) (wr := mS cJ k aU aL uU uL) (rMV (wc := mQ cI cZ k (Rat.divInt ((w1 : Int32).toInt) ((op : Int32).toInt)) ln cn tm se isI we br ma sf pa) (As := [.long (iL ((Rat.divInt ((w1 : Int32).toInt) ((op : Int32).toInt))).num), .long (iL (((Rat.divInt ((w1 : Int32).toInt) ((op : Int32).toInt))).den : Int)), .long (iL (((bk : Int32).toInt) * ((w1 : Int32).toInt))), .long (iL (((((op : Int32).toInt * (am : Int32).toInt)).toNat : Nat) : Int)), .long (iL 1)]) (rest := []) ⟨hx, hb, hml, hown, hT⟩ (c_X4_adds (l := l) H.size (((Rat.divInt ((w1 : Int32).toInt) ((op : Int32).toInt))).num) (((Rat.divInt ((w1 : Int32).toInt) ((op : Int32).toInt))).den) (((bk : Int32).toInt) * ((w1 : Int32).toInt)) ((((op : Int32).toInt * (am : Int32).toInt)).toNat : Nat) 1 (((op : Int32).toInt * (am : Int32).toInt)).toNat 1 1 (Rat.den_pos _) (by omega) (by omega) hr2.1 (Nat.dvd_refl _) hr2.2 (by omega) (by omega) (by omega) (Or.inl rfl)) (cwTV 5 hT kc_X4_adds km_X4_128 ki_X4_adds ks_X4_adds kn_X4 rfl rfl md_X4_adds ⟨Nat.le_of_ble_eq_true rfl, Nat.le_of_ble_eq_true rfl⟩) (va_P.sub (ws' := mQ cI cZ k (Rat.divInt ((w1 : Int32).toInt) ((op : Int32).toInt)) ln cn tm se isI we br ma sf pa) hP [0, 1, 2, 3, 4, 5, 6, 7] rfl) (va_D.sub (ws' := mQ cI cZ k (Rat.divInt ((w1 : Int32).toInt) ((op : Int32).toInt)) ln cn tm se isI we br ma sf pa) hD [0, 1, 2, 3, 4, 5, 6, 7] (by decide) rfl) hK (va_recv hK hP (ci := 4) (q0 := 0) rfl rfl) rfl hl.1 rfl (Nat.le_of_ble_eq_true rfl) dX4_findUnit_34 ⟨Nat.le_of_ble_eq_true rfl, Nat.le_of_ble_eq_true rfl⟩) hP hD hS hA (fun u_34 H locs hw_34 hP hD hS => ?_)
    have hP : va_P (dC, dI) vwCl ((mQ cI cZ k (adQ (((Rat.divInt ((w1 : Int32).toInt) ((op : Int32).toInt))).num) (((Rat.divInt ((w1 : Int32).toInt) ((op : Int32).toInt))).den) (((bk : Int32).toInt) * ((w1 : Int32).toInt)) ((((op : Int32).toInt * (am : Int32).toInt)).toNat : Nat) 1) ln cn tm se isI we br ma sf pa) ++ (mS cJ k aU aL uU uL)) H := hP
    have hD : va_D A ((mQ cI cZ k (adQ (((Rat.divInt ((w1 : Int32).toInt) ((op : Int32).toInt))).num) (((Rat.divInt ((w1 : Int32).toInt) ((op : Int32).toInt))).den) (((bk : Int32).toInt) * ((w1 : Int32).toInt)) ((((op : Int32).toInt * (am : Int32).toInt)).toNat : Nat) 1) ln cn tm se isI we br ma sf pa) ++ (mS cJ k aU aL uU uL)) := hD
    rw [show (adQ (((Rat.divInt ((w1 : Int32).toInt) ((op : Int32).toInt))).num) (((Rat.divInt ((w1 : Int32).toInt) ((op : Int32).toInt))).den) (((bk : Int32).toInt) * ((w1 : Int32).toInt)) ((((op : Int32).toInt * (am : Int32).toInt)).toNat : Nat) 1) = (m_x w1 op bk am) from (by rw [ad_x, hmx, Int.toNat_of_nonneg (by omega)])] at hP hD
    have hP : va_P (dC, dI) vwCl ((mQ cI cZ k (m_x w1 op bk am) ln cn tm se isI we br ma sf pa) ++ (mS cJ k aU aL uU uL)) H := hP
    have hD : va_D A ((mQ cI cZ k (m_x w1 op bk am) ln cn tm se isI we br ma sf pa) ++ (mS cJ k aU aL uU uL)) := hD
    have hP := hP
    refine lv_aload_n hx hb dX4_findUnit_37 rfl (lv_at hl 0 rfl) ?_
    refine lv_aload_n hx hb dX4_findUnit_38 rfl (lv_at hl 0 rfl) ?_
    refine va_get (D := (dC, dI)) (ci := 4) (v := .ref (k 8)) (C := RX4) (T := TX4) (N := 22) hx hb hT hiX4 hown hK hP 0 rfl rfl 11 (by decide) (hT _ kf_X4_36) (fun _ h9 => h9) rfl dX4_findUnit_39 ?_
    refine lv_iconst (v := 2) hx hb dX4_findUnit_42 (by decide) ?_
    refine ald_l hx hb hK hP 8 1 rfl rfl (by decide) (w := 2) rfl (by decide) dX4_findUnit_43 ?_
    refine topl_eq (y := (iL (Rr).num)) hU ?_
    refine lv_aload_n hx hb dX4_findUnit_44 rfl (lv_at hl 0 rfl) ?_
    refine va_get (D := (dC, dI)) (ci := 4) (v := .ref (k 9)) (C := RX4) (T := TX4) (N := 22) hx hb hT hiX4 hown hK hP 0 rfl rfl 12 (by decide) (hT _ kf_X4_40) (fun _ h9 => h9) rfl dX4_findUnit_45 ?_
    refine lv_iconst (v := 2) hx hb dX4_findUnit_48 (by decide) ?_
    refine ald_l hx hb hK hP 9 1 rfl rfl (by decide) (w := 2) rfl (by decide) dX4_findUnit_49 ?_
    refine topl_eq (y := (iL ((Rr).den : Int))) hL ?_
    refine lv_aload_n hx hb dX4_findUnit_50 rfl (lv_at hl 0 rfl) ?_
    refine va_get (D := (dC, dI)) (ci := 4) (v := .long (iL ((m_x w1 op bk am)).num)) (C := RX4) (T := TX4) (N := 22) hx hb hT hiX4 hown hK hP 0 rfl rfl 0 (by decide) (hT _ kf_X4_75) (fun _ h9 => h9) rfl dX4_findUnit_51 ?_
    refine lv_aload_n hx hb dX4_findUnit_54 rfl (lv_at hl 0 rfl) ?_
    refine va_get (D := (dC, dI)) (ci := 4) (v := .long (iL (((m_x w1 op bk am)).den : Int))) (C := RX4) (T := TX4) (N := 22) hx hb hT hiX4 hown hK hP 0 rfl rfl 1 (by decide) (hT _ kf_X4_7) (fun _ h9 => h9) rfl dX4_findUnit_55 ?_
    refine fM_v (wc := mQ cI cZ k (m_x w1 op bk am) ln cn tm se isI we br ma sf pa) (wr := mS cJ k aU aL uU uL) (rMV (wc := mQ cI cZ k (m_x w1 op bk am) ln cn tm se isI we br ma sf pa) (As := [.long (iL (Rr).num), .long (iL ((Rr).den : Int)), .long (iL ((m_x w1 op bk am)).num), .long (iL (((m_x w1 op bk am)).den : Int))]) (rest := []) ⟨hx, hb, hml, hown, hT⟩ (c_X4_multiplies (l := l) H.size ((Rr).num) ((Rr).den) (((m_x w1 op bk am)).num) (((m_x w1 op bk am)).den) (by unfold rng; omega) (by first | (unfold rng; omega) | (rw [← hmx]; unfold rng; omega)) hRp (Rat.den_pos _) (by unfold rng; omega) (by first | (unfold rng; omega) | (rw [← hmx]; unfold rng; omega)) (by first | exact mu_num (N := 700000000 * 840000) (Nat.mul_le_mul hRn2 hxn2) (by decide) | (rw [← hmx]; exact mu_num (N := 700000000 * 840000) (Nat.mul_le_mul hRn2 hxn2) (by decide))) (by first | exact mu_den (N := 700 * 420000) hRp hxp (Nat.mul_le_mul (by omega) (by omega)) (by decide) | (rw [← hmx]; exact mu_den (N := 700 * 420000) hRp hxp (Nat.mul_le_mul (by omega) (by omega)) (by decide)))) (cwTV 4 hT kc_X4_multiplies km_X4_145 ki_X4_multiplies ks_X4_multiplies kn_X4 rfl rfl md_X4_multiplies ⟨Nat.le_of_ble_eq_true rfl, Nat.le_of_ble_eq_true rfl⟩) (va_P.sub (ws' := mQ cI cZ k (m_x w1 op bk am) ln cn tm se isI we br ma sf pa) hP [0, 1, 2, 3, 4, 5, 6, 7] rfl) (va_D.sub (ws' := mQ cI cZ k (m_x w1 op bk am) ln cn tm se isI we br ma sf pa) hD [0, 1, 2, 3, 4, 5, 6, 7] (by decide) rfl) hK (va_recv hK hP (ci := 4) (q0 := 0) rfl rfl) rfl hl.1 rfl (Nat.le_of_ble_eq_true rfl) dX4_findUnit_58 ⟨Nat.le_of_ble_eq_true rfl, Nat.le_of_ble_eq_true rfl⟩) hP hD hS hA (fun u_58 H locs hw_58 hP hD hS => ?_)
    have hP : va_P (dC, dI) vwCl ((mQ cI cZ k (muQ ((Rr).num) ((Rr).den) (((m_x w1 op bk am)).num) (((m_x w1 op bk am)).den)) ln cn tm se isI we br ma sf pa) ++ (mS cJ k aU aL uU uL)) H := hP
    have hD : va_D A ((mQ cI cZ k (muQ ((Rr).num) ((Rr).den) (((m_x w1 op bk am)).num) (((m_x w1 op bk am)).den)) ln cn tm se isI we br ma sf pa) ++ (mS cJ k aU aL uU uL)) := hD
    rw [show (muQ ((Rr).num) ((Rr).den) (((m_x w1 op bk am)).num) (((m_x w1 op bk am)).den)) = (Rr * m_x w1 op bk am) from (by first | exact muQ_rr _ _ | rw [muQ_rr, hmx])] at hP hD
    have hP : va_P (dC, dI) vwCl ((mQ cI cZ k (Rr * m_x w1 op bk am) ln cn tm se isI we br ma sf pa) ++ (mS cJ k aU aL uU uL)) H := hP
    have hD : va_D A ((mQ cI cZ k (Rr * m_x w1 op bk am) ln cn tm se isI we br ma sf pa) ++ (mS cJ k aU aL uU uL)) := hD
    exact retM_v (S := Unit) (post := fun _ => True) (w2 := fun u => (mQ cI cZ k (Rr * m_x w1 op bk am) ln cn tm se isI we br ma sf pa) ++ (mS cJ k aU aL uU uL)) () hx hb hr hlocks trivial hP hK hD hS dX4_findUnit_61
