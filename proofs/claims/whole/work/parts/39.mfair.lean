variable {l : Launch} {dC : Nat → ClassId} {dI : Nat → Nat → Nat} {cI cJ cZ : ClassId}
variable {q : Nat → Nat} {ln cw ic bs ss : Int32} {se we un sf pa : Nat → Int32}
variable {ct : Int32} {ov gf : Nat → Int64} {gi ta : Nat → Int32}
variable {k : Nat → Nat} {r : Rat} {up lo : Int64} {cn tm : Int32} {isI br ma : Nat → Int32} {aU aL uU uL oU oL gU gL : Nat → Int64}
set_option maxHeartbeats 4000000 in
set_option maxRecDepth 100000 in
theorem c_X4_findFair (sz : Nat) (w : Nat) (dv : Rat) (hw : w < 6) (hm : mok ma) (hwe : ∀ u, u < 6 → 0 ≤ (we u).toInt ∧ (we u).toInt ≤ 100) (hU : uU (m_un ma w) = iL dv.num) (hL : uL (m_un ma w) = iL (dv.den : Int)) (hdv : dv.num.natAbs ≤ 1000000000000000 ∧ dv.den ≤ 300000000) (Du : Rat) (hA4 : aU 4 = iL Du.num) (hB4 : aL 4 = iL (Du.den : Int)) (hfo : f_ok (m_due we br ma w dv) Du) (hpa : 0 ≤ (m_paN pa 6).toInt ∧ (m_paN pa 6).toInt ≤ 10000000) : Met l yX4_findFair (wT yX4_findFair cX4_findFair 2 none) ({ frames := 4, cells := 0, slots := 0, locals := 110 }) (pM (dC, dI) (ty3 cI cJ cZ) ((mQ cI cZ k r ln cn tm se isI we br ma sf pa) ++ (mS cJ k aU aL uU uL)) [.ref (k 0), .int (nI w)] sz) (va_Qv (S := Unit) (fun _ => True) (fun u t9 => bM (dC, dI) (ty3 cI cJ cZ) (va_A ((mQ cI cZ k r ln cn tm se isI we br ma sf pa) ++ (mS cJ k aU aL uU uL)) sz) ((mQ cI cZ k (m_fair (m_due we br ma w dv) Du ((m_paN pa 6).toInt)) ln cn tm se isI we br ma sf pa) ++ (mS cJ k aU aL uU uL)) t9) (va_A ((mQ cI cZ k r ln cn tm se isI we br ma sf pa) ++ (mS cJ k aU aL uU uL)) sz)) 0 0 (va_A ((mQ cI cZ k r ln cn tm se isI we br ma sf pa) ++ (mS cJ k aU aL uU uL)) sz) := by
  refine Met.ofW (cc := cX4_findFair) (maxL := 2) (ret := none) (by decide) rfl ?_
  intro p e s m args below meth c s₁ B hml hv
  obtain ⟨rfl, hsz, hP, hK, hD0⟩ := hv
  have hx := B.exec
  have hb := B.bytes
  have hr := B.returns
  have hts := atoms_spec (ws := wT yX4_findFair cX4_findFair 2 none) B.pre
  have hT := wT_T hts
  have hown : s.vm.findClass RX4 = some m.cls := findClass_of_methodNamed B.named
  have hlocks := B.notSynchronized
  subst hsz
  have hD := hD0.self (sz := s.heap.size)
  generalize hAe : va_A ((mQ cI cZ k r ln cn tm se isI we br ma sf pa) ++ (mS cJ k aU aL uU uL)) s.heap.size = A at hD ⊢
  have hA : ∀ q : Nat, s.heap.size ≤ q → A q := fun q h => by rw [← hAe]; exact Or.inr h
  have hS : va_S A s.heap s.heap [] := va_S.rf
  have hl := lv_entry ([.ref (k 0), .int (nI w)]) (n := 2) (Nat.le_of_ble_eq_true rfl)
  rw [lg_entry_eq]
  generalize (lg_sl ([.ref (k 0), .int (nI w)]) ++ List.replicate (2 - (lg_sl ([.ref (k 0), .int (nI w)])).length) Slot.unset).toArray = ls at hl ⊢
  have hl : lv_has ls 2 [(0, .ref (k 0)), (1, .int (nI w))] := hl
  obtain ⟨hf1, hf2, hf3, hf4, hf5, hf6⟩ := id hfo
  refine lv_aload_n hx hb dX4_findFair_0 rfl (lv_at hl 0 rfl) ?_
  refine va_get (D := (dC, dI)) (ci := 4) (v := .ref (k 8)) (C := RX4) (T := TX4) (N := 22) hx hb hT hiX4 hown hK hP 0 rfl rfl 11 (by decide) (hT _ kf_X4_36) (fun _ h9 => h9) rfl dX4_findFair_1 ?_
  refine lv_iconst (v := 4) hx hb dX4_findFair_4 (by decide) ?_
  refine ald_l hx hb hK hP 8 1 rfl rfl (by decide) (w := 4) rfl (by decide) dX4_findFair_5 ?_
  refine topl_eq (y := (iL (Du).num)) hA4 ?_
  refine lv_lconst (v := iL 0) hx hb dX4_findFair_6 rfl ?_
  refine lc_ne (tgt := 18) hx hb dX4_findFair_7 dX4_findFair_8 (by decide) (fun c_7 => ?_) (fun c_7 => ?_)
  · have hz : ¬ Du.num = 0 := fun h => c_7 (by rw [h])
    obtain ⟨hn1, hn2, hn3, hn4⟩ := hf6 hz
    refine lv_aload_n hx hb dX4_findFair_18 rfl (lv_at hl 0 rfl) ?_
    refine lv_iload_n hx hb dX4_findFair_19 rfl (lv_at hl 1 rfl) ?_
    refine fM_v (wc := (mQ cI cZ k r ln cn tm se isI we br ma sf pa) ++ (mS cJ k aU aL uU uL)) (wr := []) (rMV (wc := (mQ cI cZ k r ln cn tm se isI we br ma sf pa) ++ (mS cJ k aU aL uU uL)) (As := [.int (nI w)]) (rest := []) ⟨hx, hb, hml, hown, hT⟩ (c_X4_findDue (l := l) s.heap.size w dv hw hm hwe hU hL hdv) (cwTV 1 hT kc_X4_findDue km_X4_166 ki_X4_findDue ks_X4_findDue kn_X4 rfl rfl md_X4_findDue ⟨Nat.le_of_ble_eq_true rfl, Nat.le_of_ble_eq_true rfl⟩) hP hD hK (va_recv hK hP (ci := 4) (q0 := 0) rfl rfl) rfl hl.1 rfl (Nat.le_of_ble_eq_true rfl) dX4_findFair_20 ⟨Nat.le_of_ble_eq_true rfl, Nat.le_of_ble_eq_true rfl⟩) hP hD hS hA (fun u_20 H locs hw_20 hP hD hS => ?_)
    have hP : va_P (dC, dI) vwCl ((mQ cI cZ k u_20 ln cn tm se isI we br ma sf pa) ++ (mS cJ k aU aL uU uL)) H := hP
    have hD : va_D A ((mQ cI cZ k u_20 ln cn tm se isI we br ma sf pa) ++ (mS cJ k aU aL uU uL)) := hD
    subst hw_20
    have hP : va_P (dC, dI) vwCl ((mQ cI cZ k (m_due we br ma w dv) ln cn tm se isI we br ma sf pa) ++ (mS cJ k aU aL uU uL)) H := hP
    have hD : va_D A ((mQ cI cZ k (m_due we br ma w dv) ln cn tm se isI we br ma sf pa) ++ (mS cJ k aU aL uU uL)) := hD
    refine lv_aload_n hx hb dX4_findFair_23 rfl (lv_at hl 0 rfl) ?_
    refine lv_aload_n hx hb dX4_findFair_24 rfl (lv_at hl 0 rfl) ?_
    refine va_get (D := (dC, dI)) (ci := 4) (v := .long (iL ((m_due we br ma w dv)).num)) (C := RX4) (T := TX4) (N := 22) hx hb hT hiX4 hown hK hP 0 rfl rfl 0 (by decide) (hT _ kf_X4_75) (fun _ h9 => h9) rfl dX4_findFair_25 ?_
    refine lv_aload_n hx hb dX4_findFair_28 rfl (lv_at hl 0 rfl) ?_
    refine va_get (D := (dC, dI)) (ci := 4) (v := .long (iL (((m_due we br ma w dv)).den : Int))) (C := RX4) (T := TX4) (N := 22) hx hb hT hiX4 hown hK hP 0 rfl rfl 1 (by decide) (hT _ kf_X4_7) (fun _ h9 => h9) rfl dX4_findFair_29 ?_
    refine lv_aload_n hx hb dX4_findFair_32 rfl (lv_at hl 0 rfl) ?_
    refine va_get (D := (dC, dI)) (ci := 4) (v := .ref (k 9)) (C := RX4) (T := TX4) (N := 22) hx hb hT hiX4 hown hK hP 0 rfl rfl 12 (by decide) (hT _ kf_X4_40) (fun _ h9 => h9) rfl dX4_findFair_33 ?_
    refine lv_iconst (v := 4) hx hb dX4_findFair_36 (by decide) ?_
    refine ald_l hx hb hK hP 9 1 rfl rfl (by decide) (w := 4) rfl (by decide) dX4_findFair_37 ?_
    refine topl_eq (y := (iL ((Du).den : Int))) hB4 ?_
    refine lv_aload_n hx hb dX4_findFair_38 rfl (lv_at hl 0 rfl) ?_
    refine va_get (D := (dC, dI)) (ci := 4) (v := .ref (k 8)) (C := RX4) (T := TX4) (N := 22) hx hb hT hiX4 hown hK hP 0 rfl rfl 11 (by decide) (hT _ kf_X4_36) (fun _ h9 => h9) rfl dX4_findFair_39 ?_
    refine lv_iconst (v := 4) hx hb dX4_findFair_42 (by decide) ?_
    refine ald_l hx hb hK hP 8 1 rfl rfl (by decide) (w := 4) rfl (by decide) dX4_findFair_43 ?_
    refine topl_eq (y := (iL (((Du).num.toNat : Nat) : Int))) (by rw [hA4]; exact congrArg iL (Int.toNat_of_nonneg hf1).symm) ?_
    refine fM_v (wc := mQ cI cZ k (m_due we br ma w dv) ln cn tm se isI we br ma sf pa) (wr := mS cJ k aU aL uU uL) (rMV (wc := mQ cI cZ k (m_due we br ma w dv) ln cn tm se isI we br ma sf pa) (As := [.long (iL ((m_due we br ma w dv)).num), .long (iL (((m_due we br ma w dv)).den : Int)), .long (iL ((Du).den : Int)), .long (iL (((Du).num.toNat : Nat) : Int))]) (rest := []) ⟨hx, hb, hml, hown, hT⟩ (c_X4_multiplies (l := l) H.size (((m_due we br ma w dv)).num) (((m_due we br ma w dv)).den) ((Du).den : Int) ((Du).num.toNat : Nat) hf4 hf3 (Rat.den_pos _) (by omega) hf5 (by unfold rng at hf2 ⊢; omega) hn1 hn2) (cwTV 4 hT kc_X4_multiplies km_X4_145 ki_X4_multiplies ks_X4_multiplies kn_X4 rfl rfl md_X4_multiplies ⟨Nat.le_of_ble_eq_true rfl, Nat.le_of_ble_eq_true rfl⟩) (va_P.sub (ws' := mQ cI cZ k (m_due we br ma w dv) ln cn tm se isI we br ma sf pa) hP [0, 1, 2, 3, 4, 5, 6, 7] rfl) (va_D.sub (ws' := mQ cI cZ k (m_due we br ma w dv) ln cn tm se isI we br ma sf pa) hD [0, 1, 2, 3, 4, 5, 6, 7] (by decide) rfl) hK (va_recv hK hP (ci := 4) (q0 := 0) rfl rfl) rfl hl.1 rfl (Nat.le_of_ble_eq_true rfl) dX4_findFair_44 ⟨Nat.le_of_ble_eq_true rfl, Nat.le_of_ble_eq_true rfl⟩) hP hD hS hA (fun u_44 H locs hw_44 hP hD hS => ?_)
    have hP : va_P (dC, dI) vwCl ((mQ cI cZ k (muQ (((m_due we br ma w dv)).num) (((m_due we br ma w dv)).den) ((Du).den : Int) ((Du).num.toNat : Nat)) ln cn tm se isI we br ma sf pa) ++ (mS cJ k aU aL uU uL)) H := hP
    have hD : va_D A ((mQ cI cZ k (muQ (((m_due we br ma w dv)).num) (((m_due we br ma w dv)).den) ((Du).den : Int) ((Du).num.toNat : Nat)) ln cn tm se isI we br ma sf pa) ++ (mS cJ k aU aL uU uL)) := hD
    rw [show (muQ (((m_due we br ma w dv)).num) (((m_due we br ma w dv)).den) ((Du).den : Int) ((Du).num.toNat : Nat)) = (m_fx (m_due we br ma w dv) Du) from rfl] at hP hD
    have hP : va_P (dC, dI) vwCl ((mQ cI cZ k (m_fx (m_due we br ma w dv) Du) ln cn tm se isI we br ma sf pa) ++ (mS cJ k aU aL uU uL)) H := hP
    have hD : va_D A ((mQ cI cZ k (m_fx (m_due we br ma w dv) Du) ln cn tm se isI we br ma sf pa) ++ (mS cJ k aU aL uU uL)) := hD
    refine lv_aload_n hx hb dX4_findFair_47 rfl (lv_at hl 0 rfl) ?_
    refine lv_aload_n hx hb dX4_findFair_48 rfl (lv_at hl 0 rfl) ?_
    refine va_get (D := (dC, dI)) (ci := 4) (v := .long (iL ((m_fx (m_due we br ma w dv) Du)).num)) (C := RX4) (T := TX4) (N := 22) hx hb hT hiX4 hown hK hP 0 rfl rfl 0 (by decide) (hT _ kf_X4_75) (fun _ h9 => h9) rfl dX4_findFair_49 ?_
    refine lv_aload_n hx hb dX4_findFair_52 rfl (lv_at hl 0 rfl) ?_
    refine va_get (D := (dC, dI)) (ci := 4) (v := .long (iL (((m_fx (m_due we br ma w dv) Du)).den : Int))) (C := RX4) (T := TX4) (N := 22) hx hb hT hiX4 hown hK hP 0 rfl rfl 1 (by decide) (hT _ kf_X4_7) (fun _ h9 => h9) rfl dX4_findFair_53 ?_
    refine lv_aload_n hx hb dX4_findFair_56 rfl (lv_at hl 0 rfl) ?_
    refine vp_callSl (rRV (As := []) (rest := [.long (iL (((m_fx (m_due we br ma w dv) Du)).den : Int)), .long (iL ((m_fx (m_due we br ma w dv) Du)).num), .ref (k 0)]) ⟨hx, hb, hml, hown, hT⟩ (c_X4_paidAll (l := l) ) (cwTV 0 hT kc_X4_paidAll km_X4_175 ki_X4_paidAll ks_X4_paidAll kn_X4 rfl rfl md_X4_paidAll ⟨Nat.le_of_ble_eq_true rfl, Nat.le_of_ble_eq_true rfl⟩) (va_P.sub (ws' := mW cI cZ k (iL ((m_fx (m_due we br ma w dv) Du)).num) (iL (((m_fx (m_due we br ma w dv) Du)).den : Int)) ln cn tm se isI we br ma sf pa) hP [0, 1, 2, 3, 4, 5, 6, 7] rfl) hK (va_recv hK hP (ci := 4) (q0 := 0) rfl rfl) rfl hl.1 rfl (Nat.le_of_ble_eq_true rfl) dX4_findFair_57 ⟨Nat.le_of_ble_eq_true rfl, Nat.le_of_ble_eq_true rfl⟩) (fun r_57 hw_57 => ?_)
    subst hw_57
    refine topl_eq (y := (iL ((m_paN pa 6).toInt))) (iL_of _) ?_
    refine lv_lconst (v := iL 1) hx hb dX4_findFair_60 rfl ?_
    refine topl_eq (y := (iL ((1 : Nat) : Int))) rfl ?_
    refine fM_v (wc := mQ cI cZ k (m_fx (m_due we br ma w dv) Du) ln cn tm se isI we br ma sf pa) (wr := mS cJ k aU aL uU uL) (rMV (wc := mQ cI cZ k (m_fx (m_due we br ma w dv) Du) ln cn tm se isI we br ma sf pa) (As := [.long (iL ((m_fx (m_due we br ma w dv) Du)).num), .long (iL (((m_fx (m_due we br ma w dv) Du)).den : Int)), .long (iL ((m_paN pa 6).toInt)), .long (iL ((1 : Nat) : Int))]) (rest := []) ⟨hx, hb, hml, hown, hT⟩ (c_X4_multiplies (l := l) H.size (((m_fx (m_due we br ma w dv) Du)).num) (((m_fx (m_due we br ma w dv) Du)).den) ((m_paN pa 6).toInt) (1 : Nat) (by unfold rng; omega) (by unfold rng; omega) (Rat.den_pos _) (by decide) (by unfold rng; omega) rng_1 (mu_num (N := 1000 * 10000000) (Nat.mul_le_mul hn3 (by omega)) (by decide)) (mu_den (N := 1000 * 1) (Rat.den_pos _) (by decide) (Nat.mul_le_mul hn4 (by decide)) (by decide))) (cwTV 4 hT kc_X4_multiplies km_X4_145 ki_X4_multiplies ks_X4_multiplies kn_X4 rfl rfl md_X4_multiplies ⟨Nat.le_of_ble_eq_true rfl, Nat.le_of_ble_eq_true rfl⟩) (va_P.sub (ws' := mQ cI cZ k (m_fx (m_due we br ma w dv) Du) ln cn tm se isI we br ma sf pa) hP [0, 1, 2, 3, 4, 5, 6, 7] rfl) (va_D.sub (ws' := mQ cI cZ k (m_fx (m_due we br ma w dv) Du) ln cn tm se isI we br ma sf pa) hD [0, 1, 2, 3, 4, 5, 6, 7] (by decide) rfl) hK (va_recv hK hP (ci := 4) (q0 := 0) rfl rfl) rfl hl.1 rfl (Nat.le_of_ble_eq_true rfl) dX4_findFair_61 ⟨Nat.le_of_ble_eq_true rfl, Nat.le_of_ble_eq_true rfl⟩) hP hD hS hA (fun u_61 H locs hw_61 hP hD hS => ?_)
    have hP : va_P (dC, dI) vwCl ((mQ cI cZ k (muQ (((m_fx (m_due we br ma w dv) Du)).num) (((m_fx (m_due we br ma w dv) Du)).den) ((m_paN pa 6).toInt) (1 : Nat)) ln cn tm se isI we br ma sf pa) ++ (mS cJ k aU aL uU uL)) H := hP
    have hD : va_D A ((mQ cI cZ k (muQ (((m_fx (m_due we br ma w dv) Du)).num) (((m_fx (m_due we br ma w dv) Du)).den) ((m_paN pa 6).toInt) (1 : Nat)) ln cn tm se isI we br ma sf pa) ++ (mS cJ k aU aL uU uL)) := hD
    rw [show (muQ (((m_fx (m_due we br ma w dv) Du)).num) (((m_fx (m_due we br ma w dv) Du)).den) ((m_paN pa 6).toInt) (1 : Nat)) = (m_fair (m_due we br ma w dv) Du ((m_paN pa 6).toInt)) from (by unfold m_fair; rw [if_neg hz])] at hP hD
    have hP : va_P (dC, dI) vwCl ((mQ cI cZ k (m_fair (m_due we br ma w dv) Du ((m_paN pa 6).toInt)) ln cn tm se isI we br ma sf pa) ++ (mS cJ k aU aL uU uL)) H := hP
    have hD : va_D A ((mQ cI cZ k (m_fair (m_due we br ma w dv) Du ((m_paN pa 6).toInt)) ln cn tm se isI we br ma sf pa) ++ (mS cJ k aU aL uU uL)) := hD
    exact retM_v (S := Unit) (post := fun _ => True) (w2 := fun u => (mQ cI cZ k (m_fair (m_due we br ma w dv) Du ((m_paN pa 6).toInt)) ln cn tm se isI we br ma sf pa) ++ (mS cJ k aU aL uU uL)) () hx hb hr hlocks trivial hP hK hD hS dX4_findFair_64
  · have hz : Du.num = 0 := (iL_eq hf2 rng_0).mp c_7
    refine lv_aload_n hx hb dX4_findFair_11 rfl (lv_at hl 0 rfl) ?_
    refine lv_lconst (v := iL 0) hx hb dX4_findFair_12 rfl ?_
    refine lv_lconst (v := iL 1) hx hb dX4_findFair_13 rfl ?_
    refine fM_v (wc := mQ cI cZ k r ln cn tm se isI we br ma sf pa) (wr := mS cJ k aU aL uU uL) (rMV (wc := mQ cI cZ k r ln cn tm se isI we br ma sf pa) (As := [.long (iL 0), .long (iL 1)]) (rest := []) ⟨hx, hb, hml, hown, hT⟩ (c_X4_makes (l := l) s.heap.size 0 1 rng_0 (by decide) rng_1) (cwTV 2 hT kc_X4_makes km_X4_78 ki_X4_makes ks_X4_makes kn_X4 rfl rfl md_X4_makes ⟨Nat.le_of_ble_eq_true rfl, Nat.le_of_ble_eq_true rfl⟩) (va_P.sub (ws' := mQ cI cZ k r ln cn tm se isI we br ma sf pa) hP [0, 1, 2, 3, 4, 5, 6, 7] rfl) (va_D.sub (ws' := mQ cI cZ k r ln cn tm se isI we br ma sf pa) hD [0, 1, 2, 3, 4, 5, 6, 7] (by decide) rfl) hK (va_recv hK hP (ci := 4) (q0 := 0) rfl rfl) rfl hl.1 rfl (Nat.le_of_ble_eq_true rfl) dX4_findFair_14 ⟨Nat.le_of_ble_eq_true rfl, Nat.le_of_ble_eq_true rfl⟩) hP hD hS hA (fun u_14 H locs hw_14 hP hD hS => ?_)
    have hP : va_P (dC, dI) vwCl ((mQ cI cZ k (Rat.divInt 0 1) ln cn tm se isI we br ma sf pa) ++ (mS cJ k aU aL uU uL)) H := hP
    have hD : va_D A ((mQ cI cZ k (Rat.divInt 0 1) ln cn tm se isI we br ma sf pa) ++ (mS cJ k aU aL uU uL)) := hD
    rw [show (Rat.divInt 0 1) = (m_fair (m_due we br ma w dv) Du ((m_paN pa 6).toInt)) from (by unfold m_fair; rw [if_pos hz])] at hP hD
    have hP : va_P (dC, dI) vwCl ((mQ cI cZ k (m_fair (m_due we br ma w dv) Du ((m_paN pa 6).toInt)) ln cn tm se isI we br ma sf pa) ++ (mS cJ k aU aL uU uL)) H := hP
    have hD : va_D A ((mQ cI cZ k (m_fair (m_due we br ma w dv) Du ((m_paN pa 6).toInt)) ln cn tm se isI we br ma sf pa) ++ (mS cJ k aU aL uU uL)) := hD
    exact retM_v (S := Unit) (post := fun _ => True) (w2 := fun u => (mQ cI cZ k (m_fair (m_due we br ma w dv) Du ((m_paN pa 6).toInt)) ln cn tm se isI we br ma sf pa) ++ (mS cJ k aU aL uU uL)) () hx hb hr hlocks trivial hP hK hD hS dX4_findFair_17
set_option maxHeartbeats 4000000 in
set_option maxRecDepth 100000 in
theorem c_X4_findOver (sz : Nat) (w : Nat) (dv : Rat) (hw : w < 6) (hm : mok ma) (hwe : ∀ u, u < 6 → 0 ≤ (we u).toInt ∧ (we u).toInt ≤ 100) (hU : uU (m_un ma w) = iL dv.num) (hL : uL (m_un ma w) = iL (dv.den : Int)) (hdv : dv.num.natAbs ≤ 1000000000000000 ∧ dv.den ≤ 300000000) (Du : Rat) (hA4 : aU 4 = iL Du.num) (hB4 : aL 4 = iL (Du.den : Int)) (hfo : f_ok (m_due we br ma w dv) Du) (hpa : 0 ≤ (m_paN pa 6).toInt ∧ (m_paN pa 6).toInt ≤ 10000000) (hpw : 0 ≤ (pa w).toInt ∧ (pa w).toInt ≤ 10000000) : Met l yX4_findOver (wT yX4_findOver cX4_findOver 2 none) ({ frames := 5, cells := 0, slots := 0, locals := 131 }) (pM (dC, dI) (ty3 cI cJ cZ) ((mQ cI cZ k r ln cn tm se isI we br ma sf pa) ++ (mS cJ k aU aL uU uL)) [.ref (k 0), .int (nI w)] sz) (va_Qv (S := Unit) (fun _ => True) (fun u t9 => bM (dC, dI) (ty3 cI cJ cZ) (va_A ((mQ cI cZ k r ln cn tm se isI we br ma sf pa) ++ (mS cJ k aU aL uU uL)) sz) ((mQ cI cZ k (iQ ((pa w).toInt) - (m_fair (m_due we br ma w dv) Du ((m_paN pa 6).toInt))) ln cn tm se isI we br ma sf pa) ++ (mS cJ k aU aL uU uL)) t9) (va_A ((mQ cI cZ k r ln cn tm se isI we br ma sf pa) ++ (mS cJ k aU aL uU uL)) sz)) 0 0 (va_A ((mQ cI cZ k r ln cn tm se isI we br ma sf pa) ++ (mS cJ k aU aL uU uL)) sz) := by
  refine Met.ofW (cc := cX4_findOver) (maxL := 2) (ret := none) (by decide) rfl ?_
  intro p e s m args below meth c s₁ B hml hv
  obtain ⟨rfl, hsz, hP, hK, hD0⟩ := hv
  have hx := B.exec
  have hb := B.bytes
  have hr := B.returns
  have hts := atoms_spec (ws := wT yX4_findOver cX4_findOver 2 none) B.pre
  have hT := wT_T hts
  have hown : s.vm.findClass RX4 = some m.cls := findClass_of_methodNamed B.named
  have hlocks := B.notSynchronized
  subst hsz
  have hD := hD0.self (sz := s.heap.size)
  generalize hAe : va_A ((mQ cI cZ k r ln cn tm se isI we br ma sf pa) ++ (mS cJ k aU aL uU uL)) s.heap.size = A at hD ⊢
  have hA : ∀ q : Nat, s.heap.size ≤ q → A q := fun q h => by rw [← hAe]; exact Or.inr h
  have hS : va_S A s.heap s.heap [] := va_S.rf
  have hl := lv_entry ([.ref (k 0), .int (nI w)]) (n := 2) (Nat.le_of_ble_eq_true rfl)
  rw [lg_entry_eq]
  generalize (lg_sl ([.ref (k 0), .int (nI w)]) ++ List.replicate (2 - (lg_sl ([.ref (k 0), .int (nI w)])).length) Slot.unset).toArray = ls at hl ⊢
  have hl : lv_has ls 2 [(0, .ref (k 0)), (1, .int (nI w))] := hl
  have hfb := m_fair_bd hfo hpa.1 hpa.2
  have hfp := ((m_fair (m_due we br ma w dv) Du ((m_paN pa 6).toInt))).den_pos
  refine lv_aload_n hx hb dX4_findOver_0 rfl (lv_at hl 0 rfl) ?_
  refine lv_iload_n hx hb dX4_findOver_1 rfl (lv_at hl 1 rfl) ?_
  refine fM_v (wc := (mQ cI cZ k r ln cn tm se isI we br ma sf pa) ++ (mS cJ k aU aL uU uL)) (wr := []) (rMV (wc := (mQ cI cZ k r ln cn tm se isI we br ma sf pa) ++ (mS cJ k aU aL uU uL)) (As := [.int (nI w)]) (rest := []) ⟨hx, hb, hml, hown, hT⟩ (c_X4_findFair (l := l) s.heap.size w dv hw hm hwe hU hL hdv Du hA4 hB4 hfo hpa) (cwTV 1 hT kc_X4_findFair km_X4_179 ki_X4_findFair ks_X4_findFair kn_X4 rfl rfl md_X4_findFair ⟨Nat.le_of_ble_eq_true rfl, Nat.le_of_ble_eq_true rfl⟩) hP hD hK (va_recv hK hP (ci := 4) (q0 := 0) rfl rfl) rfl hl.1 rfl (Nat.le_of_ble_eq_true rfl) dX4_findOver_2 ⟨Nat.le_of_ble_eq_true rfl, Nat.le_of_ble_eq_true rfl⟩) hP hD hS hA (fun u_2 H locs hw_2 hP hD hS => ?_)
  have hP : va_P (dC, dI) vwCl ((mQ cI cZ k (m_fair (m_due we br ma w dv) Du ((m_paN pa 6).toInt)) ln cn tm se isI we br ma sf pa) ++ (mS cJ k aU aL uU uL)) H := hP
  have hD : va_D A ((mQ cI cZ k (m_fair (m_due we br ma w dv) Du ((m_paN pa 6).toInt)) ln cn tm se isI we br ma sf pa) ++ (mS cJ k aU aL uU uL)) := hD
  refine lv_aload_n hx hb dX4_findOver_5 rfl (lv_at hl 0 rfl) ?_
  refine lv_aload_n hx hb dX4_findOver_6 rfl (lv_at hl 0 rfl) ?_
  refine va_get (D := (dC, dI)) (ci := 4) (v := .ref (k 7)) (C := RX4) (T := TX4) (N := 22) hx hb hT hiX4 hown hK hP 0 rfl rfl 10 (by decide) (hT _ kf_X4_33) (fun _ h9 => h9) rfl dX4_findOver_7 ?_
  refine lv_iload_n hx hb dX4_findOver_10 rfl (lv_at hl 1 rfl) ?_
  refine ald_i hx hb hK hP 7 0 rfl rfl (by decide) (w := w) rfl (by omega) dX4_findOver_11 ?_
  refine lv_i2l (v := iL (pa w : Int32).toInt) hx hb dX4_findOver_12 rfl ?_
  refine topl_eq (y := (iL ((pa w).toInt))) rfl ?_
  refine lv_lconst (v := iL 1) hx hb dX4_findOver_13 rfl ?_
  refine topl_eq (y := (iL ((1 : Nat) : Int))) rfl ?_
  refine lv_aload_n hx hb dX4_findOver_14 rfl (lv_at hl 0 rfl) ?_
  refine va_get (D := (dC, dI)) (ci := 4) (v := .long (iL ((m_fair (m_due we br ma w dv) Du ((m_paN pa 6).toInt))).num)) (C := RX4) (T := TX4) (N := 22) hx hb hT hiX4 hown hK hP 0 rfl rfl 0 (by decide) (hT _ kf_X4_75) (fun _ h9 => h9) rfl dX4_findOver_15 ?_
  refine lv_aload_n hx hb dX4_findOver_18 rfl (lv_at hl 0 rfl) ?_
  refine va_get (D := (dC, dI)) (ci := 4) (v := .long (iL (((m_fair (m_due we br ma w dv) Du ((m_paN pa 6).toInt))).den : Int))) (C := RX4) (T := TX4) (N := 22) hx hb hT hiX4 hown hK hP 0 rfl rfl 1 (by decide) (hT _ kf_X4_7) (fun _ h9 => h9) rfl dX4_findOver_19 ?_
  refine lv_ldc2 hx hb hown (hT _ kj_X4_132) dX4_findOver_22 ?_
  refine topl_eq (y := (iL (-1))) rfl ?_
  refine fM_v (wc := mQ cI cZ k (m_fair (m_due we br ma w dv) Du ((m_paN pa 6).toInt)) ln cn tm se isI we br ma sf pa) (wr := mS cJ k aU aL uU uL) (rMV (wc := mQ cI cZ k (m_fair (m_due we br ma w dv) Du ((m_paN pa 6).toInt)) ln cn tm se isI we br ma sf pa) (As := [.long (iL ((pa w).toInt)), .long (iL ((1 : Nat) : Int)), .long (iL ((m_fair (m_due we br ma w dv) Du ((m_paN pa 6).toInt))).num), .long (iL (((m_fair (m_due we br ma w dv) Du ((m_paN pa 6).toInt))).den : Int)), .long (iL (-1))]) (rest := []) ⟨hx, hb, hml, hown, hT⟩ (c_X4_adds (l := l) H.size ((pa w).toInt) (1 : Nat) (((m_fair (m_due we br ma w dv) Du ((m_paN pa 6).toInt))).num) (((m_fair (m_due we br ma w dv) Du ((m_paN pa 6).toInt))).den) (-1) ((m_fair (m_due we br ma w dv) Du ((m_paN pa 6).toInt))).den 10000000 10000000000 (by decide) hfp hfp (Nat.one_dvd _) (Nat.dvd_refl _) (by omega) (Nat.le_trans hfb.1 (Nat.le_mul_of_pos_right _ hfp)) (by have := Nat.mul_le_mul_left (10000000 + 10000000000) hfb.2; omega) (by omega) (Or.inr rfl)) (cwTV 5 hT kc_X4_adds km_X4_128 ki_X4_adds ks_X4_adds kn_X4 rfl rfl md_X4_adds ⟨Nat.le_of_ble_eq_true rfl, Nat.le_of_ble_eq_true rfl⟩) (va_P.sub (ws' := mQ cI cZ k (m_fair (m_due we br ma w dv) Du ((m_paN pa 6).toInt)) ln cn tm se isI we br ma sf pa) hP [0, 1, 2, 3, 4, 5, 6, 7] rfl) (va_D.sub (ws' := mQ cI cZ k (m_fair (m_due we br ma w dv) Du ((m_paN pa 6).toInt)) ln cn tm se isI we br ma sf pa) hD [0, 1, 2, 3, 4, 5, 6, 7] (by decide) rfl) hK (va_recv hK hP (ci := 4) (q0 := 0) rfl rfl) rfl hl.1 rfl (Nat.le_of_ble_eq_true rfl) dX4_findOver_25 ⟨Nat.le_of_ble_eq_true rfl, Nat.le_of_ble_eq_true rfl⟩) hP hD hS hA (fun u_25 H locs hw_25 hP hD hS => ?_)
  have hP : va_P (dC, dI) vwCl ((mQ cI cZ k (adQ ((pa w).toInt) (1 : Nat) (((m_fair (m_due we br ma w dv) Du ((m_paN pa 6).toInt))).num) (((m_fair (m_due we br ma w dv) Du ((m_paN pa 6).toInt))).den) (-1)) ln cn tm se isI we br ma sf pa) ++ (mS cJ k aU aL uU uL)) H := hP
  have hD : va_D A ((mQ cI cZ k (adQ ((pa w).toInt) (1 : Nat) (((m_fair (m_due we br ma w dv) Du ((m_paN pa 6).toInt))).num) (((m_fair (m_due we br ma w dv) Du ((m_paN pa 6).toInt))).den) (-1)) ln cn tm se isI we br ma sf pa) ++ (mS cJ k aU aL uU uL)) := hD
  rw [show (adQ ((pa w).toInt) (1 : Nat) (((m_fair (m_due we br ma w dv) Du ((m_paN pa 6).toInt))).num) (((m_fair (m_due we br ma w dv) Du ((m_paN pa 6).toInt))).den) (-1)) = (iQ ((pa w).toInt) - (m_fair (m_due we br ma w dv) Du ((m_paN pa 6).toInt))) from (adQ_v _ _)] at hP hD
  have hP : va_P (dC, dI) vwCl ((mQ cI cZ k (iQ ((pa w).toInt) - (m_fair (m_due we br ma w dv) Du ((m_paN pa 6).toInt))) ln cn tm se isI we br ma sf pa) ++ (mS cJ k aU aL uU uL)) H := hP
  have hD : va_D A ((mQ cI cZ k (iQ ((pa w).toInt) - (m_fair (m_due we br ma w dv) Du ((m_paN pa 6).toInt))) ln cn tm se isI we br ma sf pa) ++ (mS cJ k aU aL uU uL)) := hD
  exact retM_v (S := Unit) (post := fun _ => True) (w2 := fun u => (mQ cI cZ k (iQ ((pa w).toInt) - (m_fair (m_due we br ma w dv) Du ((m_paN pa 6).toInt))) ln cn tm se isI we br ma sf pa) ++ (mS cJ k aU aL uU uL)) () hx hb hr hlocks trivial hP hK hD hS dX4_findOver_28
