variable {l : Launch} {dC : Nat → ClassId} {dI : Nat → Nat → Nat} {cI cJ cZ : ClassId}
variable {q : Nat → Nat} {ln cw ic bs ss : Int32} {se we un sf pa : Nat → Int32}
variable {ct : Int32} {ov gf : Nat → Int64} {gi ta : Nat → Int32}
variable {k : Nat → Nat} {up lo : Int64} {cn tm : Int32} {isI br ma : Nat → Int32} {aU aL uU uL oU oL gU gL : Nat → Int64}
set_option maxHeartbeats 4000000 in
set_option maxRecDepth 100000 in
theorem c_X3_owedIf (sz : Nat) (mn sp st br0 : Int32) (hok : x_ok ln cw ic se we un sf mn sp st br0) : Met l yX3_owedIf (wT yX3_owedIf cX3_owedIf 9 (some (.object "SharedFault$Owed"))) ({ frames := 5, cells := 7, slots := 19, locals := 119 }) (pN (dC, dI) (ty3 cI cJ cZ) (xW cI q ln cw ic bs ss se we un sf pa) [.ref (q 0), .int mn, .int sp, .int st, .int br0] sz) (va_Qr (S := Nat × Nat × Nat × Nat × Nat × Nat) (fun _ => True) (fun u b9 t9 => bM (dC, dI) (ty3 cI cJ cZ) (fun q : Nat => sz ≤ q) (oW b9 u (x_E ln cw ic se we) (x_C ln cw ic we un sf mn st) (x_dn cw ic we) ((x_op ic we st).toInt) ((x_la ic we un st br0).toInt) ((x_sh cw ic we un sp st br0).toInt)) t9) (fun q : Nat => sz ≤ q)) 7 19 (fun q : Nat => sz ≤ q) := by
  refine Met.ofW (cc := cX3_owedIf) (maxL := 9) (ret := (some (.object "SharedFault$Owed"))) (by decide) rfl ?_
  intro p e s m args below meth c s₁ B hml hv
  obtain ⟨rfl, hsz, hP0, hK⟩ := hv
  have hx := B.exec
  have hb := B.bytes
  have hr := B.returns
  have hts := atoms_spec (ws := wT yX3_owedIf cX3_owedIf 9 (some (.object "SharedFault$Owed"))) B.pre
  have hT := wT_T hts
  have hown : s.vm.findClass RX3 = some m.cls := findClass_of_methodNamed B.named
  have hlocks := B.notSynchronized
  subst hsz
  have hA : ∀ q : Nat, s.heap.size ≤ q → (fun q : Nat => s.heap.size ≤ q) q := fun q h => h
  have hS : va_S (fun q : Nat => s.heap.size ≤ q) s.heap s.heap [] := va_S.rf
  have hP : va_P (dC, dI) vwCl [] s.heap := nilP
  have hD : va_D (fun q : Nat => s.heap.size ≤ q) [] := nilD
  have hl := lv_entry ([.ref (q 0), .int mn, .int sp, .int st, .int br0]) (n := 9) (Nat.le_of_ble_eq_true rfl)
  rw [lg_entry_eq]
  generalize (lg_sl ([.ref (q 0), .int mn, .int sp, .int st, .int br0]) ++ List.replicate (9 - (lg_sl ([.ref (q 0), .int mn, .int sp, .int st, .int br0])).length) Slot.unset).toArray = ls at hl ⊢
  have hl : lv_has ls 9 [(0, .ref (q 0)), (1, .int mn), (2, .int sp), (3, .int st), (4, .int br0)] := hl
  refine lv_aload_n hx hb dX3_owedIf_0 rfl (lv_at hl 0 rfl) ?_
  refine va_get (D := (dC, dI)) (ci := 3) (v := .int ic) (C := RX3) (T := TX3) (N := 11) hx hb hT hiX3 hown hK (keepP hP0 hS) 0 rfl rfl 3 (by decide) (hT _ kf_X3_46) (fun _ h9 => h9) rfl dX3_owedIf_1 ?_
  refine lv_iload_n hx hb dX3_owedIf_4 rfl (lv_at hl 3 rfl) ?_
  refine lv_iconst (v := (-1)) hx hb dX3_owedIf_5 (by decide) ?_
  refine lv_ixor hx hb dX3_owedIf_6 ?_
  refine lv_iand hx hb dX3_owedIf_7 ?_
  refine lv_aload_n hx hb dX3_owedIf_8 rfl (lv_at hl 0 rfl) ?_
  refine va_get (D := (dC, dI)) (ci := 3) (v := .ref (q 2)) (C := RX3) (T := TX3) (N := 11) hx hb hT hiX3 hown hK (keepP hP0 hS) 0 rfl rfl 6 (by decide) (hT _ kf_X3_15) (fun _ h9 => h9) rfl dX3_owedIf_9 ?_
  refine vp_callSi (rRS (As := [.int (ic &&& (st ^^^ (-1))), .ref (q 2)]) (rest := []) ⟨hx, hb, hml, hown, hT⟩ (c_X3_sumOver (l := l) (ic &&& (st ^^^ (-1)))) (cwTS 2 hT kc_X3_sumOver km_X3_82 kt_X3_sumOver kn_X3 rfl rfl md_X3_sumOver ⟨Nat.le_of_ble_eq_true rfl, Nat.le_of_ble_eq_true rfl⟩) (va_P.sub (ws' := aW cI (q 2) we) (keepP hP0 hS) [2] rfl) hK  rfl hl.1 rfl (Nat.le_of_ble_eq_true rfl) dX3_owedIf_12 ⟨Nat.le_of_ble_eq_true rfl, Nat.le_of_ble_eq_true rfl⟩) (fun r_12 hw_12 => ?_)
  subst hw_12
  refine topi_eq (y := (x_op ic we st)) rfl ?_
  refine lv_istore (lv' := [(5, .int (x_op ic we st)), (0, .ref (q 0)), (1, .int mn), (2, .int sp), (3, .int st), (4, .int br0)]) hx hb dX3_owedIf_15 hl (by decide) rfl (fun ls hl => ?_)
  refine lv_aload_n hx hb dX3_owedIf_17 rfl (lv_at hl 1 rfl) ?_
  refine lv_iload_n hx hb dX3_owedIf_18 rfl (lv_at hl 4 rfl) ?_
  refine lv_iload hx hb dX3_owedIf_19 (lv_at hl 5 rfl) ?_
  refine vp_callSi (rRV (As := [.int st, .int br0]) (rest := []) ⟨hx, hb, hml, hown, hT⟩ (c_X3_openBroke (l := l) st br0) (cwTV 2 hT kc_X3_openBroke km_X3_207 ki_X3_openBroke ks_X3_openBroke kn_X3 rfl rfl md_X3_openBroke ⟨Nat.le_of_ble_eq_true rfl, Nat.le_of_ble_eq_true rfl⟩) (keepP hP0 hS) hK (va_recv hK (keepP hP0 hS) (ci := 3) (q0 := 0) rfl rfl) rfl hl.1 rfl (Nat.le_of_ble_eq_true rfl) dX3_owedIf_21 ⟨Nat.le_of_ble_eq_true rfl, Nat.le_of_ble_eq_true rfl⟩) (fun r_21 hw_21 => ?_)
  subst hw_21
  refine lv_aload_n hx hb dX3_owedIf_24 rfl (lv_at hl 1 rfl) ?_
  refine va_get (D := (dC, dI)) (ci := 3) (v := .ref (q 2)) (C := RX3) (T := TX3) (N := 11) hx hb hT hiX3 hown hK (keepP hP0 hS) 0 rfl rfl 6 (by decide) (hT _ kf_X3_15) (fun _ h9 => h9) rfl dX3_owedIf_25 ?_
  refine vp_callSi (rRS (As := [.int (x_obN ic un st br0 6), .ref (q 2)]) (rest := []) ⟨hx, hb, hml, hown, hT⟩ (c_X3_sumOver (l := l) (x_obN ic un st br0 6)) (cwTS 2 hT kc_X3_sumOver km_X3_82 kt_X3_sumOver kn_X3 rfl rfl md_X3_sumOver ⟨Nat.le_of_ble_eq_true rfl, Nat.le_of_ble_eq_true rfl⟩) (va_P.sub (ws' := aW cI (q 2) we) (keepP hP0 hS) [2] rfl) hK  rfl hl.1 rfl (Nat.le_of_ble_eq_true rfl) dX3_owedIf_28 ⟨Nat.le_of_ble_eq_true rfl, Nat.le_of_ble_eq_true rfl⟩) (fun r_28 hw_28 => ?_)
  subst hw_28
  refine topi_eq (y := (x_la ic we un st br0)) rfl ?_
  refine lv_istore (lv' := [(6, .int (x_la ic we un st br0)), (5, .int (x_op ic we st)), (0, .ref (q 0)), (1, .int mn), (2, .int sp), (3, .int st), (4, .int br0)]) hx hb dX3_owedIf_31 hl (by decide) rfl (fun ls hl => ?_)
  refine lv_iconst (v := 0) hx hb dX3_owedIf_33 (by decide) ?_
  refine lv_istore (lv' := [(7, .int 0), (6, .int (x_la ic we un st br0)), (5, .int (x_op ic we st)), (0, .ref (q 0)), (1, .int mn), (2, .int sp), (3, .int st), (4, .int br0)]) hx hb dX3_owedIf_34 hl (by decide) rfl (fun ls hl => ?_)
  refine lv_iload_n hx hb dX3_owedIf_36 rfl (lv_at hl 5 rfl) ?_
  refine lv_if_ne (tgt := 50) hx hb dX3_owedIf_37 (by decide) (fun c_37 => ?_) (fun c_37 => ?_)
  · refine lv_iload_n hx hb dX3_owedIf_50 rfl (lv_at hl 5 rfl) ?_
    refine lv_iconst (v := 1) hx hb dX3_owedIf_51 (by decide) ?_
    refine lv_icmp_ne (tgt := 67) hx hb dX3_owedIf_52 (by decide) (fun c_52 => ?_) (fun c_52 => ?_)
    · refine lv_aload_n hx hb dX3_owedIf_67 rfl (lv_at hl 3 rfl) ?_
      refine vp_callSi (rRV (As := []) (rest := []) ⟨hx, hb, hml, hown, hT⟩ (c_X3_blameDown (l := l) ) (cwTV 0 hT kc_X3_blameDown km_X3_126 ki_X3_blameDown ks_X3_blameDown kn_X3 rfl rfl md_X3_blameDown ⟨Nat.le_of_ble_eq_true rfl, Nat.le_of_ble_eq_true rfl⟩) (keepP hP0 hS) hK (va_recv hK (keepP hP0 hS) (ci := 3) (q0 := 0) rfl rfl) rfl hl.1 rfl (Nat.le_of_ble_eq_true rfl) dX3_owedIf_68 ⟨Nat.le_of_ble_eq_true rfl, Nat.le_of_ble_eq_true rfl⟩) (fun r_68 hw_68 => ?_)
      subst hw_68
      refine lv_istore (lv' := [(8, .int (x_bd cw ic we)), (7, .int 0), (6, .int (x_la ic we un st br0)), (5, .int (x_op ic we st)), (0, .ref (q 0)), (1, .int mn), (2, .int sp), (3, .int st), (4, .int br0)]) hx hb dX3_owedIf_71 hl (by decide) rfl (fun ls hl => ?_)
      refine va_new (ci := 1) (fs := [.null, .null, .null, .null, .null, .null, .long 0]) (C := RX1) (T := TX1) (N := 7) hx hb hT hiX1 tyX1 tyX1_ok hown (hT _ kcl_X3_103) (hT _ kin_X1) (hT _ kn_X1) hK hP hD hS hA rfl (fun j hj => by rcases (show j = 0 ∨ j = 1 ∨ j = 2 ∨ j = 3 ∨ j = 4 ∨ j = 5 ∨ j = 6 by omega) with rfl | rfl | rfl | rfl | rfl | rfl | rfl <;> rfl) (Nat.le_of_ble_eq_true rfl) (Nat.le_of_ble_eq_true rfl) dX3_owedIf_73 (fun q73 H hP hD hS => ?_)
      have hP : va_P (dC, dI) vwCl (owG  q73 .null .null .null .null .null .null 0) H := hP
      have hD : va_D (fun q : Nat => s.heap.size ≤ q) (owG  q73 .null .null .null .null .null .null 0) := hD
      refine lv_dup hx hb dX3_owedIf_76 rfl ?_
      refine lv_aload_n hx hb dX3_owedIf_77 rfl (lv_at hl 4 rfl) ?_
      refine vp_callSl (rRV (As := []) (rest := [.ref q73, .ref q73]) ⟨hx, hb, hml, hown, hT⟩ (c_X3_entitledUp (l := l) ) (cwTV 0 hT kc_X3_entitledUp km_X3_221 ki_X3_entitledUp ks_X3_entitledUp kn_X3 rfl rfl md_X3_entitledUp ⟨Nat.le_of_ble_eq_true rfl, Nat.le_of_ble_eq_true rfl⟩) (keepP hP0 hS) hK (va_recv hK (keepP hP0 hS) (ci := 3) (q0 := 0) rfl rfl) rfl hl.1 rfl (Nat.le_of_ble_eq_true rfl) dX3_owedIf_78 ⟨Nat.le_of_ble_eq_true rfl, Nat.le_of_ble_eq_true rfl⟩) (fun r_78 hw_78 => ?_)
      subst hw_78
      refine topl_eq (y := (iL (x_E ln cw ic se we))) (iL_of _) ?_
      refine lv_aload_n hx hb dX3_owedIf_81 rfl (lv_at hl 4 rfl) ?_
      refine lv_iload_n hx hb dX3_owedIf_82 rfl (lv_at hl 5 rfl) ?_
      refine lv_iload_n hx hb dX3_owedIf_83 rfl (lv_at hl 7 rfl) ?_
      refine lv_iload hx hb dX3_owedIf_84 (lv_at hl 0 rfl) ?_
      refine vp_callSl (rRV (As := [.int mn, .int st, .int (x_bd cw ic we)]) (rest := [.long (iL (x_E ln cw ic se we)), .ref q73, .ref q73]) ⟨hx, hb, hml, hown, hT⟩ (c_X3_creditsUp (l := l) mn st (x_bd cw ic we)) (cwTV 3 hT kc_X3_creditsUp km_X3_225 ki_X3_creditsUp ks_X3_creditsUp kn_X3 rfl rfl md_X3_creditsUp ⟨Nat.le_of_ble_eq_true rfl, Nat.le_of_ble_eq_true rfl⟩) (keepP hP0 hS) hK (va_recv hK (keepP hP0 hS) (ci := 3) (q0 := 0) rfl rfl) rfl hl.1 rfl (Nat.le_of_ble_eq_true rfl) dX3_owedIf_86 ⟨Nat.le_of_ble_eq_true rfl, Nat.le_of_ble_eq_true rfl⟩) (fun r_86 hw_86 => ?_)
      subst hw_86
      refine topl_eq (y := (iL (x_C ln cw ic we un sf mn st))) (iL_of _) ?_
      refine lv_iload hx hb dX3_owedIf_89 (lv_at hl 0 rfl) ?_
      refine lv_i2l (v := iL (x_bd cw ic we : Int32).toInt) hx hb dX3_owedIf_91 rfl ?_
      refine topl_eq (y := (iL (x_dn cw ic we))) rfl ?_
      refine lv_iload hx hb dX3_owedIf_92 (lv_at hl 3 rfl) ?_
      refine lv_iload hx hb dX3_owedIf_94 (lv_at hl 2 rfl) ?_
      refine lv_iload hx hb dX3_owedIf_96 (lv_at hl 1 rfl) ?_
      refine topi_eq (y := (x_sh cw ic we un sp st br0)) (by first | rfl | (simp only [x_sh, c_37, c_52, ↓reduceIte, Bool.false_eq_true, i10])) ?_
      refine fM_v (wc := owG  q73 .null .null .null .null .null .null 0) (wr := []) (rMI (wc := owG  q73 .null .null .null .null .null .null 0) (As := [.long (iL (x_E ln cw ic se we)), .long (iL (x_C ln cw ic we un sf mn st)), .long (iL (x_dn cw ic we)), .int (x_op ic we st), .int (x_la ic we un st br0), .int (x_sh cw ic we un sp st br0)]) (rest := [.ref q73]) ⟨hx, hb, hml, hown, hT⟩ (c_X1_init (l := l) H.size (x_E ln cw ic se we) (x_C ln cw ic we un sf mn st) (x_dn cw ic we) (x_op ic we st) (x_la ic we un st br0) (x_sh cw ic we un sp st br0) hok) (cwTI 6 hT kc_X1_init km_X3_228 ki_X1_init kn_X1 rfl rfl rfl md_X1_init ⟨Nat.le_of_ble_eq_true rfl, Nat.le_of_ble_eq_true rfl⟩) hP hD hK  rfl hl.1 rfl (Nat.le_of_ble_eq_true rfl) dX3_owedIf_98 ⟨Nat.le_of_ble_eq_true rfl, Nat.le_of_ble_eq_true rfl⟩) hP hD hS hA (fun u_98 H locs hw_98 hP hD hS => ?_)
      have hP : va_P (dC, dI) vwCl (oW  q73 u_98 (x_E ln cw ic se we) (x_C ln cw ic we un sf mn st) (x_dn cw ic we) ((x_op ic we st).toInt) ((x_la ic we un st br0).toInt) ((x_sh cw ic we un sp st br0).toInt)) H := hP
      have hD : va_D (fun q : Nat => s.heap.size ≤ q) (oW  q73 u_98 (x_E ln cw ic se we) (x_C ln cw ic we un sf mn st) (x_dn cw ic we) ((x_op ic we st).toInt) ((x_la ic we un st br0).toInt) ((x_sh cw ic we un sp st br0).toInt)) := hD
      exact retM_r (S := Nat × Nat × Nat × Nat × Nat × Nat) (post := fun _ => True) (w2 := fun u b9 => oW b9 u (x_E ln cw ic se we) (x_C ln cw ic we un sf mn st) (x_dn cw ic we) ((x_op ic we st).toInt) ((x_la ic we un st br0).toInt) ((x_sh cw ic we un sp st br0).toInt)) u_98 hx hb hr hlocks trivial hP hK hD hS dX3_owedIf_101
    · refine lv_iload hx hb dX3_owedIf_55 (lv_at hl 2 rfl) ?_
      refine lv_iload hx hb dX3_owedIf_57 (lv_at hl 1 rfl) ?_
      refine lv_isub hx hb dX3_owedIf_59 ?_
      refine lv_aload_n hx hb dX3_owedIf_60 rfl (lv_at hl 3 rfl) ?_
      refine va_get (D := (dC, dI)) (ci := 3) (v := .int cw) (C := RX3) (T := TX3) (N := 11) hx hb hT hiX3 hown hK (keepP hP0 hS) 0 rfl rfl 1 (by decide) (hT _ kf_X3_43) (fun _ h9 => h9) rfl dX3_owedIf_61 ?_
      refine lv_iadd hx hb dX3_owedIf_64 ?_
      refine lv_istore (lv' := [(7, .int (((x_op ic we st) - (x_la ic we un st br0)) + cw)), (6, .int (x_la ic we un st br0)), (5, .int (x_op ic we st)), (0, .ref (q 0)), (1, .int mn), (2, .int sp), (3, .int st), (4, .int br0)]) hx hb dX3_owedIf_65 hl (by decide) rfl (fun ls hl => ?_)
      refine lv_aload_n hx hb dX3_owedIf_67 rfl (lv_at hl 3 rfl) ?_
      refine vp_callSi (rRV (As := []) (rest := []) ⟨hx, hb, hml, hown, hT⟩ (c_X3_blameDown (l := l) ) (cwTV 0 hT kc_X3_blameDown km_X3_126 ki_X3_blameDown ks_X3_blameDown kn_X3 rfl rfl md_X3_blameDown ⟨Nat.le_of_ble_eq_true rfl, Nat.le_of_ble_eq_true rfl⟩) (keepP hP0 hS) hK (va_recv hK (keepP hP0 hS) (ci := 3) (q0 := 0) rfl rfl) rfl hl.1 rfl (Nat.le_of_ble_eq_true rfl) dX3_owedIf_68 ⟨Nat.le_of_ble_eq_true rfl, Nat.le_of_ble_eq_true rfl⟩) (fun r_68 hw_68 => ?_)
      subst hw_68
      refine lv_istore (lv' := [(8, .int (x_bd cw ic we)), (7, .int (((x_op ic we st) - (x_la ic we un st br0)) + cw)), (6, .int (x_la ic we un st br0)), (5, .int (x_op ic we st)), (0, .ref (q 0)), (1, .int mn), (2, .int sp), (3, .int st), (4, .int br0)]) hx hb dX3_owedIf_71 hl (by decide) rfl (fun ls hl => ?_)
      refine va_new (ci := 1) (fs := [.null, .null, .null, .null, .null, .null, .long 0]) (C := RX1) (T := TX1) (N := 7) hx hb hT hiX1 tyX1 tyX1_ok hown (hT _ kcl_X3_103) (hT _ kin_X1) (hT _ kn_X1) hK hP hD hS hA rfl (fun j hj => by rcases (show j = 0 ∨ j = 1 ∨ j = 2 ∨ j = 3 ∨ j = 4 ∨ j = 5 ∨ j = 6 by omega) with rfl | rfl | rfl | rfl | rfl | rfl | rfl <;> rfl) (Nat.le_of_ble_eq_true rfl) (Nat.le_of_ble_eq_true rfl) dX3_owedIf_73 (fun q73 H hP hD hS => ?_)
      have hP : va_P (dC, dI) vwCl (owG  q73 .null .null .null .null .null .null 0) H := hP
      have hD : va_D (fun q : Nat => s.heap.size ≤ q) (owG  q73 .null .null .null .null .null .null 0) := hD
      refine lv_dup hx hb dX3_owedIf_76 rfl ?_
      refine lv_aload_n hx hb dX3_owedIf_77 rfl (lv_at hl 4 rfl) ?_
      refine vp_callSl (rRV (As := []) (rest := [.ref q73, .ref q73]) ⟨hx, hb, hml, hown, hT⟩ (c_X3_entitledUp (l := l) ) (cwTV 0 hT kc_X3_entitledUp km_X3_221 ki_X3_entitledUp ks_X3_entitledUp kn_X3 rfl rfl md_X3_entitledUp ⟨Nat.le_of_ble_eq_true rfl, Nat.le_of_ble_eq_true rfl⟩) (keepP hP0 hS) hK (va_recv hK (keepP hP0 hS) (ci := 3) (q0 := 0) rfl rfl) rfl hl.1 rfl (Nat.le_of_ble_eq_true rfl) dX3_owedIf_78 ⟨Nat.le_of_ble_eq_true rfl, Nat.le_of_ble_eq_true rfl⟩) (fun r_78 hw_78 => ?_)
      subst hw_78
      refine topl_eq (y := (iL (x_E ln cw ic se we))) (iL_of _) ?_
      refine lv_aload_n hx hb dX3_owedIf_81 rfl (lv_at hl 4 rfl) ?_
      refine lv_iload_n hx hb dX3_owedIf_82 rfl (lv_at hl 5 rfl) ?_
      refine lv_iload_n hx hb dX3_owedIf_83 rfl (lv_at hl 7 rfl) ?_
      refine lv_iload hx hb dX3_owedIf_84 (lv_at hl 0 rfl) ?_
      refine vp_callSl (rRV (As := [.int mn, .int st, .int (x_bd cw ic we)]) (rest := [.long (iL (x_E ln cw ic se we)), .ref q73, .ref q73]) ⟨hx, hb, hml, hown, hT⟩ (c_X3_creditsUp (l := l) mn st (x_bd cw ic we)) (cwTV 3 hT kc_X3_creditsUp km_X3_225 ki_X3_creditsUp ks_X3_creditsUp kn_X3 rfl rfl md_X3_creditsUp ⟨Nat.le_of_ble_eq_true rfl, Nat.le_of_ble_eq_true rfl⟩) (keepP hP0 hS) hK (va_recv hK (keepP hP0 hS) (ci := 3) (q0 := 0) rfl rfl) rfl hl.1 rfl (Nat.le_of_ble_eq_true rfl) dX3_owedIf_86 ⟨Nat.le_of_ble_eq_true rfl, Nat.le_of_ble_eq_true rfl⟩) (fun r_86 hw_86 => ?_)
      subst hw_86
      refine topl_eq (y := (iL (x_C ln cw ic we un sf mn st))) (iL_of _) ?_
      refine lv_iload hx hb dX3_owedIf_89 (lv_at hl 0 rfl) ?_
      refine lv_i2l (v := iL (x_bd cw ic we : Int32).toInt) hx hb dX3_owedIf_91 rfl ?_
      refine topl_eq (y := (iL (x_dn cw ic we))) rfl ?_
      refine lv_iload hx hb dX3_owedIf_92 (lv_at hl 3 rfl) ?_
      refine lv_iload hx hb dX3_owedIf_94 (lv_at hl 2 rfl) ?_
      refine lv_iload hx hb dX3_owedIf_96 (lv_at hl 1 rfl) ?_
      refine topi_eq (y := (x_sh cw ic we un sp st br0)) (by first | rfl | (simp only [x_sh, c_37, c_52, ↓reduceIte, Bool.false_eq_true, i10])) ?_
      refine fM_v (wc := owG  q73 .null .null .null .null .null .null 0) (wr := []) (rMI (wc := owG  q73 .null .null .null .null .null .null 0) (As := [.long (iL (x_E ln cw ic se we)), .long (iL (x_C ln cw ic we un sf mn st)), .long (iL (x_dn cw ic we)), .int (x_op ic we st), .int (x_la ic we un st br0), .int (x_sh cw ic we un sp st br0)]) (rest := [.ref q73]) ⟨hx, hb, hml, hown, hT⟩ (c_X1_init (l := l) H.size (x_E ln cw ic se we) (x_C ln cw ic we un sf mn st) (x_dn cw ic we) (x_op ic we st) (x_la ic we un st br0) (x_sh cw ic we un sp st br0) hok) (cwTI 6 hT kc_X1_init km_X3_228 ki_X1_init kn_X1 rfl rfl rfl md_X1_init ⟨Nat.le_of_ble_eq_true rfl, Nat.le_of_ble_eq_true rfl⟩) hP hD hK  rfl hl.1 rfl (Nat.le_of_ble_eq_true rfl) dX3_owedIf_98 ⟨Nat.le_of_ble_eq_true rfl, Nat.le_of_ble_eq_true rfl⟩) hP hD hS hA (fun u_98 H locs hw_98 hP hD hS => ?_)
      have hP : va_P (dC, dI) vwCl (oW  q73 u_98 (x_E ln cw ic se we) (x_C ln cw ic we un sf mn st) (x_dn cw ic we) ((x_op ic we st).toInt) ((x_la ic we un st br0).toInt) ((x_sh cw ic we un sp st br0).toInt)) H := hP
      have hD : va_D (fun q : Nat => s.heap.size ≤ q) (oW  q73 u_98 (x_E ln cw ic se we) (x_C ln cw ic we un sf mn st) (x_dn cw ic we) ((x_op ic we st).toInt) ((x_la ic we un st br0).toInt) ((x_sh cw ic we un sp st br0).toInt)) := hD
      exact retM_r (S := Nat × Nat × Nat × Nat × Nat × Nat) (post := fun _ => True) (w2 := fun u b9 => oW b9 u (x_E ln cw ic se we) (x_C ln cw ic we un sf mn st) (x_dn cw ic we) ((x_op ic we st).toInt) ((x_la ic we un st br0).toInt) ((x_sh cw ic we un sp st br0).toInt)) u_98 hx hb hr hlocks trivial hP hK hD hS dX3_owedIf_101
  · refine lv_iload hx hb dX3_owedIf_40 (lv_at hl 2 rfl) ?_
    refine lv_iload hx hb dX3_owedIf_42 (lv_at hl 1 rfl) ?_
    refine lv_isub hx hb dX3_owedIf_44 ?_
    refine lv_istore (lv' := [(7, .int ((x_op ic we st) - (x_la ic we un st br0))), (6, .int (x_la ic we un st br0)), (5, .int (x_op ic we st)), (0, .ref (q 0)), (1, .int mn), (2, .int sp), (3, .int st), (4, .int br0)]) hx hb dX3_owedIf_45 hl (by decide) rfl (fun ls hl => ?_)
    refine lv_goto (tgt := 67) hx hb dX3_owedIf_47 (by decide) ?_
    refine lv_aload_n hx hb dX3_owedIf_67 rfl (lv_at hl 3 rfl) ?_
    refine vp_callSi (rRV (As := []) (rest := []) ⟨hx, hb, hml, hown, hT⟩ (c_X3_blameDown (l := l) ) (cwTV 0 hT kc_X3_blameDown km_X3_126 ki_X3_blameDown ks_X3_blameDown kn_X3 rfl rfl md_X3_blameDown ⟨Nat.le_of_ble_eq_true rfl, Nat.le_of_ble_eq_true rfl⟩) (keepP hP0 hS) hK (va_recv hK (keepP hP0 hS) (ci := 3) (q0 := 0) rfl rfl) rfl hl.1 rfl (Nat.le_of_ble_eq_true rfl) dX3_owedIf_68 ⟨Nat.le_of_ble_eq_true rfl, Nat.le_of_ble_eq_true rfl⟩) (fun r_68 hw_68 => ?_)
    subst hw_68
    refine lv_istore (lv' := [(8, .int (x_bd cw ic we)), (7, .int ((x_op ic we st) - (x_la ic we un st br0))), (6, .int (x_la ic we un st br0)), (5, .int (x_op ic we st)), (0, .ref (q 0)), (1, .int mn), (2, .int sp), (3, .int st), (4, .int br0)]) hx hb dX3_owedIf_71 hl (by decide) rfl (fun ls hl => ?_)
    refine va_new (ci := 1) (fs := [.null, .null, .null, .null, .null, .null, .long 0]) (C := RX1) (T := TX1) (N := 7) hx hb hT hiX1 tyX1 tyX1_ok hown (hT _ kcl_X3_103) (hT _ kin_X1) (hT _ kn_X1) hK hP hD hS hA rfl (fun j hj => by rcases (show j = 0 ∨ j = 1 ∨ j = 2 ∨ j = 3 ∨ j = 4 ∨ j = 5 ∨ j = 6 by omega) with rfl | rfl | rfl | rfl | rfl | rfl | rfl <;> rfl) (Nat.le_of_ble_eq_true rfl) (Nat.le_of_ble_eq_true rfl) dX3_owedIf_73 (fun q73 H hP hD hS => ?_)
    have hP : va_P (dC, dI) vwCl (owG  q73 .null .null .null .null .null .null 0) H := hP
    have hD : va_D (fun q : Nat => s.heap.size ≤ q) (owG  q73 .null .null .null .null .null .null 0) := hD
    refine lv_dup hx hb dX3_owedIf_76 rfl ?_
    refine lv_aload_n hx hb dX3_owedIf_77 rfl (lv_at hl 4 rfl) ?_
    refine vp_callSl (rRV (As := []) (rest := [.ref q73, .ref q73]) ⟨hx, hb, hml, hown, hT⟩ (c_X3_entitledUp (l := l) ) (cwTV 0 hT kc_X3_entitledUp km_X3_221 ki_X3_entitledUp ks_X3_entitledUp kn_X3 rfl rfl md_X3_entitledUp ⟨Nat.le_of_ble_eq_true rfl, Nat.le_of_ble_eq_true rfl⟩) (keepP hP0 hS) hK (va_recv hK (keepP hP0 hS) (ci := 3) (q0 := 0) rfl rfl) rfl hl.1 rfl (Nat.le_of_ble_eq_true rfl) dX3_owedIf_78 ⟨Nat.le_of_ble_eq_true rfl, Nat.le_of_ble_eq_true rfl⟩) (fun r_78 hw_78 => ?_)
    subst hw_78
    refine topl_eq (y := (iL (x_E ln cw ic se we))) (iL_of _) ?_
    refine lv_aload_n hx hb dX3_owedIf_81 rfl (lv_at hl 4 rfl) ?_
    refine lv_iload_n hx hb dX3_owedIf_82 rfl (lv_at hl 5 rfl) ?_
    refine lv_iload_n hx hb dX3_owedIf_83 rfl (lv_at hl 7 rfl) ?_
    refine lv_iload hx hb dX3_owedIf_84 (lv_at hl 0 rfl) ?_
    refine vp_callSl (rRV (As := [.int mn, .int st, .int (x_bd cw ic we)]) (rest := [.long (iL (x_E ln cw ic se we)), .ref q73, .ref q73]) ⟨hx, hb, hml, hown, hT⟩ (c_X3_creditsUp (l := l) mn st (x_bd cw ic we)) (cwTV 3 hT kc_X3_creditsUp km_X3_225 ki_X3_creditsUp ks_X3_creditsUp kn_X3 rfl rfl md_X3_creditsUp ⟨Nat.le_of_ble_eq_true rfl, Nat.le_of_ble_eq_true rfl⟩) (keepP hP0 hS) hK (va_recv hK (keepP hP0 hS) (ci := 3) (q0 := 0) rfl rfl) rfl hl.1 rfl (Nat.le_of_ble_eq_true rfl) dX3_owedIf_86 ⟨Nat.le_of_ble_eq_true rfl, Nat.le_of_ble_eq_true rfl⟩) (fun r_86 hw_86 => ?_)
    subst hw_86
    refine topl_eq (y := (iL (x_C ln cw ic we un sf mn st))) (iL_of _) ?_
    refine lv_iload hx hb dX3_owedIf_89 (lv_at hl 0 rfl) ?_
    refine lv_i2l (v := iL (x_bd cw ic we : Int32).toInt) hx hb dX3_owedIf_91 rfl ?_
    refine topl_eq (y := (iL (x_dn cw ic we))) rfl ?_
    refine lv_iload hx hb dX3_owedIf_92 (lv_at hl 3 rfl) ?_
    refine lv_iload hx hb dX3_owedIf_94 (lv_at hl 2 rfl) ?_
    refine lv_iload hx hb dX3_owedIf_96 (lv_at hl 1 rfl) ?_
    refine topi_eq (y := (x_sh cw ic we un sp st br0)) (by first | rfl | (simp only [x_sh, c_37, ↓reduceIte, Bool.false_eq_true, i10])) ?_
    refine fM_v (wc := owG  q73 .null .null .null .null .null .null 0) (wr := []) (rMI (wc := owG  q73 .null .null .null .null .null .null 0) (As := [.long (iL (x_E ln cw ic se we)), .long (iL (x_C ln cw ic we un sf mn st)), .long (iL (x_dn cw ic we)), .int (x_op ic we st), .int (x_la ic we un st br0), .int (x_sh cw ic we un sp st br0)]) (rest := [.ref q73]) ⟨hx, hb, hml, hown, hT⟩ (c_X1_init (l := l) H.size (x_E ln cw ic se we) (x_C ln cw ic we un sf mn st) (x_dn cw ic we) (x_op ic we st) (x_la ic we un st br0) (x_sh cw ic we un sp st br0) hok) (cwTI 6 hT kc_X1_init km_X3_228 ki_X1_init kn_X1 rfl rfl rfl md_X1_init ⟨Nat.le_of_ble_eq_true rfl, Nat.le_of_ble_eq_true rfl⟩) hP hD hK  rfl hl.1 rfl (Nat.le_of_ble_eq_true rfl) dX3_owedIf_98 ⟨Nat.le_of_ble_eq_true rfl, Nat.le_of_ble_eq_true rfl⟩) hP hD hS hA (fun u_98 H locs hw_98 hP hD hS => ?_)
    have hP : va_P (dC, dI) vwCl (oW  q73 u_98 (x_E ln cw ic se we) (x_C ln cw ic we un sf mn st) (x_dn cw ic we) ((x_op ic we st).toInt) ((x_la ic we un st br0).toInt) ((x_sh cw ic we un sp st br0).toInt)) H := hP
    have hD : va_D (fun q : Nat => s.heap.size ≤ q) (oW  q73 u_98 (x_E ln cw ic se we) (x_C ln cw ic we un sf mn st) (x_dn cw ic we) ((x_op ic we st).toInt) ((x_la ic we un st br0).toInt) ((x_sh cw ic we un sp st br0).toInt)) := hD
    exact retM_r (S := Nat × Nat × Nat × Nat × Nat × Nat) (post := fun _ => True) (w2 := fun u b9 => oW b9 u (x_E ln cw ic se we) (x_C ln cw ic we un sf mn st) (x_dn cw ic we) ((x_op ic we st).toInt) ((x_la ic we un st br0).toInt) ((x_sh cw ic we un sp st br0).toInt)) u_98 hx hb hr hlocks trivial hP hK hD hS dX3_owedIf_101
set_option maxHeartbeats 4000000 in
set_option maxRecDepth 100000 in
theorem c_X3_owedNow (sz : Nat) (hok : x_ok ln cw ic se we un sf (se 0) (se 1) ss bs) : Met l yX3_owedNow (wT yX3_owedNow cX3_owedNow 1 (some (.object "SharedFault$Owed"))) ({ frames := 6, cells := 7, slots := 19, locals := 147 }) (pN (dC, dI) (ty3 cI cJ cZ) (xW cI q ln cw ic bs ss se we un sf pa) [.ref (q 0)] sz) (va_Qr (S := Nat × Nat × Nat × Nat × Nat × Nat) (fun _ => True) (fun u b9 t9 => bM (dC, dI) (ty3 cI cJ cZ) (fun q : Nat => sz ≤ q) (oW b9 u (x_E ln cw ic se we) (x_C ln cw ic we un sf (se 0) ss) (x_dn cw ic we) ((x_op ic we ss).toInt) ((x_la ic we un ss bs).toInt) ((x_sh cw ic we un (se 1) ss bs).toInt)) t9) (fun q : Nat => sz ≤ q)) 7 19 (fun q : Nat => sz ≤ q) := by
  refine Met.ofW (cc := cX3_owedNow) (maxL := 1) (ret := (some (.object "SharedFault$Owed"))) (by decide) rfl ?_
  intro p e s m args below meth c s₁ B hml hv
  obtain ⟨rfl, hsz, hP0, hK⟩ := hv
  have hx := B.exec
  have hb := B.bytes
  have hr := B.returns
  have hts := atoms_spec (ws := wT yX3_owedNow cX3_owedNow 1 (some (.object "SharedFault$Owed"))) B.pre
  have hT := wT_T hts
  have hown : s.vm.findClass RX3 = some m.cls := findClass_of_methodNamed B.named
  have hlocks := B.notSynchronized
  subst hsz
  have hA : ∀ q : Nat, s.heap.size ≤ q → (fun q : Nat => s.heap.size ≤ q) q := fun q h => h
  have hS : va_S (fun q : Nat => s.heap.size ≤ q) s.heap s.heap [] := va_S.rf
  have hP : va_P (dC, dI) vwCl [] s.heap := nilP
  have hD : va_D (fun q : Nat => s.heap.size ≤ q) [] := nilD
  have hl := lv_entry ([.ref (q 0)]) (n := 1) (Nat.le_of_ble_eq_true rfl)
  rw [lg_entry_eq]
  generalize (lg_sl ([.ref (q 0)]) ++ List.replicate (1 - (lg_sl ([.ref (q 0)])).length) Slot.unset).toArray = ls at hl ⊢
  have hl : lv_has ls 1 [(0, .ref (q 0))] := hl
  refine lv_aload_n hx hb dX3_owedNow_0 rfl (lv_at hl 0 rfl) ?_
  refine lv_aload_n hx hb dX3_owedNow_1 rfl (lv_at hl 0 rfl) ?_
  refine va_get (D := (dC, dI)) (ci := 3) (v := .ref (q 1)) (C := RX3) (T := TX3) (N := 11) hx hb hT hiX3 hown hK (keepP hP0 hS) 0 rfl rfl 2 (by decide) (hT _ kf_X3_9) (fun _ h9 => h9) rfl dX3_owedNow_2 ?_
  refine lv_iconst (v := 0) hx hb dX3_owedNow_5 (by decide) ?_
  refine ald_i hx hb hK (keepP hP0 hS) 1 0 rfl rfl (by decide) (w := 0) rfl (by decide) dX3_owedNow_6 ?_
  refine lv_aload_n hx hb dX3_owedNow_7 rfl (lv_at hl 0 rfl) ?_
  refine va_get (D := (dC, dI)) (ci := 3) (v := .ref (q 1)) (C := RX3) (T := TX3) (N := 11) hx hb hT hiX3 hown hK (keepP hP0 hS) 0 rfl rfl 2 (by decide) (hT _ kf_X3_9) (fun _ h9 => h9) rfl dX3_owedNow_8 ?_
  refine lv_iconst (v := 1) hx hb dX3_owedNow_11 (by decide) ?_
  refine ald_i hx hb hK (keepP hP0 hS) 1 0 rfl rfl (by decide) (w := 1) rfl (by decide) dX3_owedNow_12 ?_
  refine lv_aload_n hx hb dX3_owedNow_13 rfl (lv_at hl 0 rfl) ?_
  refine va_get (D := (dC, dI)) (ci := 3) (v := .int ss) (C := RX3) (T := TX3) (N := 11) hx hb hT hiX3 hown hK (keepP hP0 hS) 0 rfl rfl 5 (by decide) (hT _ kf_X3_79) (fun _ h9 => h9) rfl dX3_owedNow_14 ?_
  refine lv_aload_n hx hb dX3_owedNow_17 rfl (lv_at hl 0 rfl) ?_
  refine va_get (D := (dC, dI)) (ci := 3) (v := .int bs) (C := RX3) (T := TX3) (N := 11) hx hb hT hiX3 hown hK (keepP hP0 hS) 0 rfl rfl 4 (by decide) (hT _ kf_X3_68) (fun _ h9 => h9) rfl dX3_owedNow_18 ?_
  refine fN_r (rNV (As := [.int (se 0), .int (se 1), .int ss, .int bs]) (rest := []) ⟨hx, hb, hml, hown, hT⟩ (c_X3_owedIf (l := l) s.heap.size (se 0) (se 1) ss bs hok) (cwTV 4 hT kc_X3_owedIf km_X3_164 ki_X3_owedIf ks_X3_owedIf kn_X3 rfl rfl md_X3_owedIf ⟨Nat.le_of_ble_eq_true rfl, Nat.le_of_ble_eq_true rfl⟩) (keepP hP0 hS) hK (va_recv hK (keepP hP0 hS) (ci := 3) (q0 := 0) rfl rfl) rfl hl.1 rfl (Nat.le_of_ble_eq_true rfl) dX3_owedNow_21 ⟨Nat.le_of_ble_eq_true rfl, Nat.le_of_ble_eq_true rfl⟩) hP hD hS hA (fun u_21 b_21 H locs hw_21 hP hD hS => ?_)
  have hP : va_P (dC, dI) vwCl (oW  b_21 u_21 (x_E ln cw ic se we) (x_C ln cw ic we un sf (se 0) ss) (x_dn cw ic we) ((x_op ic we ss).toInt) ((x_la ic we un ss bs).toInt) ((x_sh cw ic we un (se 1) ss bs).toInt)) H := hP
  have hD : va_D (fun q : Nat => s.heap.size ≤ q) (oW  b_21 u_21 (x_E ln cw ic se we) (x_C ln cw ic we un sf (se 0) ss) (x_dn cw ic we) ((x_op ic we ss).toInt) ((x_la ic we un ss bs).toInt) ((x_sh cw ic we un (se 1) ss bs).toInt)) := hD
  exact retM_r (S := Nat × Nat × Nat × Nat × Nat × Nat) (post := fun _ => True) (w2 := fun u b9 => oW b9 u (x_E ln cw ic se we) (x_C ln cw ic we un sf (se 0) ss) (x_dn cw ic we) ((x_op ic we ss).toInt) ((x_la ic we un ss bs).toInt) ((x_sh cw ic we un (se 1) ss bs).toInt)) u_21 hx hb hr hlocks trivial hP hK hD hS dX3_owedNow_24
set_option maxHeartbeats 4000000 in
set_option maxRecDepth 100000 in
theorem c_X3_gotBy (sz : Nat) (mn sp : Int32) (hok : x_ok ln cw ic se we un sf mn sp ss bs) (hs : 0 ≤ (x_sumN (x_headsN ic un 6 &&& ss) sf 6).toInt ∧ (x_sumN (x_headsN ic un 6 &&& ss) sf 6).toInt ≤ 6000000) : Met l yX3_gotBy (wT yX3_gotBy cX3_gotBy 4 (some (.object "SharedFault$Share"))) ({ frames := 6, cells := 8, slots := 21, locals := 147 }) (pN (dC, dI) (ty3 cI cJ cZ) (xW cI q ln cw ic bs ss se we un sf pa) [.ref (q 0), .int mn, .int sp] sz) (va_Qr (S := Unit) (fun _ => True) (fun u b9 t9 => bM (dC, dI) (ty3 cI cJ cZ) (fun q : Nat => sz ≤ q) (shQ b9 (o_du (x_E ln cw ic se we) (x_C ln cw ic we un sf mn ss) (x_dn cw ic we) ((x_op ic we ss).toInt) ((x_la ic we un ss bs).toInt) ((x_sh cw ic we un sp ss bs).toInt) + iQ (x_sumN (x_headsN ic un 6 &&& ss) sf 6).toInt)) t9) (fun q : Nat => sz ≤ q)) 8 21 (fun q : Nat => sz ≤ q) := by
  refine Met.ofW (cc := cX3_gotBy) (maxL := 4) (ret := (some (.object "SharedFault$Share"))) (by decide) rfl ?_
  intro p e s m args below meth c s₁ B hml hv
  obtain ⟨rfl, hsz, hP0, hK⟩ := hv
  have hx := B.exec
  have hb := B.bytes
  have hr := B.returns
  have hts := atoms_spec (ws := wT yX3_gotBy cX3_gotBy 4 (some (.object "SharedFault$Share"))) B.pre
  have hT := wT_T hts
  have hown : s.vm.findClass RX3 = some m.cls := findClass_of_methodNamed B.named
  have hlocks := B.notSynchronized
  subst hsz
  have hA : ∀ q : Nat, s.heap.size ≤ q → (fun q : Nat => s.heap.size ≤ q) q := fun q h => h
  have hS : va_S (fun q : Nat => s.heap.size ≤ q) s.heap s.heap [] := va_S.rf
  have hP : va_P (dC, dI) vwCl [] s.heap := nilP
  have hD : va_D (fun q : Nat => s.heap.size ≤ q) [] := nilD
  have hl := lv_entry ([.ref (q 0), .int mn, .int sp]) (n := 4) (Nat.le_of_ble_eq_true rfl)
  rw [lg_entry_eq]
  generalize (lg_sl ([.ref (q 0), .int mn, .int sp]) ++ List.replicate (4 - (lg_sl ([.ref (q 0), .int mn, .int sp])).length) Slot.unset).toArray = ls at hl ⊢
  have hl : lv_has ls 4 [(0, .ref (q 0)), (1, .int mn), (2, .int sp)] := hl
  refine lv_aload_n hx hb dX3_gotBy_0 rfl (lv_at hl 0 rfl) ?_
  refine lv_iload_n hx hb dX3_gotBy_1 rfl (lv_at hl 1 rfl) ?_
  refine lv_iload_n hx hb dX3_gotBy_2 rfl (lv_at hl 2 rfl) ?_
  refine lv_aload_n hx hb dX3_gotBy_3 rfl (lv_at hl 0 rfl) ?_
  refine va_get (D := (dC, dI)) (ci := 3) (v := .int ss) (C := RX3) (T := TX3) (N := 11) hx hb hT hiX3 hown hK (keepP hP0 hS) 0 rfl rfl 5 (by decide) (hT _ kf_X3_79) (fun _ h9 => h9) rfl dX3_gotBy_4 ?_
  refine lv_aload_n hx hb dX3_gotBy_7 rfl (lv_at hl 0 rfl) ?_
  refine va_get (D := (dC, dI)) (ci := 3) (v := .int bs) (C := RX3) (T := TX3) (N := 11) hx hb hT hiX3 hown hK (keepP hP0 hS) 0 rfl rfl 4 (by decide) (hT _ kf_X3_68) (fun _ h9 => h9) rfl dX3_gotBy_8 ?_
  refine fN_r (rNV (As := [.int mn, .int sp, .int ss, .int bs]) (rest := []) ⟨hx, hb, hml, hown, hT⟩ (c_X3_owedIf (l := l) s.heap.size mn sp ss bs hok) (cwTV 4 hT kc_X3_owedIf km_X3_164 ki_X3_owedIf ks_X3_owedIf kn_X3 rfl rfl md_X3_owedIf ⟨Nat.le_of_ble_eq_true rfl, Nat.le_of_ble_eq_true rfl⟩) (keepP hP0 hS) hK (va_recv hK (keepP hP0 hS) (ci := 3) (q0 := 0) rfl rfl) rfl hl.1 rfl (Nat.le_of_ble_eq_true rfl) dX3_gotBy_11 ⟨Nat.le_of_ble_eq_true rfl, Nat.le_of_ble_eq_true rfl⟩) hP hD hS hA (fun u_11 b_11 H locs hw_11 hP hD hS => ?_)
  have hP : va_P (dC, dI) vwCl (oW  b_11 u_11 (x_E ln cw ic se we) (x_C ln cw ic we un sf mn ss) (x_dn cw ic we) ((x_op ic we ss).toInt) ((x_la ic we un ss bs).toInt) ((x_sh cw ic we un sp ss bs).toInt)) H := hP
  have hD : va_D (fun q : Nat => s.heap.size ≤ q) (oW  b_11 u_11 (x_E ln cw ic se we) (x_C ln cw ic we un sf mn ss) (x_dn cw ic we) ((x_op ic we ss).toInt) ((x_la ic we un ss bs).toInt) ((x_sh cw ic we un sp ss bs).toInt)) := hD
  refine lv_astore_n (lv' := [(3, .ref b_11), (0, .ref (q 0)), (1, .int mn), (2, .int sp)]) hx hb dX3_gotBy_14 rfl hl (by decide) rfl (fun ls hl => ?_)
  refine lv_aload_n hx hb dX3_gotBy_15 rfl (lv_at hl 0 rfl) ?_
  refine va_get (D := (dC, dI)) (ci := 1) (v := .ref ((u_11).2.2.2.2.1)) (C := RX1) (T := TX1) (N := 7) hx hb hT hiX1 hown hK hP 0 rfl rfl 4 (by decide) (hT _ kf_X3_123) (fun _ h9 => h9) rfl dX3_gotBy_16 ?_
  refine lv_aload_n hx hb dX3_gotBy_19 rfl (lv_at hl 1 rfl) ?_
  refine vp_callSi (rRV (As := []) (rest := [.ref ((u_11).2.2.2.2.1)]) ⟨hx, hb, hml, hown, hT⟩ (c_X3_unitHeads (l := l) ) (cwTV 0 hT kc_X3_unitHeads km_X3_204 ki_X3_unitHeads ks_X3_unitHeads kn_X3 rfl rfl md_X3_unitHeads ⟨Nat.le_of_ble_eq_true rfl, Nat.le_of_ble_eq_true rfl⟩) (keepP hP0 hS) hK (va_recv hK (keepP hP0 hS) (ci := 3) (q0 := 0) rfl rfl) rfl hl.1 rfl (Nat.le_of_ble_eq_true rfl) dX3_gotBy_20 ⟨Nat.le_of_ble_eq_true rfl, Nat.le_of_ble_eq_true rfl⟩) (fun r_20 hw_20 => ?_)
  subst hw_20
  refine lv_aload_n hx hb dX3_gotBy_23 rfl (lv_at hl 1 rfl) ?_
  refine va_get (D := (dC, dI)) (ci := 3) (v := .int ss) (C := RX3) (T := TX3) (N := 11) hx hb hT hiX3 hown hK (keepP hP0 hS) 0 rfl rfl 5 (by decide) (hT _ kf_X3_79) (fun _ h9 => h9) rfl dX3_gotBy_24 ?_
  refine lv_iand hx hb dX3_gotBy_27 ?_
  refine lv_aload_n hx hb dX3_gotBy_28 rfl (lv_at hl 1 rfl) ?_
  refine va_get (D := (dC, dI)) (ci := 3) (v := .ref (q 4)) (C := RX3) (T := TX3) (N := 11) hx hb hT hiX3 hown hK (keepP hP0 hS) 0 rfl rfl 8 (by decide) (hT _ kf_X3_21) (fun _ h9 => h9) rfl dX3_gotBy_29 ?_
  refine vp_callSi (rRS (As := [.int ((x_headsN ic un 6) &&& ss), .ref (q 4)]) (rest := [.ref ((u_11).2.2.2.2.1)]) ⟨hx, hb, hml, hown, hT⟩ (c_X3_sumOver (l := l) ((x_headsN ic un 6) &&& ss)) (cwTS 2 hT kc_X3_sumOver km_X3_82 kt_X3_sumOver kn_X3 rfl rfl md_X3_sumOver ⟨Nat.le_of_ble_eq_true rfl, Nat.le_of_ble_eq_true rfl⟩) (va_P.sub (ws' := aW cI (q 4) sf) (keepP hP0 hS) [4] rfl) hK  rfl hl.1 rfl (Nat.le_of_ble_eq_true rfl) dX3_gotBy_32 ⟨Nat.le_of_ble_eq_true rfl, Nat.le_of_ble_eq_true rfl⟩) (fun r_32 hw_32 => ?_)
  subst hw_32
  refine lv_i2l (v := iL (x_sumN ((x_headsN ic un 6) &&& ss) sf 6 : Int32).toInt) hx hb dX3_gotBy_35 rfl ?_
  have hdd := o_D_bd hok
  have hdu := o_du_bd hok
  have hb1 := bd_num_le hdd.1 hdu
  have hb2 := bd_den_le hdd.1 hdu
  refine fN_r (rNV (As := [.long (iL (x_sumN ((x_headsN ic un 6) &&& ss) sf 6 : Int32).toInt)]) (rest := []) ⟨hx, hb, hml, hown, hT⟩ (c_X2_plusWhole (l := l) H.size ((x_sumN ((x_headsN ic un 6) &&& ss) sf 6 : Int32).toInt) (by have g := mul_bd hs.1 hs.2 (b := ((o_du (x_E ln cw ic se we) (x_C ln cw ic we un sf mn ss) (x_dn cw ic we) ((x_op ic we ss).toInt) ((x_la ic we un ss bs).toInt) ((x_sh cw ic we un sp ss bs).toInt)).den : Int)) (y := 294000000) (by omega) (by omega); unfold rng; omega) (by omega)) (cwTV 1 hT kc_X2_plusWhole km_X3_168 ki_X2_plusWhole ks_X2_plusWhole kn_X2 rfl rfl md_X2_plusWhole ⟨Nat.le_of_ble_eq_true rfl, Nat.le_of_ble_eq_true rfl⟩) (va_P.sub (ws' := shQ  ((u_11).2.2.2.2.1) (o_du (x_E ln cw ic se we) (x_C ln cw ic we un sf mn ss) (x_dn cw ic we) ((x_op ic we ss).toInt) ((x_la ic we un ss bs).toInt) ((x_sh cw ic we un sp ss bs).toInt))) hP [5] rfl) hK (va_recv hK hP (ci := 2) (q0 := 5) rfl rfl) rfl hl.1 rfl (Nat.le_of_ble_eq_true rfl) dX3_gotBy_36 ⟨Nat.le_of_ble_eq_true rfl, Nat.le_of_ble_eq_true rfl⟩) hP hD hS hA (fun u_36 b_36 H locs hw_36 hP hD hS => ?_)
  have hP : va_P (dC, dI) vwCl ((oW  b_11 u_11 (x_E ln cw ic se we) (x_C ln cw ic we un sf mn ss) (x_dn cw ic we) ((x_op ic we ss).toInt) ((x_la ic we un ss bs).toInt) ((x_sh cw ic we un sp ss bs).toInt)) ++ (shQ  b_36 ((o_du (x_E ln cw ic se we) (x_C ln cw ic we un sf mn ss) (x_dn cw ic we) ((x_op ic we ss).toInt) ((x_la ic we un ss bs).toInt) ((x_sh cw ic we un sp ss bs).toInt)) + (iQ ((x_sumN ((x_headsN ic un 6) &&& ss) sf 6 : Int32).toInt))))) H := hP
  have hD : va_D (fun q : Nat => s.heap.size ≤ q) ((oW  b_11 u_11 (x_E ln cw ic se we) (x_C ln cw ic we un sf mn ss) (x_dn cw ic we) ((x_op ic we ss).toInt) ((x_la ic we un ss bs).toInt) ((x_sh cw ic we un sp ss bs).toInt)) ++ (shQ  b_36 ((o_du (x_E ln cw ic se we) (x_C ln cw ic we un sf mn ss) (x_dn cw ic we) ((x_op ic we ss).toInt) ((x_la ic we un ss bs).toInt) ((x_sh cw ic we un sp ss bs).toInt)) + (iQ ((x_sumN ((x_headsN ic un 6) &&& ss) sf 6 : Int32).toInt))))) := hD
  exact retM_r (S := Unit) (post := fun _ => True) (w2 := fun u b9 => shQ b9 (o_du (x_E ln cw ic se we) (x_C ln cw ic we un sf mn ss) (x_dn cw ic we) ((x_op ic we ss).toInt) ((x_la ic we un ss bs).toInt) ((x_sh cw ic we un sp ss bs).toInt) + iQ (x_sumN (x_headsN ic un 6 &&& ss) sf 6).toInt)) () hx hb hr hlocks trivial (va_P.sub (ws' := shQ  b_36 ((o_du (x_E ln cw ic se we) (x_C ln cw ic we un sf mn ss) (x_dn cw ic we) ((x_op ic we ss).toInt) ((x_la ic we un ss bs).toInt) ((x_sh cw ic we un sp ss bs).toInt)) + (iQ ((x_sumN ((x_headsN ic un 6) &&& ss) sf 6 : Int32).toInt)))) hP [7] rfl) hK (va_D.sub (ws' := shQ  b_36 ((o_du (x_E ln cw ic se we) (x_C ln cw ic we un sf mn ss) (x_dn cw ic we) ((x_op ic we ss).toInt) ((x_la ic we un ss bs).toInt) ((x_sh cw ic we un sp ss bs).toInt)) + (iQ ((x_sumN ((x_headsN ic un 6) &&& ss) sf 6 : Int32).toInt)))) hD [7] (by decide) rfl) hS dX3_gotBy_39
