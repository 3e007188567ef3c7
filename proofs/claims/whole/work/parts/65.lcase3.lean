set_option maxHeartbeats 4000000 in
set_option maxRecDepth 100000 in
theorem Lc_amount {p : Program} {l : Launch} {e : Env} {s : State} {m : MethodId} {below : List Frame} {meth : Method} {c : Code} {dC : Nat → ClassId} {dI : Nat → Nat → Nat} {cI cJ cZ : ClassId} {b L : Nat} {xs : Nat → Int32} (C0 : lw_At p s m meth c b L xs) (hK : va_K (dC, dI) vwCl (ty3 cI cJ cZ) s) (hSM : SMf (fun q : Nat => s.heap.size ≤ q) s) {q k : Nat → Nat} {ln cw ic bs ss : Int32} {se we un sf pa isI br ma sfr : Nat → Int32} {ct : Int32} {ov gf : Nat → Int64} {gi ta : Nat → Int32} {r : Rat} {tm : Int32} {aU aL uU uL oU oL : Nat → Int64} {gi2 ta2 : Nat → Int32} {gU gL : Nat → Int64} {H : Heap} {locs : List Loc} {ls : Array Slot} {i j : Nat} {Q : State → Prop} (I : INV ln cw ic bs ss se we un sf pa isI br ma sfr) (hi : i + 4 ≤ L) (hL : L ≤ 2048) (hj : j ≤ 511) (hP : va_P (dC, dI) vwCl ((xW cI q ln cw ic bs ss se we un sf pa) ++ (fW cI cJ q ct ov gi ta gf) ++ (mQ cI cZ k r ln cw tm se isI we br ma sfr pa) ++ (mS cJ k aU aL uU uL) ++ (mT cI cJ k oU oL gi2 ta2 gU gL)) H) (hD : va_D (fun q : Nat => s.heap.size ≤ q) ((xW cI q ln cw ic bs ss se we un sf pa) ++ (fW cI cJ q ct ov gi ta gf) ++ (mQ cI cZ k r ln cw tm se isI we br ma sfr pa) ++ (mS cJ k aU aL uU uL) ++ (mT cI cJ k oU oL gi2 ta2 gU gL))) (hS : va_S (fun q : Nat => s.heap.size ≤ q) s.heap H locs) (hl : lv_has ls 4 [(0, .ref b), (1, .ref (q 0)), (2, .ref (k 0)), (3, .int (nI i))]) (kk : ∀ (ls2 : Array Slot) (H2 : Heap) (locs2 : List Loc), LSt dC dI cI cJ cZ s q k H2 locs2 → lv_has ls2 4 [(0, .ref b), (1, .ref (q 0)), (2, .ref (k 0)), (3, .int (nI i))] → W p l e room_1 s m #[Value.ref b] below meth c H2 locs2 (30 + 30 * (j + 1)) (300 + 80 * (j + 1)) Q (F0 m 1027 ls2 [])) : W p l e room_1 s m #[Value.ref b] below meth c H locs (30 + 30 * j) (300 + 80 * j) Q (F0 m 516 ls []) := by
  obtain ⟨hx, hb, hr, hml, hown, hts, hX, hbl, hlocks, hgv⟩ := C0
  have hT : ∀ w ∈ TT, w.before #[Value.ref b] s = true := fun w hw => hts w (TT_tbl hw)
  have hown : s.vm.findClass RL = some m.cls := hown
  have hA : ∀ q : Nat, s.heap.size ≤ q → (fun q : Nat => s.heap.size ≤ q) q := fun _ h => h
  have hbA : ¬ (fun q : Nat => s.heap.size ≤ q) b := Nat.not_le.mpr hbl
  refine lv_aload_n hx hb dL_law_516 rfl (lv_at hl 1 rfl) ?_
  refine lv_aload_n hx hb dL_law_517 rfl (lv_at hl 0 rfl) ?_
  refine lv_iload_n hx hb dL_law_518 rfl (lv_at hl 3 rfl) ?_
  refine lv_iconst (v := 1) hx hb dL_law_519 (by decide) ?_
  refine lv_iadd hx hb dL_law_520 ?_
  refine sld_n hx hb hX hbl hbA hS (w := (i + 1)) (nI_add i 1) (by omega) (by omega) dL_law_521 ?_
  refine lv_aload_n hx hb dL_law_522 rfl (lv_at hl 0 rfl) ?_
  refine lv_iload_n hx hb dL_law_523 rfl (lv_at hl 3 rfl) ?_
  refine lv_iconst (v := 2) hx hb dL_law_524 (by decide) ?_
  refine lv_iadd hx hb dL_law_525 ?_
  refine sld_n hx hb hX hbl hbA hS (w := (i + 2)) (nI_add i 2) (by omega) (by omega) dL_law_526 ?_
  refine fN_l (rNV (As := [.int (xs (i + 1)), .int (xs (i + 2))]) (rest := []) ⟨hx, hb, hml, hown, hT⟩ (c_X3_amount (l := l) H.size (xs (i + 1)) (xs (i + 2)) (I_ok I (se 0) (se 1))) (cwTV 2 hT kc_X3_amount km_L_64 ki_X3_amount ks_X3_amount kn_X3 rfl rfl md_X3_amount ⟨Nat.le_of_ble_eq_true rfl, Nat.le_of_ble_eq_true rfl⟩) (va_P.sub (ws' := xW cI q ln cw ic bs ss se we un sf pa) hP [0, 1, 2, 3, 4, 5] rfl) hK (va_recv hK hP (ci := 3) (q0 := 0) rfl rfl) rfl hl.1 rfl (Nat.le_of_ble_eq_true rfl) dL_law_527 ⟨Nat.le_trans (m := 20000) (by omega) (Nat.le_of_ble_eq_true rfl), Nat.le_trans (m := 100000) (by omega) (Nat.le_of_ble_eq_true rfl)⟩) hP hS hA (fun r_527 _ H locs hw_527 hP hS => ?_)
  refine lv_aload_n hx hb dL_law_530 rfl (lv_at hl 2 rfl) ?_
  refine lv_aload_n hx hb dL_law_531 rfl (lv_at hl 0 rfl) ?_
  refine lv_iload_n hx hb dL_law_532 rfl (lv_at hl 3 rfl) ?_
  refine lv_iconst (v := 1) hx hb dL_law_533 (by decide) ?_
  refine lv_iadd hx hb dL_law_534 ?_
  refine sld_n hx hb hX hbl hbA hS (w := (i + 1)) (nI_add i 1) (by omega) (by omega) dL_law_535 ?_
  refine lv_aload_n hx hb dL_law_536 rfl (lv_at hl 0 rfl) ?_
  refine lv_iload_n hx hb dL_law_537 rfl (lv_at hl 3 rfl) ?_
  refine lv_iconst (v := 2) hx hb dL_law_538 (by decide) ?_
  refine lv_iadd hx hb dL_law_539 ?_
  refine sld_n hx hb hX hbl hbA hS (w := (i + 2)) (nI_add i 2) (by omega) (by omega) dL_law_540 ?_
  have hP := va_P.sub (ws' := (mQ cI cZ k r ln cw tm se isI we br ma sfr pa) ++ (mS cJ k aU aL uU uL) ++ (xW cI q ln cw ic bs ss se we un sf pa) ++ (fW cI cJ q ct ov gi ta gf) ++ (mT cI cJ k oU oL gi2 ta2 gU gL)) hP [11, 12, 13, 14, 15, 16, 17, 18, 19, 20, 21, 22, 0, 1, 2, 3, 4, 5, 6, 7, 8, 9, 10, 23, 24, 25, 26, 27, 28] rfl
  have hD := va_D.sub (ws' := (mQ cI cZ k r ln cw tm se isI we br ma sfr pa) ++ (mS cJ k aU aL uU uL) ++ (xW cI q ln cw ic bs ss se we un sf pa) ++ (fW cI cJ q ct ov gi ta gf) ++ (mT cI cJ k oU oL gi2 ta2 gU gL)) hD [11, 12, 13, 14, 15, 16, 17, 18, 19, 20, 21, 22, 0, 1, 2, 3, 4, 5, 6, 7, 8, 9, 10, 23, 24, 25, 26, 27, 28] (by decide) rfl
  refine fM_l (wc := (mQ cI cZ k r ln cw tm se isI we br ma sfr pa) ++ (mS cJ k aU aL uU uL)) (wr := (xW cI q ln cw ic bs ss se we un sf pa) ++ (fW cI cJ q ct ov gi ta gf) ++ (mT cI cJ k oU oL gi2 ta2 gU gL)) (rMV (wc := (mQ cI cZ k r ln cw tm se isI we br ma sfr pa) ++ (mS cJ k aU aL uU uL)) (As := [.int (xs (i + 1)), .int (xs (i + 2))]) (rest := [.long r_527]) ⟨hx, hb, hml, hown, hT⟩ (c_X4_amount (l := l) H.size (xs (i + 1)) (xs (i + 2)) (I_mok I)) (cwTV 2 hT kc_X4_amount km_L_68 ki_X4_amount ks_X4_amount kn_X4 rfl rfl md_X4_amount ⟨Nat.le_of_ble_eq_true rfl, Nat.le_of_ble_eq_true rfl⟩) (va_P.sub (ws' := (mQ cI cZ k r ln cw tm se isI we br ma sfr pa) ++ (mS cJ k aU aL uU uL)) hP [0, 1, 2, 3, 4, 5, 6, 7, 8, 9, 10, 11] rfl) (va_D.sub (ws' := (mQ cI cZ k r ln cw tm se isI we br ma sfr pa) ++ (mS cJ k aU aL uU uL)) hD [0, 1, 2, 3, 4, 5, 6, 7, 8, 9, 10, 11] (by decide) rfl) hK (va_recv hK hP (ci := 4) (q0 := 0) rfl rfl) rfl hl.1 rfl (Nat.le_of_ble_eq_true rfl) dL_law_541 ⟨Nat.le_trans (m := 20000) (by omega) (Nat.le_of_ble_eq_true rfl), Nat.le_trans (m := 100000) (by omega) (Nat.le_of_ble_eq_true rfl)⟩) hP hD hS hA (fun r_541 u_541 H locs hw_541 hP hD hS => ?_)
  have hP : va_P (dC, dI) vwCl ((mQ cI cZ k u_541.1 ln cw tm se isI we br ma sfr pa) ++ (mS cJ k u_541.2.1 u_541.2.2.1 u_541.2.2.2.1 u_541.2.2.2.2) ++ (xW cI q ln cw ic bs ss se we un sf pa) ++ (fW cI cJ q ct ov gi ta gf) ++ (mT cI cJ k oU oL gi2 ta2 gU gL)) H := hP
  have hD : va_D (fun q : Nat => s.heap.size ≤ q) ((mQ cI cZ k u_541.1 ln cw tm se isI we br ma sfr pa) ++ (mS cJ k u_541.2.1 u_541.2.2.1 u_541.2.2.2.1 u_541.2.2.2.2) ++ (xW cI q ln cw ic bs ss se we un sf pa) ++ (fW cI cJ q ct ov gi ta gf) ++ (mT cI cJ k oU oL gi2 ta2 gU gL)) := hD
  have hA := a_amount (u2 := u_541) I hw_527 hw_541
  refine lc_eq (tgt := 1027) hx hb dL_law_544 dL_law_545 (by decide) (fun c_544 => ?_) (fun h => absurd hA h)
  have hP := va_P.sub (ws' := (xW cI q ln cw ic bs ss se we un sf pa) ++ (fW cI cJ q ct ov gi ta gf) ++ (mQ cI cZ k u_541.1 ln cw tm se isI we br ma sfr pa) ++ (mS cJ k u_541.2.1 u_541.2.2.1 u_541.2.2.2.1 u_541.2.2.2.2) ++ (mT cI cJ k oU oL gi2 ta2 gU gL)) hP [12, 13, 14, 15, 16, 17, 18, 19, 20, 21, 22, 0, 1, 2, 3, 4, 5, 6, 7, 8, 9, 10, 11, 23, 24, 25, 26, 27, 28] rfl
  have hD := va_D.sub (ws' := (xW cI q ln cw ic bs ss se we un sf pa) ++ (fW cI cJ q ct ov gi ta gf) ++ (mQ cI cZ k u_541.1 ln cw tm se isI we br ma sfr pa) ++ (mS cJ k u_541.2.1 u_541.2.2.1 u_541.2.2.2.1 u_541.2.2.2.2) ++ (mT cI cJ k oU oL gi2 ta2 gU gL)) hD [12, 13, 14, 15, 16, 17, 18, 19, 20, 21, 22, 0, 1, 2, 3, 4, 5, 6, 7, 8, 9, 10, 11, 23, 24, 25, 26, 27, 28] (by decide) rfl
  refine W.widen (k := 30 + 30 * (j + 1)) (n := 300 + 80 * (j + 1)) (by omega) (by omega) ?_
  exact kk ls H locs ⟨(ln, cw, ic, bs, ss, se, we, un, sf, pa), (ct, ov, gi, ta, gf), (ln, cw, se, isI, we, br, ma, sfr, pa), (((u_541.1, u_541.2.1, u_541.2.2.1, u_541.2.2.2.1, u_541.2.2.2.2), 0, oU, oL, gi2, ta2, gU, gL), tm), INVt_i I, hP, hD, hS⟩ hl
set_option maxHeartbeats 4000000 in
set_option maxRecDepth 100000 in
theorem Lc_credit {p : Program} {l : Launch} {e : Env} {s : State} {m : MethodId} {below : List Frame} {meth : Method} {c : Code} {dC : Nat → ClassId} {dI : Nat → Nat → Nat} {cI cJ cZ : ClassId} {b L : Nat} {xs : Nat → Int32} (C0 : lw_At p s m meth c b L xs) (hK : va_K (dC, dI) vwCl (ty3 cI cJ cZ) s) (hSM : SMf (fun q : Nat => s.heap.size ≤ q) s) {q k : Nat → Nat} {ln cw ic bs ss : Int32} {se we un sf pa isI br ma sfr : Nat → Int32} {ct : Int32} {ov gf : Nat → Int64} {gi ta : Nat → Int32} {r : Rat} {tm : Int32} {aU aL uU uL oU oL : Nat → Int64} {gi2 ta2 : Nat → Int32} {gU gL : Nat → Int64} {H : Heap} {locs : List Loc} {ls : Array Slot} {i j : Nat} {Q : State → Prop} (I : INV ln cw ic bs ss se we un sf pa isI br ma sfr) (hi : i + 4 ≤ L) (hL : L ≤ 2048) (hj : j ≤ 511) (hP : va_P (dC, dI) vwCl ((xW cI q ln cw ic bs ss se we un sf pa) ++ (fW cI cJ q ct ov gi ta gf) ++ (mQ cI cZ k r ln cw tm se isI we br ma sfr pa) ++ (mS cJ k aU aL uU uL) ++ (mT cI cJ k oU oL gi2 ta2 gU gL)) H) (hD : va_D (fun q : Nat => s.heap.size ≤ q) ((xW cI q ln cw ic bs ss se we un sf pa) ++ (fW cI cJ q ct ov gi ta gf) ++ (mQ cI cZ k r ln cw tm se isI we br ma sfr pa) ++ (mS cJ k aU aL uU uL) ++ (mT cI cJ k oU oL gi2 ta2 gU gL))) (hS : va_S (fun q : Nat => s.heap.size ≤ q) s.heap H locs) (hl : lv_has ls 4 [(0, .ref b), (1, .ref (q 0)), (2, .ref (k 0)), (3, .int (nI i))]) (kk : ∀ (ls2 : Array Slot) (H2 : Heap) (locs2 : List Loc), LSt dC dI cI cJ cZ s q k H2 locs2 → lv_has ls2 4 [(0, .ref b), (1, .ref (q 0)), (2, .ref (k 0)), (3, .int (nI i))] → W p l e room_1 s m #[Value.ref b] below meth c H2 locs2 (30 + 30 * (j + 1)) (300 + 80 * (j + 1)) Q (F0 m 1027 ls2 [])) : W p l e room_1 s m #[Value.ref b] below meth c H locs (30 + 30 * j) (300 + 80 * j) Q (F0 m 550 ls []) := by
  obtain ⟨hx, hb, hr, hml, hown, hts, hX, hbl, hlocks, hgv⟩ := C0
  have hT : ∀ w ∈ TT, w.before #[Value.ref b] s = true := fun w hw => hts w (TT_tbl hw)
  have hown : s.vm.findClass RL = some m.cls := hown
  have hA : ∀ q : Nat, s.heap.size ≤ q → (fun q : Nat => s.heap.size ≤ q) q := fun _ h => h
  have hbA : ¬ (fun q : Nat => s.heap.size ≤ q) b := Nat.not_le.mpr hbl
  refine lv_aload_n hx hb dL_law_550 rfl (lv_at hl 1 rfl) ?_
  refine lv_aload_n hx hb dL_law_551 rfl (lv_at hl 0 rfl) ?_
  refine lv_iload_n hx hb dL_law_552 rfl (lv_at hl 3 rfl) ?_
  refine lv_iconst (v := 1) hx hb dL_law_553 (by decide) ?_
  refine lv_iadd hx hb dL_law_554 ?_
  refine sld_n hx hb hX hbl hbA hS (w := (i + 1)) (nI_add i 1) (by omega) (by omega) dL_law_555 ?_
  refine lv_aload_n hx hb dL_law_556 rfl (lv_at hl 0 rfl) ?_
  refine lv_iload_n hx hb dL_law_557 rfl (lv_at hl 3 rfl) ?_
  refine lv_iconst (v := 2) hx hb dL_law_558 (by decide) ?_
  refine lv_iadd hx hb dL_law_559 ?_
  refine sld_n hx hb hX hbl hbA hS (w := (i + 2)) (nI_add i 2) (by omega) (by omega) dL_law_560 ?_
  refine fN_l (rNV (As := [.int (xs (i + 1)), .int (xs (i + 2))]) (rest := []) ⟨hx, hb, hml, hown, hT⟩ (c_X3_credit (l := l) H.size (xs (i + 1)) (xs (i + 2)) (fun j hj => (I_xcr I hj).2) (I_dn I)) (cwTV 2 hT kc_X3_credit km_L_69 ki_X3_credit ks_X3_credit kn_X3 rfl rfl md_X3_credit ⟨Nat.le_of_ble_eq_true rfl, Nat.le_of_ble_eq_true rfl⟩) (va_P.sub (ws' := xW cI q ln cw ic bs ss se we un sf pa) hP [0, 1, 2, 3, 4, 5] rfl) hK (va_recv hK hP (ci := 3) (q0 := 0) rfl rfl) rfl hl.1 rfl (Nat.le_of_ble_eq_true rfl) dL_law_561 ⟨Nat.le_trans (m := 20000) (by omega) (Nat.le_of_ble_eq_true rfl), Nat.le_trans (m := 100000) (by omega) (Nat.le_of_ble_eq_true rfl)⟩) hP hS hA (fun r_561 _ H locs hw_561 hP hS => ?_)
  refine lv_aload_n hx hb dL_law_564 rfl (lv_at hl 2 rfl) ?_
  refine lv_aload_n hx hb dL_law_565 rfl (lv_at hl 0 rfl) ?_
  refine lv_iload_n hx hb dL_law_566 rfl (lv_at hl 3 rfl) ?_
  refine lv_iconst (v := 1) hx hb dL_law_567 (by decide) ?_
  refine lv_iadd hx hb dL_law_568 ?_
  refine sld_n hx hb hX hbl hbA hS (w := (i + 1)) (nI_add i 1) (by omega) (by omega) dL_law_569 ?_
  refine lv_aload_n hx hb dL_law_570 rfl (lv_at hl 0 rfl) ?_
  refine lv_iload_n hx hb dL_law_571 rfl (lv_at hl 3 rfl) ?_
  refine lv_iconst (v := 2) hx hb dL_law_572 (by decide) ?_
  refine lv_iadd hx hb dL_law_573 ?_
  refine sld_n hx hb hX hbl hbA hS (w := (i + 2)) (nI_add i 2) (by omega) (by omega) dL_law_574 ?_
  have hP := va_P.sub (ws' := (mQ cI cZ k r ln cw tm se isI we br ma sfr pa) ++ (mS cJ k aU aL uU uL) ++ (xW cI q ln cw ic bs ss se we un sf pa) ++ (fW cI cJ q ct ov gi ta gf) ++ (mT cI cJ k oU oL gi2 ta2 gU gL)) hP [11, 12, 13, 14, 15, 16, 17, 18, 19, 20, 21, 22, 0, 1, 2, 3, 4, 5, 6, 7, 8, 9, 10, 23, 24, 25, 26, 27, 28] rfl
  have hD := va_D.sub (ws' := (mQ cI cZ k r ln cw tm se isI we br ma sfr pa) ++ (mS cJ k aU aL uU uL) ++ (xW cI q ln cw ic bs ss se we un sf pa) ++ (fW cI cJ q ct ov gi ta gf) ++ (mT cI cJ k oU oL gi2 ta2 gU gL)) hD [11, 12, 13, 14, 15, 16, 17, 18, 19, 20, 21, 22, 0, 1, 2, 3, 4, 5, 6, 7, 8, 9, 10, 23, 24, 25, 26, 27, 28] (by decide) rfl
  refine fM_l (wc := (mQ cI cZ k r ln cw tm se isI we br ma sfr pa) ++ (mS cJ k aU aL uU uL)) (wr := (xW cI q ln cw ic bs ss se we un sf pa) ++ (fW cI cJ q ct ov gi ta gf) ++ (mT cI cJ k oU oL gi2 ta2 gU gL)) (rMV (wc := (mQ cI cZ k r ln cw tm se isI we br ma sfr pa) ++ (mS cJ k aU aL uU uL)) (As := [.int (xs (i + 1)), .int (xs (i + 2))]) (rest := [.long r_561]) ⟨hx, hb, hml, hown, hT⟩ (c_X4_credit (l := l) H.size (xs (i + 1)) (xs (i + 2)) (I_mok I)) (cwTV 2 hT kc_X4_credit km_L_72 ki_X4_credit ks_X4_credit kn_X4 rfl rfl md_X4_credit ⟨Nat.le_of_ble_eq_true rfl, Nat.le_of_ble_eq_true rfl⟩) (va_P.sub (ws' := (mQ cI cZ k r ln cw tm se isI we br ma sfr pa) ++ (mS cJ k aU aL uU uL)) hP [0, 1, 2, 3, 4, 5, 6, 7, 8, 9, 10, 11] rfl) (va_D.sub (ws' := (mQ cI cZ k r ln cw tm se isI we br ma sfr pa) ++ (mS cJ k aU aL uU uL)) hD [0, 1, 2, 3, 4, 5, 6, 7, 8, 9, 10, 11] (by decide) rfl) hK (va_recv hK hP (ci := 4) (q0 := 0) rfl rfl) rfl hl.1 rfl (Nat.le_of_ble_eq_true rfl) dL_law_575 ⟨Nat.le_trans (m := 20000) (by omega) (Nat.le_of_ble_eq_true rfl), Nat.le_trans (m := 100000) (by omega) (Nat.le_of_ble_eq_true rfl)⟩) hP hD hS hA (fun r_575 u_575 H locs hw_575 hP hD hS => ?_)
  have hP : va_P (dC, dI) vwCl ((mQ cI cZ k u_575.1 ln cw tm se isI we br ma sfr pa) ++ (mS cJ k u_575.2.1 u_575.2.2.1 u_575.2.2.2.1 u_575.2.2.2.2) ++ (xW cI q ln cw ic bs ss se we un sf pa) ++ (fW cI cJ q ct ov gi ta gf) ++ (mT cI cJ k oU oL gi2 ta2 gU gL)) H := hP
  have hD : va_D (fun q : Nat => s.heap.size ≤ q) ((mQ cI cZ k u_575.1 ln cw tm se isI we br ma sfr pa) ++ (mS cJ k u_575.2.1 u_575.2.2.1 u_575.2.2.2.1 u_575.2.2.2.2) ++ (xW cI q ln cw ic bs ss se we un sf pa) ++ (fW cI cJ q ct ov gi ta gf) ++ (mT cI cJ k oU oL gi2 ta2 gU gL)) := hD
  have hA := a_credit (u2 := u_575) I hw_561 hw_575
  refine lc_eq (tgt := 1027) hx hb dL_law_578 dL_law_579 (by decide) (fun c_578 => ?_) (fun h => absurd hA h)
  have hP := va_P.sub (ws' := (xW cI q ln cw ic bs ss se we un sf pa) ++ (fW cI cJ q ct ov gi ta gf) ++ (mQ cI cZ k u_575.1 ln cw tm se isI we br ma sfr pa) ++ (mS cJ k u_575.2.1 u_575.2.2.1 u_575.2.2.2.1 u_575.2.2.2.2) ++ (mT cI cJ k oU oL gi2 ta2 gU gL)) hP [12, 13, 14, 15, 16, 17, 18, 19, 20, 21, 22, 0, 1, 2, 3, 4, 5, 6, 7, 8, 9, 10, 11, 23, 24, 25, 26, 27, 28] rfl
  have hD := va_D.sub (ws' := (xW cI q ln cw ic bs ss se we un sf pa) ++ (fW cI cJ q ct ov gi ta gf) ++ (mQ cI cZ k u_575.1 ln cw tm se isI we br ma sfr pa) ++ (mS cJ k u_575.2.1 u_575.2.2.1 u_575.2.2.2.1 u_575.2.2.2.2) ++ (mT cI cJ k oU oL gi2 ta2 gU gL)) hD [12, 13, 14, 15, 16, 17, 18, 19, 20, 21, 22, 0, 1, 2, 3, 4, 5, 6, 7, 8, 9, 10, 11, 23, 24, 25, 26, 27, 28] (by decide) rfl
  refine W.widen (k := 30 + 30 * (j + 1)) (n := 300 + 80 * (j + 1)) (by omega) (by omega) ?_
  exact kk ls H locs ⟨(ln, cw, ic, bs, ss, se, we, un, sf, pa), (ct, ov, gi, ta, gf), (ln, cw, se, isI, we, br, ma, sfr, pa), (((u_575.1, u_575.2.1, u_575.2.2.1, u_575.2.2.2.1, u_575.2.2.2.2), 0, oU, oL, gi2, ta2, gU, gL), tm), INVt_i I, hP, hD, hS⟩ hl
set_option maxHeartbeats 4000000 in
set_option maxRecDepth 100000 in
theorem Lc_unitDue {p : Program} {l : Launch} {e : Env} {s : State} {m : MethodId} {below : List Frame} {meth : Method} {c : Code} {dC : Nat → ClassId} {dI : Nat → Nat → Nat} {cI cJ cZ : ClassId} {b L : Nat} {xs : Nat → Int32} (C0 : lw_At p s m meth c b L xs) (hK : va_K (dC, dI) vwCl (ty3 cI cJ cZ) s) (hSM : SMf (fun q : Nat => s.heap.size ≤ q) s) {q k : Nat → Nat} {ln cw ic bs ss : Int32} {se we un sf pa isI br ma sfr : Nat → Int32} {ct : Int32} {ov gf : Nat → Int64} {gi ta : Nat → Int32} {r : Rat} {tm : Int32} {aU aL uU uL oU oL : Nat → Int64} {gi2 ta2 : Nat → Int32} {gU gL : Nat → Int64} {H : Heap} {locs : List Loc} {ls : Array Slot} {i j : Nat} {Q : State → Prop} (I : INV ln cw ic bs ss se we un sf pa isI br ma sfr) (hi : i + 4 ≤ L) (hL : L ≤ 2048) (hj : j ≤ 511) (hP : va_P (dC, dI) vwCl ((xW cI q ln cw ic bs ss se we un sf pa) ++ (fW cI cJ q ct ov gi ta gf) ++ (mQ cI cZ k r ln cw tm se isI we br ma sfr pa) ++ (mS cJ k aU aL uU uL) ++ (mT cI cJ k oU oL gi2 ta2 gU gL)) H) (hD : va_D (fun q : Nat => s.heap.size ≤ q) ((xW cI q ln cw ic bs ss se we un sf pa) ++ (fW cI cJ q ct ov gi ta gf) ++ (mQ cI cZ k r ln cw tm se isI we br ma sfr pa) ++ (mS cJ k aU aL uU uL) ++ (mT cI cJ k oU oL gi2 ta2 gU gL))) (hS : va_S (fun q : Nat => s.heap.size ≤ q) s.heap H locs) (hl : lv_has ls 4 [(0, .ref b), (1, .ref (q 0)), (2, .ref (k 0)), (3, .int (nI i))]) (kk : ∀ (ls2 : Array Slot) (H2 : Heap) (locs2 : List Loc), LSt dC dI cI cJ cZ s q k H2 locs2 → lv_has ls2 4 [(0, .ref b), (1, .ref (q 0)), (2, .ref (k 0)), (3, .int (nI i))] → W p l e room_1 s m #[Value.ref b] below meth c H2 locs2 (30 + 30 * (j + 1)) (300 + 80 * (j + 1)) Q (F0 m 1027 ls2 [])) : W p l e room_1 s m #[Value.ref b] below meth c H locs (30 + 30 * j) (300 + 80 * j) Q (F0 m 584 ls []) := by
  obtain ⟨hx, hb, hr, hml, hown, hts, hX, hbl, hlocks, hgv⟩ := C0
  have hT : ∀ w ∈ TT, w.before #[Value.ref b] s = true := fun w hw => hts w (TT_tbl hw)
  have hown : s.vm.findClass RL = some m.cls := hown
  have hA : ∀ q : Nat, s.heap.size ≤ q → (fun q : Nat => s.heap.size ≤ q) q := fun _ h => h
  have hbA : ¬ (fun q : Nat => s.heap.size ≤ q) b := Nat.not_le.mpr hbl
  refine lv_aload_n hx hb dL_law_584 rfl (lv_at hl 1 rfl) ?_
  refine lv_aload_n hx hb dL_law_585 rfl (lv_at hl 0 rfl) ?_
  refine lv_iload_n hx hb dL_law_586 rfl (lv_at hl 3 rfl) ?_
  refine lv_iconst (v := 1) hx hb dL_law_587 (by decide) ?_
  refine lv_iadd hx hb dL_law_588 ?_
  refine sld_n hx hb hX hbl hbA hS (w := (i + 1)) (nI_add i 1) (by omega) (by omega) dL_law_589 ?_
  refine lv_aload_n hx hb dL_law_590 rfl (lv_at hl 0 rfl) ?_
  refine lv_iload_n hx hb dL_law_591 rfl (lv_at hl 3 rfl) ?_
  refine lv_iconst (v := 2) hx hb dL_law_592 (by decide) ?_
  refine lv_iadd hx hb dL_law_593 ?_
  refine sld_n hx hb hX hbl hbA hS (w := (i + 2)) (nI_add i 2) (by omega) (by omega) dL_law_594 ?_
  refine fN_l (rNV (As := [.int (xs (i + 1)), .int (xs (i + 2))]) (rest := []) ⟨hx, hb, hml, hown, hT⟩ (c_X3_unitDue (l := l) H.size (xs (i + 1)) (xs (i + 2)) (I_ok I (se 0) (se 1)) (fun j hj => ub_bd (I_w I))) (cwTV 2 hT kc_X3_unitDue km_L_73 ki_X3_unitDue ks_X3_unitDue kn_X3 rfl rfl md_X3_unitDue ⟨Nat.le_of_ble_eq_true rfl, Nat.le_of_ble_eq_true rfl⟩) (va_P.sub (ws' := xW cI q ln cw ic bs ss se we un sf pa) hP [0, 1, 2, 3, 4, 5] rfl) hK (va_recv hK hP (ci := 3) (q0 := 0) rfl rfl) rfl hl.1 rfl (Nat.le_of_ble_eq_true rfl) dL_law_595 ⟨Nat.le_trans (m := 20000) (by omega) (Nat.le_of_ble_eq_true rfl), Nat.le_trans (m := 100000) (by omega) (Nat.le_of_ble_eq_true rfl)⟩) hP hS hA (fun r_595 _ H locs hw_595 hP hS => ?_)
  refine lv_aload_n hx hb dL_law_598 rfl (lv_at hl 2 rfl) ?_
  refine lv_aload_n hx hb dL_law_599 rfl (lv_at hl 0 rfl) ?_
  refine lv_iload_n hx hb dL_law_600 rfl (lv_at hl 3 rfl) ?_
  refine lv_iconst (v := 1) hx hb dL_law_601 (by decide) ?_
  refine lv_iadd hx hb dL_law_602 ?_
  refine sld_n hx hb hX hbl hbA hS (w := (i + 1)) (nI_add i 1) (by omega) (by omega) dL_law_603 ?_
  refine lv_aload_n hx hb dL_law_604 rfl (lv_at hl 0 rfl) ?_
  refine lv_iload_n hx hb dL_law_605 rfl (lv_at hl 3 rfl) ?_
  refine lv_iconst (v := 2) hx hb dL_law_606 (by decide) ?_
  refine lv_iadd hx hb dL_law_607 ?_
  refine sld_n hx hb hX hbl hbA hS (w := (i + 2)) (nI_add i 2) (by omega) (by omega) dL_law_608 ?_
  have hP := va_P.sub (ws' := (mQ cI cZ k r ln cw tm se isI we br ma sfr pa) ++ (mS cJ k aU aL uU uL) ++ (xW cI q ln cw ic bs ss se we un sf pa) ++ (fW cI cJ q ct ov gi ta gf) ++ (mT cI cJ k oU oL gi2 ta2 gU gL)) hP [11, 12, 13, 14, 15, 16, 17, 18, 19, 20, 21, 22, 0, 1, 2, 3, 4, 5, 6, 7, 8, 9, 10, 23, 24, 25, 26, 27, 28] rfl
  have hD := va_D.sub (ws' := (mQ cI cZ k r ln cw tm se isI we br ma sfr pa) ++ (mS cJ k aU aL uU uL) ++ (xW cI q ln cw ic bs ss se we un sf pa) ++ (fW cI cJ q ct ov gi ta gf) ++ (mT cI cJ k oU oL gi2 ta2 gU gL)) hD [11, 12, 13, 14, 15, 16, 17, 18, 19, 20, 21, 22, 0, 1, 2, 3, 4, 5, 6, 7, 8, 9, 10, 23, 24, 25, 26, 27, 28] (by decide) rfl
  refine fM_l (wc := (mQ cI cZ k r ln cw tm se isI we br ma sfr pa) ++ (mS cJ k aU aL uU uL)) (wr := (xW cI q ln cw ic bs ss se we un sf pa) ++ (fW cI cJ q ct ov gi ta gf) ++ (mT cI cJ k oU oL gi2 ta2 gU gL)) (rMV (wc := (mQ cI cZ k r ln cw tm se isI we br ma sfr pa) ++ (mS cJ k aU aL uU uL)) (As := [.int (xs (i + 1)), .int (xs (i + 2))]) (rest := [.long r_595]) ⟨hx, hb, hml, hown, hT⟩ (c_X4_unitDue (l := l) H.size (xs (i + 1)) (xs (i + 2)) (I_mok I)) (cwTV 2 hT kc_X4_unitDue km_L_76 ki_X4_unitDue ks_X4_unitDue kn_X4 rfl rfl md_X4_unitDue ⟨Nat.le_of_ble_eq_true rfl, Nat.le_of_ble_eq_true rfl⟩) (va_P.sub (ws' := (mQ cI cZ k r ln cw tm se isI we br ma sfr pa) ++ (mS cJ k aU aL uU uL)) hP [0, 1, 2, 3, 4, 5, 6, 7, 8, 9, 10, 11] rfl) (va_D.sub (ws' := (mQ cI cZ k r ln cw tm se isI we br ma sfr pa) ++ (mS cJ k aU aL uU uL)) hD [0, 1, 2, 3, 4, 5, 6, 7, 8, 9, 10, 11] (by decide) rfl) hK (va_recv hK hP (ci := 4) (q0 := 0) rfl rfl) rfl hl.1 rfl (Nat.le_of_ble_eq_true rfl) dL_law_609 ⟨Nat.le_trans (m := 20000) (by omega) (Nat.le_of_ble_eq_true rfl), Nat.le_trans (m := 100000) (by omega) (Nat.le_of_ble_eq_true rfl)⟩) hP hD hS hA (fun r_609 u_609 H locs hw_609 hP hD hS => ?_)
  have hP : va_P (dC, dI) vwCl ((mQ cI cZ k u_609.1 ln cw tm se isI we br ma sfr pa) ++ (mS cJ k u_609.2.1 u_609.2.2.1 u_609.2.2.2.1 u_609.2.2.2.2) ++ (xW cI q ln cw ic bs ss se we un sf pa) ++ (fW cI cJ q ct ov gi ta gf) ++ (mT cI cJ k oU oL gi2 ta2 gU gL)) H := hP
  have hD : va_D (fun q : Nat => s.heap.size ≤ q) ((mQ cI cZ k u_609.1 ln cw tm se isI we br ma sfr pa) ++ (mS cJ k u_609.2.1 u_609.2.2.1 u_609.2.2.2.1 u_609.2.2.2.2) ++ (xW cI q ln cw ic bs ss se we un sf pa) ++ (fW cI cJ q ct ov gi ta gf) ++ (mT cI cJ k oU oL gi2 ta2 gU gL)) := hD
  have hA := a_unitDue (u2 := u_609) I hw_595 hw_609
  refine lc_eq (tgt := 1027) hx hb dL_law_612 dL_law_613 (by decide) (fun c_612 => ?_) (fun h => absurd hA h)
  have hP := va_P.sub (ws' := (xW cI q ln cw ic bs ss se we un sf pa) ++ (fW cI cJ q ct ov gi ta gf) ++ (mQ cI cZ k u_609.1 ln cw tm se isI we br ma sfr pa) ++ (mS cJ k u_609.2.1 u_609.2.2.1 u_609.2.2.2.1 u_609.2.2.2.2) ++ (mT cI cJ k oU oL gi2 ta2 gU gL)) hP [12, 13, 14, 15, 16, 17, 18, 19, 20, 21, 22, 0, 1, 2, 3, 4, 5, 6, 7, 8, 9, 10, 11, 23, 24, 25, 26, 27, 28] rfl
  have hD := va_D.sub (ws' := (xW cI q ln cw ic bs ss se we un sf pa) ++ (fW cI cJ q ct ov gi ta gf) ++ (mQ cI cZ k u_609.1 ln cw tm se isI we br ma sfr pa) ++ (mS cJ k u_609.2.1 u_609.2.2.1 u_609.2.2.2.1 u_609.2.2.2.2) ++ (mT cI cJ k oU oL gi2 ta2 gU gL)) hD [12, 13, 14, 15, 16, 17, 18, 19, 20, 21, 22, 0, 1, 2, 3, 4, 5, 6, 7, 8, 9, 10, 11, 23, 24, 25, 26, 27, 28] (by decide) rfl
  refine W.widen (k := 30 + 30 * (j + 1)) (n := 300 + 80 * (j + 1)) (by omega) (by omega) ?_
  exact kk ls H locs ⟨(ln, cw, ic, bs, ss, se, we, un, sf, pa), (ct, ov, gi, ta, gf), (ln, cw, se, isI, we, br, ma, sfr, pa), (((u_609.1, u_609.2.1, u_609.2.2.1, u_609.2.2.2.1, u_609.2.2.2.2), 0, oU, oL, gi2, ta2, gU, gL), tm), INVt_i I, hP, hD, hS⟩ hl
set_option maxHeartbeats 4000000 in
set_option maxRecDepth 100000 in
theorem Lc_due {p : Program} {l : Launch} {e : Env} {s : State} {m : MethodId} {below : List Frame} {meth : Method} {c : Code} {dC : Nat → ClassId} {dI : Nat → Nat → Nat} {cI cJ cZ : ClassId} {b L : Nat} {xs : Nat → Int32} (C0 : lw_At p s m meth c b L xs) (hK : va_K (dC, dI) vwCl (ty3 cI cJ cZ) s) (hSM : SMf (fun q : Nat => s.heap.size ≤ q) s) {q k : Nat → Nat} {ln cw ic bs ss : Int32} {se we un sf pa isI br ma sfr : Nat → Int32} {ct : Int32} {ov gf : Nat → Int64} {gi ta : Nat → Int32} {r : Rat} {tm : Int32} {aU aL uU uL oU oL : Nat → Int64} {gi2 ta2 : Nat → Int32} {gU gL : Nat → Int64} {H : Heap} {locs : List Loc} {ls : Array Slot} {i j : Nat} {Q : State → Prop} (I : INV ln cw ic bs ss se we un sf pa isI br ma sfr) (hi : i + 4 ≤ L) (hL : L ≤ 2048) (hj : j ≤ 511) (hP : va_P (dC, dI) vwCl ((xW cI q ln cw ic bs ss se we un sf pa) ++ (fW cI cJ q ct ov gi ta gf) ++ (mQ cI cZ k r ln cw tm se isI we br ma sfr pa) ++ (mS cJ k aU aL uU uL) ++ (mT cI cJ k oU oL gi2 ta2 gU gL)) H) (hD : va_D (fun q : Nat => s.heap.size ≤ q) ((xW cI q ln cw ic bs ss se we un sf pa) ++ (fW cI cJ q ct ov gi ta gf) ++ (mQ cI cZ k r ln cw tm se isI we br ma sfr pa) ++ (mS cJ k aU aL uU uL) ++ (mT cI cJ k oU oL gi2 ta2 gU gL))) (hS : va_S (fun q : Nat => s.heap.size ≤ q) s.heap H locs) (hl : lv_has ls 4 [(0, .ref b), (1, .ref (q 0)), (2, .ref (k 0)), (3, .int (nI i))]) (kk : ∀ (ls2 : Array Slot) (H2 : Heap) (locs2 : List Loc), LSt dC dI cI cJ cZ s q k H2 locs2 → lv_has ls2 4 [(0, .ref b), (1, .ref (q 0)), (2, .ref (k 0)), (3, .int (nI i))] → W p l e room_1 s m #[Value.ref b] below meth c H2 locs2 (30 + 30 * (j + 1)) (300 + 80 * (j + 1)) Q (F0 m 1027 ls2 [])) : W p l e room_1 s m #[Value.ref b] below meth c H locs (30 + 30 * j) (300 + 80 * j) Q (F0 m 618 ls []) := by
  obtain ⟨hx, hb, hr, hml, hown, hts, hX, hbl, hlocks, hgv⟩ := C0
  have hT : ∀ w ∈ TT, w.before #[Value.ref b] s = true := fun w hw => hts w (TT_tbl hw)
  have hown : s.vm.findClass RL = some m.cls := hown
  have hA : ∀ q : Nat, s.heap.size ≤ q → (fun q : Nat => s.heap.size ≤ q) q := fun _ h => h
  have hbA : ¬ (fun q : Nat => s.heap.size ≤ q) b := Nat.not_le.mpr hbl
  refine lv_aload_n hx hb dL_law_618 rfl (lv_at hl 1 rfl) ?_
  refine lv_aload_n hx hb dL_law_619 rfl (lv_at hl 0 rfl) ?_
  refine lv_iload_n hx hb dL_law_620 rfl (lv_at hl 3 rfl) ?_
  refine lv_iconst (v := 1) hx hb dL_law_621 (by decide) ?_
  refine lv_iadd hx hb dL_law_622 ?_
  refine sld_n hx hb hX hbl hbA hS (w := (i + 1)) (nI_add i 1) (by omega) (by omega) dL_law_623 ?_
  refine lv_aload_n hx hb dL_law_624 rfl (lv_at hl 0 rfl) ?_
  refine lv_iload_n hx hb dL_law_625 rfl (lv_at hl 3 rfl) ?_
  refine lv_iconst (v := 2) hx hb dL_law_626 (by decide) ?_
  refine lv_iadd hx hb dL_law_627 ?_
  refine sld_n hx hb hX hbl hbA hS (w := (i + 2)) (nI_add i 2) (by omega) (by omega) dL_law_628 ?_
  refine fN_l (rNV (As := [.int (xs (i + 1)), .int (xs (i + 2))]) (rest := []) ⟨hx, hb, hml, hown, hT⟩ (c_X3_due (l := l) H.size (xs (i + 1)) (xs (i + 2)) (I_ok I (se 0) (se 1)) (fun j hj => be_bd (I_w I) hj)) (cwTV 2 hT kc_X3_due km_L_77 ki_X3_due ks_X3_due kn_X3 rfl rfl md_X3_due ⟨Nat.le_of_ble_eq_true rfl, Nat.le_of_ble_eq_true rfl⟩) (va_P.sub (ws' := xW cI q ln cw ic bs ss se we un sf pa) hP [0, 1, 2, 3, 4, 5] rfl) hK (va_recv hK hP (ci := 3) (q0 := 0) rfl rfl) rfl hl.1 rfl (Nat.le_of_ble_eq_true rfl) dL_law_629 ⟨Nat.le_trans (m := 20000) (by omega) (Nat.le_of_ble_eq_true rfl), Nat.le_trans (m := 100000) (by omega) (Nat.le_of_ble_eq_true rfl)⟩) hP hS hA (fun r_629 _ H locs hw_629 hP hS => ?_)
  refine lv_aload_n hx hb dL_law_632 rfl (lv_at hl 2 rfl) ?_
  refine lv_aload_n hx hb dL_law_633 rfl (lv_at hl 0 rfl) ?_
  refine lv_iload_n hx hb dL_law_634 rfl (lv_at hl 3 rfl) ?_
  refine lv_iconst (v := 1) hx hb dL_law_635 (by decide) ?_
  refine lv_iadd hx hb dL_law_636 ?_
  refine sld_n hx hb hX hbl hbA hS (w := (i + 1)) (nI_add i 1) (by omega) (by omega) dL_law_637 ?_
  refine lv_aload_n hx hb dL_law_638 rfl (lv_at hl 0 rfl) ?_
  refine lv_iload_n hx hb dL_law_639 rfl (lv_at hl 3 rfl) ?_
  refine lv_iconst (v := 2) hx hb dL_law_640 (by decide) ?_
  refine lv_iadd hx hb dL_law_641 ?_
  refine sld_n hx hb hX hbl hbA hS (w := (i + 2)) (nI_add i 2) (by omega) (by omega) dL_law_642 ?_
  have hP := va_P.sub (ws' := (mQ cI cZ k r ln cw tm se isI we br ma sfr pa) ++ (mS cJ k aU aL uU uL) ++ (xW cI q ln cw ic bs ss se we un sf pa) ++ (fW cI cJ q ct ov gi ta gf) ++ (mT cI cJ k oU oL gi2 ta2 gU gL)) hP [11, 12, 13, 14, 15, 16, 17, 18, 19, 20, 21, 22, 0, 1, 2, 3, 4, 5, 6, 7, 8, 9, 10, 23, 24, 25, 26, 27, 28] rfl
  have hD := va_D.sub (ws' := (mQ cI cZ k r ln cw tm se isI we br ma sfr pa) ++ (mS cJ k aU aL uU uL) ++ (xW cI q ln cw ic bs ss se we un sf pa) ++ (fW cI cJ q ct ov gi ta gf) ++ (mT cI cJ k oU oL gi2 ta2 gU gL)) hD [11, 12, 13, 14, 15, 16, 17, 18, 19, 20, 21, 22, 0, 1, 2, 3, 4, 5, 6, 7, 8, 9, 10, 23, 24, 25, 26, 27, 28] (by decide) rfl
  refine fM_l (wc := (mQ cI cZ k r ln cw tm se isI we br ma sfr pa) ++ (mS cJ k aU aL uU uL)) (wr := (xW cI q ln cw ic bs ss se we un sf pa) ++ (fW cI cJ q ct ov gi ta gf) ++ (mT cI cJ k oU oL gi2 ta2 gU gL)) (rMV (wc := (mQ cI cZ k r ln cw tm se isI we br ma sfr pa) ++ (mS cJ k aU aL uU uL)) (As := [.int (xs (i + 1)), .int (xs (i + 2))]) (rest := [.long r_629]) ⟨hx, hb, hml, hown, hT⟩ (c_X4_due (l := l) H.size (xs (i + 1)) (xs (i + 2)) (I_mok I) (I_w I)) (cwTV 2 hT kc_X4_due km_L_80 ki_X4_due ks_X4_due kn_X4 rfl rfl md_X4_due ⟨Nat.le_of_ble_eq_true rfl, Nat.le_of_ble_eq_true rfl⟩) (va_P.sub (ws' := (mQ cI cZ k r ln cw tm se isI we br ma sfr pa) ++ (mS cJ k aU aL uU uL)) hP [0, 1, 2, 3, 4, 5, 6, 7, 8, 9, 10, 11] rfl) (va_D.sub (ws' := (mQ cI cZ k r ln cw tm se isI we br ma sfr pa) ++ (mS cJ k aU aL uU uL)) hD [0, 1, 2, 3, 4, 5, 6, 7, 8, 9, 10, 11] (by decide) rfl) hK (va_recv hK hP (ci := 4) (q0 := 0) rfl rfl) rfl hl.1 rfl (Nat.le_of_ble_eq_true rfl) dL_law_643 ⟨Nat.le_trans (m := 20000) (by omega) (Nat.le_of_ble_eq_true rfl), Nat.le_trans (m := 100000) (by omega) (Nat.le_of_ble_eq_true rfl)⟩) hP hD hS hA (fun r_643 u_643 H locs hw_643 hP hD hS => ?_)
  have hP : va_P (dC, dI) vwCl ((mQ cI cZ k u_643.1 ln cw tm se isI we br ma sfr pa) ++ (mS cJ k u_643.2.1 u_643.2.2.1 u_643.2.2.2.1 u_643.2.2.2.2) ++ (xW cI q ln cw ic bs ss se we un sf pa) ++ (fW cI cJ q ct ov gi ta gf) ++ (mT cI cJ k oU oL gi2 ta2 gU gL)) H := hP
  have hD : va_D (fun q : Nat => s.heap.size ≤ q) ((mQ cI cZ k u_643.1 ln cw tm se isI we br ma sfr pa) ++ (mS cJ k u_643.2.1 u_643.2.2.1 u_643.2.2.2.1 u_643.2.2.2.2) ++ (xW cI q ln cw ic bs ss se we un sf pa) ++ (fW cI cJ q ct ov gi ta gf) ++ (mT cI cJ k oU oL gi2 ta2 gU gL)) := hD
  have hA := a_due (u2 := u_643) I hw_629 hw_643
  refine lc_eq (tgt := 1027) hx hb dL_law_646 dL_law_647 (by decide) (fun c_646 => ?_) (fun h => absurd hA h)
  have hP := va_P.sub (ws' := (xW cI q ln cw ic bs ss se we un sf pa) ++ (fW cI cJ q ct ov gi ta gf) ++ (mQ cI cZ k u_643.1 ln cw tm se isI we br ma sfr pa) ++ (mS cJ k u_643.2.1 u_643.2.2.1 u_643.2.2.2.1 u_643.2.2.2.2) ++ (mT cI cJ k oU oL gi2 ta2 gU gL)) hP [12, 13, 14, 15, 16, 17, 18, 19, 20, 21, 22, 0, 1, 2, 3, 4, 5, 6, 7, 8, 9, 10, 11, 23, 24, 25, 26, 27, 28] rfl
  have hD := va_D.sub (ws' := (xW cI q ln cw ic bs ss se we un sf pa) ++ (fW cI cJ q ct ov gi ta gf) ++ (mQ cI cZ k u_643.1 ln cw tm se isI we br ma sfr pa) ++ (mS cJ k u_643.2.1 u_643.2.2.1 u_643.2.2.2.1 u_643.2.2.2.2) ++ (mT cI cJ k oU oL gi2 ta2 gU gL)) hD [12, 13, 14, 15, 16, 17, 18, 19, 20, 21, 22, 0, 1, 2, 3, 4, 5, 6, 7, 8, 9, 10, 11, 23, 24, 25, 26, 27, 28] (by decide) rfl
  refine W.widen (k := 30 + 30 * (j + 1)) (n := 300 + 80 * (j + 1)) (by omega) (by omega) ?_
  exact kk ls H locs ⟨(ln, cw, ic, bs, ss, se, we, un, sf, pa), (ct, ov, gi, ta, gf), (ln, cw, se, isI, we, br, ma, sfr, pa), (((u_643.1, u_643.2.1, u_643.2.2.1, u_643.2.2.2.1, u_643.2.2.2.2), 0, oU, oL, gi2, ta2, gU, gL), tm), INVt_i I, hP, hD, hS⟩ hl
set_option maxHeartbeats 4000000 in
set_option maxRecDepth 100000 in
theorem Lc_gets {p : Program} {l : Launch} {e : Env} {s : State} {m : MethodId} {below : List Frame} {meth : Method} {c : Code} {dC : Nat → ClassId} {dI : Nat → Nat → Nat} {cI cJ cZ : ClassId} {b L : Nat} {xs : Nat → Int32} (C0 : lw_At p s m meth c b L xs) (hK : va_K (dC, dI) vwCl (ty3 cI cJ cZ) s) (hSM : SMf (fun q : Nat => s.heap.size ≤ q) s) {q k : Nat → Nat} {ln cw ic bs ss : Int32} {se we un sf pa isI br ma sfr : Nat → Int32} {ct : Int32} {ov gf : Nat → Int64} {gi ta : Nat → Int32} {r : Rat} {tm : Int32} {aU aL uU uL oU oL : Nat → Int64} {gi2 ta2 : Nat → Int32} {gU gL : Nat → Int64} {H : Heap} {locs : List Loc} {ls : Array Slot} {i j : Nat} {Q : State → Prop} (I : INV ln cw ic bs ss se we un sf pa isI br ma sfr) (hi : i + 4 ≤ L) (hL : L ≤ 2048) (hj : j ≤ 511) (hP : va_P (dC, dI) vwCl ((xW cI q ln cw ic bs ss se we un sf pa) ++ (fW cI cJ q ct ov gi ta gf) ++ (mQ cI cZ k r ln cw tm se isI we br ma sfr pa) ++ (mS cJ k aU aL uU uL) ++ (mT cI cJ k oU oL gi2 ta2 gU gL)) H) (hD : va_D (fun q : Nat => s.heap.size ≤ q) ((xW cI q ln cw ic bs ss se we un sf pa) ++ (fW cI cJ q ct ov gi ta gf) ++ (mQ cI cZ k r ln cw tm se isI we br ma sfr pa) ++ (mS cJ k aU aL uU uL) ++ (mT cI cJ k oU oL gi2 ta2 gU gL))) (hS : va_S (fun q : Nat => s.heap.size ≤ q) s.heap H locs) (hl : lv_has ls 4 [(0, .ref b), (1, .ref (q 0)), (2, .ref (k 0)), (3, .int (nI i))]) (kk : ∀ (ls2 : Array Slot) (H2 : Heap) (locs2 : List Loc), LSt dC dI cI cJ cZ s q k H2 locs2 → lv_has ls2 4 [(0, .ref b), (1, .ref (q 0)), (2, .ref (k 0)), (3, .int (nI i))] → W p l e room_1 s m #[Value.ref b] below meth c H2 locs2 (30 + 30 * (j + 1)) (300 + 80 * (j + 1)) Q (F0 m 1027 ls2 [])) : W p l e room_1 s m #[Value.ref b] below meth c H locs (30 + 30 * j) (300 + 80 * j) Q (F0 m 652 ls []) := by
  obtain ⟨hx, hb, hr, hml, hown, hts, hX, hbl, hlocks, hgv⟩ := C0
  have hT : ∀ w ∈ TT, w.before #[Value.ref b] s = true := fun w hw => hts w (TT_tbl hw)
  have hown : s.vm.findClass RL = some m.cls := hown
  have hA : ∀ q : Nat, s.heap.size ≤ q → (fun q : Nat => s.heap.size ≤ q) q := fun _ h => h
  have hbA : ¬ (fun q : Nat => s.heap.size ≤ q) b := Nat.not_le.mpr hbl
  refine lv_aload_n hx hb dL_law_652 rfl (lv_at hl 1 rfl) ?_
  refine lv_aload_n hx hb dL_law_653 rfl (lv_at hl 0 rfl) ?_
  refine lv_iload_n hx hb dL_law_654 rfl (lv_at hl 3 rfl) ?_
  refine lv_iconst (v := 1) hx hb dL_law_655 (by decide) ?_
  refine lv_iadd hx hb dL_law_656 ?_
  refine sld_n hx hb hX hbl hbA hS (w := (i + 1)) (nI_add i 1) (by omega) (by omega) dL_law_657 ?_
  refine lv_aload_n hx hb dL_law_658 rfl (lv_at hl 0 rfl) ?_
  refine lv_iload_n hx hb dL_law_659 rfl (lv_at hl 3 rfl) ?_
  refine lv_iconst (v := 2) hx hb dL_law_660 (by decide) ?_
  refine lv_iadd hx hb dL_law_661 ?_
  refine sld_n hx hb hX hbl hbA hS (w := (i + 2)) (nI_add i 2) (by omega) (by omega) dL_law_662 ?_
  refine lv_aload_n hx hb dL_law_663 rfl (lv_at hl 0 rfl) ?_
  refine lv_iload_n hx hb dL_law_664 rfl (lv_at hl 3 rfl) ?_
  refine lv_iconst (v := 3) hx hb dL_law_665 (by decide) ?_
  refine lv_iadd hx hb dL_law_666 ?_
  refine sld_n hx hb hX hbl hbA hS (w := (i + 3)) (nI_add i 3) (by omega) (by omega) dL_law_667 ?_
  refine fN_l (rNVs (As := [.int (xs (i + 1)), .int (xs (i + 2)), .int (xs (i + 3))]) (rest := []) ⟨hx, hb, hml, hown, hT⟩ (c_X3_gets (l := l) H.size (xs (i + 1)) (xs (i + 2)) (xs (i + 3)) (fun mn sp => I_ok I mn sp) (I_sn I).2) (cwTV 3 hT kc_X3_gets km_L_81 ki_X3_gets ks_X3_gets kn_X3 rfl rfl md_X3_gets ⟨Nat.le_of_ble_eq_true rfl, Nat.le_of_ble_eq_true rfl⟩) (va_P.sub (ws' := xW cI q ln cw ic bs ss se we un sf pa) hP [0, 1, 2, 3, 4, 5] rfl) hK hSM hS (fun q h => hA q (Nat.le_trans hS.1 h)) (va_recv hK hP (ci := 3) (q0 := 0) rfl rfl) rfl hl.1 rfl (Nat.le_of_ble_eq_true rfl) dL_law_668 ⟨Nat.le_trans (m := 20000) (by omega) (Nat.le_of_ble_eq_true rfl), Nat.le_trans (m := 100000) (by omega) (Nat.le_of_ble_eq_true rfl)⟩) hP hS hA (fun r_668 _ H locs hw_668 hP hS => ?_)
  refine lv_aload_n hx hb dL_law_671 rfl (lv_at hl 2 rfl) ?_
  refine lv_aload_n hx hb dL_law_672 rfl (lv_at hl 0 rfl) ?_
  refine lv_iload_n hx hb dL_law_673 rfl (lv_at hl 3 rfl) ?_
  refine lv_iconst (v := 1) hx hb dL_law_674 (by decide) ?_
  refine lv_iadd hx hb dL_law_675 ?_
  refine sld_n hx hb hX hbl hbA hS (w := (i + 1)) (nI_add i 1) (by omega) (by omega) dL_law_676 ?_
  refine lv_aload_n hx hb dL_law_677 rfl (lv_at hl 0 rfl) ?_
  refine lv_iload_n hx hb dL_law_678 rfl (lv_at hl 3 rfl) ?_
  refine lv_iconst (v := 2) hx hb dL_law_679 (by decide) ?_
  refine lv_iadd hx hb dL_law_680 ?_
  refine sld_n hx hb hX hbl hbA hS (w := (i + 2)) (nI_add i 2) (by omega) (by omega) dL_law_681 ?_
  refine lv_aload_n hx hb dL_law_682 rfl (lv_at hl 0 rfl) ?_
  refine lv_iload_n hx hb dL_law_683 rfl (lv_at hl 3 rfl) ?_
  refine lv_iconst (v := 3) hx hb dL_law_684 (by decide) ?_
  refine lv_iadd hx hb dL_law_685 ?_
  refine sld_n hx hb hX hbl hbA hS (w := (i + 3)) (nI_add i 3) (by omega) (by omega) dL_law_686 ?_
  have hP := va_P.sub (ws' := (mQ cI cZ k r ln cw tm se isI we br ma sfr pa) ++ (mS cJ k aU aL uU uL) ++ (xW cI q ln cw ic bs ss se we un sf pa) ++ (fW cI cJ q ct ov gi ta gf) ++ (mT cI cJ k oU oL gi2 ta2 gU gL)) hP [11, 12, 13, 14, 15, 16, 17, 18, 19, 20, 21, 22, 0, 1, 2, 3, 4, 5, 6, 7, 8, 9, 10, 23, 24, 25, 26, 27, 28] rfl
  have hD := va_D.sub (ws' := (mQ cI cZ k r ln cw tm se isI we br ma sfr pa) ++ (mS cJ k aU aL uU uL) ++ (xW cI q ln cw ic bs ss se we un sf pa) ++ (fW cI cJ q ct ov gi ta gf) ++ (mT cI cJ k oU oL gi2 ta2 gU gL)) hD [11, 12, 13, 14, 15, 16, 17, 18, 19, 20, 21, 22, 0, 1, 2, 3, 4, 5, 6, 7, 8, 9, 10, 23, 24, 25, 26, 27, 28] (by decide) rfl
  refine fM_l (wc := (mQ cI cZ k r ln cw tm se isI we br ma sfr pa) ++ (mS cJ k aU aL uU uL)) (wr := (xW cI q ln cw ic bs ss se we un sf pa) ++ (fW cI cJ q ct ov gi ta gf) ++ (mT cI cJ k oU oL gi2 ta2 gU gL)) (rMV (wc := (mQ cI cZ k r ln cw tm se isI we br ma sfr pa) ++ (mS cJ k aU aL uU uL)) (As := [.int (xs (i + 1)), .int (xs (i + 2)), .int (xs (i + 3))]) (rest := [.long r_668]) ⟨hx, hb, hml, hown, hT⟩ (c_X4_gets (l := l) H.size (xs (i + 1)) (xs (i + 2)) (xs (i + 3)) (I_mok I)) (cwTV 3 hT kc_X4_gets km_L_85 ki_X4_gets ks_X4_gets kn_X4 rfl rfl md_X4_gets ⟨Nat.le_of_ble_eq_true rfl, Nat.le_of_ble_eq_true rfl⟩) (va_P.sub (ws' := (mQ cI cZ k r ln cw tm se isI we br ma sfr pa) ++ (mS cJ k aU aL uU uL)) hP [0, 1, 2, 3, 4, 5, 6, 7, 8, 9, 10, 11] rfl) (va_D.sub (ws' := (mQ cI cZ k r ln cw tm se isI we br ma sfr pa) ++ (mS cJ k aU aL uU uL)) hD [0, 1, 2, 3, 4, 5, 6, 7, 8, 9, 10, 11] (by decide) rfl) hK (va_recv hK hP (ci := 4) (q0 := 0) rfl rfl) rfl hl.1 rfl (Nat.le_of_ble_eq_true rfl) dL_law_687 ⟨Nat.le_trans (m := 20000) (by omega) (Nat.le_of_ble_eq_true rfl), Nat.le_trans (m := 100000) (by omega) (Nat.le_of_ble_eq_true rfl)⟩) hP hD hS hA (fun r_687 u_687 H locs hw_687 hP hD hS => ?_)
  have hP : va_P (dC, dI) vwCl ((mQ cI cZ k u_687.1 ln cw tm se isI we br ma sfr pa) ++ (mS cJ k u_687.2.1 u_687.2.2.1 u_687.2.2.2.1 u_687.2.2.2.2) ++ (xW cI q ln cw ic bs ss se we un sf pa) ++ (fW cI cJ q ct ov gi ta gf) ++ (mT cI cJ k oU oL gi2 ta2 gU gL)) H := hP
  have hD : va_D (fun q : Nat => s.heap.size ≤ q) ((mQ cI cZ k u_687.1 ln cw tm se isI we br ma sfr pa) ++ (mS cJ k u_687.2.1 u_687.2.2.1 u_687.2.2.2.1 u_687.2.2.2.2) ++ (xW cI q ln cw ic bs ss se we un sf pa) ++ (fW cI cJ q ct ov gi ta gf) ++ (mT cI cJ k oU oL gi2 ta2 gU gL)) := hD
  have hA := a_gets (u2 := u_687) I hw_668 hw_687
  refine lc_eq (tgt := 1027) hx hb dL_law_690 dL_law_691 (by decide) (fun c_690 => ?_) (fun h => absurd hA h)
  have hP := va_P.sub (ws' := (xW cI q ln cw ic bs ss se we un sf pa) ++ (fW cI cJ q ct ov gi ta gf) ++ (mQ cI cZ k u_687.1 ln cw tm se isI we br ma sfr pa) ++ (mS cJ k u_687.2.1 u_687.2.2.1 u_687.2.2.2.1 u_687.2.2.2.2) ++ (mT cI cJ k oU oL gi2 ta2 gU gL)) hP [12, 13, 14, 15, 16, 17, 18, 19, 20, 21, 22, 0, 1, 2, 3, 4, 5, 6, 7, 8, 9, 10, 11, 23, 24, 25, 26, 27, 28] rfl
  have hD := va_D.sub (ws' := (xW cI q ln cw ic bs ss se we un sf pa) ++ (fW cI cJ q ct ov gi ta gf) ++ (mQ cI cZ k u_687.1 ln cw tm se isI we br ma sfr pa) ++ (mS cJ k u_687.2.1 u_687.2.2.1 u_687.2.2.2.1 u_687.2.2.2.2) ++ (mT cI cJ k oU oL gi2 ta2 gU gL)) hD [12, 13, 14, 15, 16, 17, 18, 19, 20, 21, 22, 0, 1, 2, 3, 4, 5, 6, 7, 8, 9, 10, 11, 23, 24, 25, 26, 27, 28] (by decide) rfl
  refine W.widen (k := 30 + 30 * (j + 1)) (n := 300 + 80 * (j + 1)) (by omega) (by omega) ?_
  exact kk ls H locs ⟨(ln, cw, ic, bs, ss, se, we, un, sf, pa), (ct, ov, gi, ta, gf), (ln, cw, se, isI, we, br, ma, sfr, pa), (((u_687.1, u_687.2.1, u_687.2.2.1, u_687.2.2.2.1, u_687.2.2.2.2), 0, oU, oL, gi2, ta2, gU, gL), tm), INVt_i I, hP, hD, hS⟩ hl
set_option maxHeartbeats 4000000 in
set_option maxRecDepth 100000 in
theorem Lc_bestManner {p : Program} {l : Launch} {e : Env} {s : State} {m : MethodId} {below : List Frame} {meth : Method} {c : Code} {dC : Nat → ClassId} {dI : Nat → Nat → Nat} {cI cJ cZ : ClassId} {b L : Nat} {xs : Nat → Int32} (C0 : lw_At p s m meth c b L xs) (hK : va_K (dC, dI) vwCl (ty3 cI cJ cZ) s) (hSM : SMf (fun q : Nat => s.heap.size ≤ q) s) {q k : Nat → Nat} {ln cw ic bs ss : Int32} {se we un sf pa isI br ma sfr : Nat → Int32} {ct : Int32} {ov gf : Nat → Int64} {gi ta : Nat → Int32} {r : Rat} {tm : Int32} {aU aL uU uL oU oL : Nat → Int64} {gi2 ta2 : Nat → Int32} {gU gL : Nat → Int64} {H : Heap} {locs : List Loc} {ls : Array Slot} {i j : Nat} {Q : State → Prop} (I : INV ln cw ic bs ss se we un sf pa isI br ma sfr) (hi : i + 4 ≤ L) (hL : L ≤ 2048) (hj : j ≤ 511) (hP : va_P (dC, dI) vwCl ((xW cI q ln cw ic bs ss se we un sf pa) ++ (fW cI cJ q ct ov gi ta gf) ++ (mQ cI cZ k r ln cw tm se isI we br ma sfr pa) ++ (mS cJ k aU aL uU uL) ++ (mT cI cJ k oU oL gi2 ta2 gU gL)) H) (hD : va_D (fun q : Nat => s.heap.size ≤ q) ((xW cI q ln cw ic bs ss se we un sf pa) ++ (fW cI cJ q ct ov gi ta gf) ++ (mQ cI cZ k r ln cw tm se isI we br ma sfr pa) ++ (mS cJ k aU aL uU uL) ++ (mT cI cJ k oU oL gi2 ta2 gU gL))) (hS : va_S (fun q : Nat => s.heap.size ≤ q) s.heap H locs) (hl : lv_has ls 4 [(0, .ref b), (1, .ref (q 0)), (2, .ref (k 0)), (3, .int (nI i))]) (kk : ∀ (ls2 : Array Slot) (H2 : Heap) (locs2 : List Loc), LSt dC dI cI cJ cZ s q k H2 locs2 → lv_has ls2 4 [(0, .ref b), (1, .ref (q 0)), (2, .ref (k 0)), (3, .int (nI i))] → W p l e room_1 s m #[Value.ref b] below meth c H2 locs2 (30 + 30 * (j + 1)) (300 + 80 * (j + 1)) Q (F0 m 1027 ls2 [])) : W p l e room_1 s m #[Value.ref b] below meth c H locs (30 + 30 * j) (300 + 80 * j) Q (F0 m 696 ls []) := by
  obtain ⟨hx, hb, hr, hml, hown, hts, hX, hbl, hlocks, hgv⟩ := C0
  have hT : ∀ w ∈ TT, w.before #[Value.ref b] s = true := fun w hw => hts w (TT_tbl hw)
  have hown : s.vm.findClass RL = some m.cls := hown
  have hA : ∀ q : Nat, s.heap.size ≤ q → (fun q : Nat => s.heap.size ≤ q) q := fun _ h => h
  have hbA : ¬ (fun q : Nat => s.heap.size ≤ q) b := Nat.not_le.mpr hbl
  refine lv_aload_n hx hb dL_law_696 rfl (lv_at hl 1 rfl) ?_
  refine fN_i (rNVs (As := []) (rest := []) ⟨hx, hb, hml, hown, hT⟩ (c_X3_bestManner (l := l) H.size (fun mn => I_ok I mn (se 1)) (I_sn I).2) (cwTV 0 hT kc_X3_bestManner km_L_86 ki_X3_bestManner ks_X3_bestManner kn_X3 rfl rfl md_X3_bestManner ⟨Nat.le_of_ble_eq_true rfl, Nat.le_of_ble_eq_true rfl⟩) (va_P.sub (ws' := xW cI q ln cw ic bs ss se we un sf pa) hP [0, 1, 2, 3, 4, 5] rfl) hK hSM hS (fun q h => hA q (Nat.le_trans hS.1 h)) (va_recv hK hP (ci := 3) (q0 := 0) rfl rfl) rfl hl.1 rfl (Nat.le_of_ble_eq_true rfl) dL_law_697 ⟨Nat.le_trans (m := 20000) (by omega) (Nat.le_of_ble_eq_true rfl), Nat.le_trans (m := 100000) (by omega) (Nat.le_of_ble_eq_true rfl)⟩) hP hS hA (fun r_697 _ H locs hw_697 hP hS => ?_)
  refine lv_aload_n hx hb dL_law_700 rfl (lv_at hl 2 rfl) ?_
  have hP := va_P.sub (ws' := (mQ cI cZ k r ln cw tm se isI we br ma sfr pa) ++ (mS cJ k aU aL uU uL) ++ (xW cI q ln cw ic bs ss se we un sf pa) ++ (fW cI cJ q ct ov gi ta gf) ++ (mT cI cJ k oU oL gi2 ta2 gU gL)) hP [11, 12, 13, 14, 15, 16, 17, 18, 19, 20, 21, 22, 0, 1, 2, 3, 4, 5, 6, 7, 8, 9, 10, 23, 24, 25, 26, 27, 28] rfl
  have hD := va_D.sub (ws' := (mQ cI cZ k r ln cw tm se isI we br ma sfr pa) ++ (mS cJ k aU aL uU uL) ++ (xW cI q ln cw ic bs ss se we un sf pa) ++ (fW cI cJ q ct ov gi ta gf) ++ (mT cI cJ k oU oL gi2 ta2 gU gL)) hD [11, 12, 13, 14, 15, 16, 17, 18, 19, 20, 21, 22, 0, 1, 2, 3, 4, 5, 6, 7, 8, 9, 10, 23, 24, 25, 26, 27, 28] (by decide) rfl
  refine fM_i (wc := (mQ cI cZ k r ln cw tm se isI we br ma sfr pa) ++ (mS cJ k aU aL uU uL)) (wr := (xW cI q ln cw ic bs ss se we un sf pa) ++ (fW cI cJ q ct ov gi ta gf) ++ (mT cI cJ k oU oL gi2 ta2 gU gL)) (rMV (wc := (mQ cI cZ k r ln cw tm se isI we br ma sfr pa) ++ (mS cJ k aU aL uU uL)) (As := []) (rest := [.int r_697]) ⟨hx, hb, hml, hown, hT⟩ (c_X4_bestManner (l := l) H.size (I_mok I)) (cwTV 0 hT kc_X4_bestManner km_L_90 ki_X4_bestManner ks_X4_bestManner kn_X4 rfl rfl md_X4_bestManner ⟨Nat.le_of_ble_eq_true rfl, Nat.le_of_ble_eq_true rfl⟩) (va_P.sub (ws' := (mQ cI cZ k r ln cw tm se isI we br ma sfr pa) ++ (mS cJ k aU aL uU uL)) hP [0, 1, 2, 3, 4, 5, 6, 7, 8, 9, 10, 11] rfl) (va_D.sub (ws' := (mQ cI cZ k r ln cw tm se isI we br ma sfr pa) ++ (mS cJ k aU aL uU uL)) hD [0, 1, 2, 3, 4, 5, 6, 7, 8, 9, 10, 11] (by decide) rfl) hK (va_recv hK hP (ci := 4) (q0 := 0) rfl rfl) rfl hl.1 rfl (Nat.le_of_ble_eq_true rfl) dL_law_701 ⟨Nat.le_trans (m := 20000) (by omega) (Nat.le_of_ble_eq_true rfl), Nat.le_trans (m := 100000) (by omega) (Nat.le_of_ble_eq_true rfl)⟩) hP hD hS hA (fun r_701 u_701 H locs hw_701 hP hD hS => ?_)
  have hP : va_P (dC, dI) vwCl ((mQ cI cZ k u_701.1 ln cw tm se isI we br ma sfr pa) ++ (mS cJ k u_701.2.1 u_701.2.2.1 u_701.2.2.2.1 u_701.2.2.2.2) ++ (xW cI q ln cw ic bs ss se we un sf pa) ++ (fW cI cJ q ct ov gi ta gf) ++ (mT cI cJ k oU oL gi2 ta2 gU gL)) H := hP
  have hD : va_D (fun q : Nat => s.heap.size ≤ q) ((mQ cI cZ k u_701.1 ln cw tm se isI we br ma sfr pa) ++ (mS cJ k u_701.2.1 u_701.2.2.1 u_701.2.2.2.1 u_701.2.2.2.2) ++ (xW cI q ln cw ic bs ss se we un sf pa) ++ (fW cI cJ q ct ov gi ta gf) ++ (mT cI cJ k oU oL gi2 ta2 gU gL)) := hD
  have hA := a_bestManner (u2 := u_701) I hw_697 hw_701
  refine lv_icmp_eq (tgt := 1027) hx hb dL_law_704 (by decide) (fun c_704 => ?_) (fun h => absurd hA h)
  have hP := va_P.sub (ws' := (xW cI q ln cw ic bs ss se we un sf pa) ++ (fW cI cJ q ct ov gi ta gf) ++ (mQ cI cZ k u_701.1 ln cw tm se isI we br ma sfr pa) ++ (mS cJ k u_701.2.1 u_701.2.2.1 u_701.2.2.2.1 u_701.2.2.2.2) ++ (mT cI cJ k oU oL gi2 ta2 gU gL)) hP [12, 13, 14, 15, 16, 17, 18, 19, 20, 21, 22, 0, 1, 2, 3, 4, 5, 6, 7, 8, 9, 10, 11, 23, 24, 25, 26, 27, 28] rfl
  have hD := va_D.sub (ws' := (xW cI q ln cw ic bs ss se we un sf pa) ++ (fW cI cJ q ct ov gi ta gf) ++ (mQ cI cZ k u_701.1 ln cw tm se isI we br ma sfr pa) ++ (mS cJ k u_701.2.1 u_701.2.2.1 u_701.2.2.2.1 u_701.2.2.2.2) ++ (mT cI cJ k oU oL gi2 ta2 gU gL)) hD [12, 13, 14, 15, 16, 17, 18, 19, 20, 21, 22, 0, 1, 2, 3, 4, 5, 6, 7, 8, 9, 10, 11, 23, 24, 25, 26, 27, 28] (by decide) rfl
  refine W.widen (k := 30 + 30 * (j + 1)) (n := 300 + 80 * (j + 1)) (by omega) (by omega) ?_
  exact kk ls H locs ⟨(ln, cw, ic, bs, ss, se, we, un, sf, pa), (ct, ov, gi, ta, gf), (ln, cw, se, isI, we, br, ma, sfr, pa), (((u_701.1, u_701.2.1, u_701.2.2.1, u_701.2.2.2.1, u_701.2.2.2.2), 0, oU, oL, gi2, ta2, gU, gL), tm), INVt_i I, hP, hD, hS⟩ hl
