variable {l : Launch} {dC : Nat → ClassId} {dI : Nat → Nat → Nat} {cI cJ cZ : ClassId}
variable {q : Nat → Nat} {ln cw ic bs ss : Int32} {se we un sf pa : Nat → Int32}
variable {ct : Int32} {ov gf : Nat → Int64} {gi ta : Nat → Int32}
variable {k : Nat → Nat} {r : Rat} {up lo : Int64} {cn tm : Int32} {isI br ma : Nat → Int32} {aU aL uU uL oU oL gU gL : Nat → Int64}

def x_G (ln cw ic bs ss : Int32) (se we un sf : Nat → Int32) (mn : Int32) : Rat := o_du (x_E ln cw ic se we) (x_C ln cw ic we un sf mn ss) (x_dn cw ic we) ((x_op ic we ss).toInt) ((x_la ic we un ss bs).toInt) ((x_sh cw ic we un (se 1) ss bs).toInt) + iQ (x_sumN (x_headsN ic un 6 &&& ss) sf 6).toInt
def x_bm (G0 G1 G2 : Rat) : Int32 := if (G1 - G0).num ≤ 0 then (if (G2 - G0).num ≤ 0 then 0 else 2) else (if (G2 - G1).num ≤ 0 then 1 else 2)
theorem x_G_bd {ln cw ic bs ss : Int32} {se we un sf : Nat → Int32} {mn : Int32} (h : x_ok ln cw ic se we un sf mn (se 1) ss bs) (hs : 0 ≤ (x_sumN (x_headsN ic un 6 &&& ss) sf 6).toInt ∧ (x_sumN (x_headsN ic un 6 &&& ss) sf 6).toInt ≤ 6000000) : bd (x_G ln cw ic bs ss se we un sf mn) (o_D (x_dn cw ic we) ((x_op ic we ss).toInt) ((x_sh cw ic we un (se 1) ss bs).toInt)) 7000000 := by
  have hD := o_D_bd h
  have h3 : bd (iQ (x_sumN (x_headsN ic un 6 &&& ss) sf 6).toInt) (o_D (x_dn cw ic we) ((x_op ic we ss).toInt) ((x_sh cw ic we un (se 1) ss bs).toInt)) 6000000 := bd_int hD.1 (by omega)
  exact bd_add (o_du_bd h) h3

theorem dr_of {r t : Rat} {D : Nat} (hD : 0 < D ∧ D ≤ 294000000) (h1 : bd r D 7000000) (h2 : bd t D 7000000) : rng (r - t).num := by
  have := bd_num_le hD.1 (bd_sub h1 h2)
  unfold rng; omega
set_option maxHeartbeats 4000000 in
set_option maxRecDepth 100000 in
theorem c_X3_bestManner (sz : Nat) (hok : ∀ mn : Int32, x_ok ln cw ic se we un sf mn (se 1) ss bs) (hs : 0 ≤ (x_sumN (x_headsN ic un 6 &&& ss) sf 6).toInt ∧ (x_sumN (x_headsN ic un 6 &&& ss) sf 6).toInt ≤ 6000000) : Met l yX3_bestManner (wT yX3_bestManner cX3_bestManner 5 (some .int)) ({ frames := 7, cells := 26, slots := 67, locals := 170 }) (pNs (dC, dI) (ty3 cI cJ cZ) (xW cI q ln cw ic bs ss se we un sf pa) [.ref (q 0)] sz) (va_Qi (S := Unit) (fun r _ => r = x_bm (x_G ln cw ic bs ss se we un sf 0) (x_G ln cw ic bs ss se we un sf 1) (x_G ln cw ic bs ss se we un sf 2)) (fun _ _ => True) (fun q : Nat => sz ≤ q)) 26 67 (fun q : Nat => sz ≤ q) := by
  refine Met.ofW (cc := cX3_bestManner) (maxL := 5) (ret := (some .int)) (by decide) rfl ?_
  intro p e s m args below meth c s₁ B hml hv
  obtain ⟨rfl, hsz, hP0, hK, t9, hZ, hTt⟩ := hv
  have hx := B.exec
  have hb := B.bytes
  have hr := B.returns
  have hts := atoms_spec (ws := wT yX3_bestManner cX3_bestManner 5 (some .int)) B.pre
  have hT := wT_T hts
  have hown : s.vm.findClass RX3 = some m.cls := findClass_of_methodNamed B.named
  have hlocks := B.notSynchronized
  subst hsz
  have hA : ∀ q : Nat, s.heap.size ≤ q → (fun q : Nat => s.heap.size ≤ q) q := fun q h => h
  have hS : va_S (fun q : Nat => s.heap.size ≤ q) s.heap s.heap [] := va_S.rf
  have hP : va_P (dC, dI) vwCl [] s.heap := nilP
  have hD : va_D (fun q : Nat => s.heap.size ≤ q) [] := nilD
  have hl := lv_entry ([.ref (q 0)]) (n := 5) (Nat.le_of_ble_eq_true rfl)
  rw [lg_entry_eq]
  generalize (lg_sl ([.ref (q 0)]) ++ List.replicate (5 - (lg_sl ([.ref (q 0)])).length) Slot.unset).toArray = ls at hl ⊢
  have hl : lv_has ls 5 [(0, .ref (q 0))] := hl
  have hdD : 0 < (o_D (x_dn cw ic we) ((x_op ic we ss).toInt) ((x_sh cw ic we un (se 1) ss bs).toInt)) ∧ (o_D (x_dn cw ic we) ((x_op ic we ss).toInt) ((x_sh cw ic we un (se 1) ss bs).toInt)) ≤ 294000000 := ⟨(o_D_bd (hok 0)).1, (o_D_bd (hok 0)).2.1⟩
  refine lv_iconst (v := 0) hx hb dX3_bestManner_0 (by decide) ?_
  refine lv_istore_n (lv' := [(1, .int 0), (0, .ref (q 0))]) hx hb dX3_bestManner_1 rfl hl (by decide) rfl (fun ls hl => ?_)
  refine lv_aload_n hx hb dX3_bestManner_2 rfl (lv_at hl 1 rfl) ?_
  refine lv_iconst (v := 0) hx hb dX3_bestManner_3 (by decide) ?_
  refine lv_aload_n hx hb dX3_bestManner_4 rfl (lv_at hl 1 rfl) ?_
  refine va_get (D := (dC, dI)) (ci := 3) (v := .ref (q 1)) (C := RX3) (T := TX3) (N := 11) hx hb hT hiX3 hown hK (keepP hP0 hS) 0 rfl rfl 2 (by decide) (hT _ kf_X3_9) (fun _ h9 => h9) rfl dX3_bestManner_5 ?_
  refine lv_iconst (v := 1) hx hb dX3_bestManner_8 (by decide) ?_
  refine ald_i hx hb hK (keepP hP0 hS) 1 0 rfl rfl (by decide) (w := 1) rfl (by decide) dX3_bestManner_9 ?_
  refine fN_r (rNV (As := [.int 0, .int (se 1)]) (rest := []) ⟨hx, hb, hml, hown, hT⟩ (c_X3_gotBy (l := l) s.heap.size 0 (se 1) (hok _) hs) (cwTV 2 hT kc_X3_gotBy km_X3_152 ki_X3_gotBy ks_X3_gotBy kn_X3 rfl rfl md_X3_gotBy ⟨Nat.le_of_ble_eq_true rfl, Nat.le_of_ble_eq_true rfl⟩) (keepP hP0 hS) hK (va_recv hK (keepP hP0 hS) (ci := 3) (q0 := 0) rfl rfl) rfl hl.1 rfl (Nat.le_of_ble_eq_true rfl) dX3_bestManner_10 ⟨Nat.le_of_ble_eq_true rfl, Nat.le_of_ble_eq_true rfl⟩) hP hD hS hA (fun u_10 b_10 H locs hw_10 hP hD hS => ?_)
  have hP : va_P (dC, dI) vwCl (shQ  b_10 (o_du (x_E ln cw ic se we) (x_C ln cw ic we un sf 0 ss) (x_dn cw ic we) ((x_op ic we ss).toInt) ((x_la ic we un ss bs).toInt) ((x_sh cw ic we un (se 1) ss bs).toInt) + iQ (x_sumN (x_headsN ic un 6 &&& ss) sf 6).toInt)) H := hP
  have hD : va_D (fun q : Nat => s.heap.size ≤ q) (shQ  b_10 (o_du (x_E ln cw ic se we) (x_C ln cw ic we un sf 0 ss) (x_dn cw ic we) ((x_op ic we ss).toInt) ((x_la ic we un ss bs).toInt) ((x_sh cw ic we un (se 1) ss bs).toInt) + iQ (x_sumN (x_headsN ic un 6 &&& ss) sf 6).toInt)) := hD
  rw [show (o_du (x_E ln cw ic se we) (x_C ln cw ic we un sf 0 ss) (x_dn cw ic we) ((x_op ic we ss).toInt) ((x_la ic we un ss bs).toInt) ((x_sh cw ic we un (se 1) ss bs).toInt) + iQ (x_sumN (x_headsN ic un 6 &&& ss) sf 6).toInt) = (x_G ln cw ic bs ss se we un sf 0) from rfl] at hP hD
  have hP : va_P (dC, dI) vwCl (shQ  b_10 (x_G ln cw ic bs ss se we un sf 0)) H := hP
  have hD : va_D (fun q : Nat => s.heap.size ≤ q) (shQ  b_10 (x_G ln cw ic bs ss se we un sf 0)) := hD
  refine lv_astore_n (lv' := [(2, .ref b_10), (1, .int 0), (0, .ref (q 0))]) hx hb dX3_bestManner_13 rfl hl (by decide) rfl (fun ls hl => ?_)
  refine lv_iconst (v := 1) hx hb dX3_bestManner_14 (by decide) ?_
  refine lv_istore_n (lv' := [(3, .int 1), (2, .ref b_10), (1, .int 0), (0, .ref (q 0))]) hx hb dX3_bestManner_15 rfl hl (by decide) rfl (fun ls hl => ?_)
  refine lv_iload_n hx hb dX3_bestManner_16 rfl (lv_at hl 0 rfl) ?_
  refine va_gets hx hb hZ hS hown (hT _ kf_X3_90) (fun _ h9 => h9) dX3_bestManner_17 ?_
  refine lv_iconst (v := 0) hx hb dX3_bestManner_20 (by decide) ?_
  refine va_ti hx hb hTt hS (v := .int 2) (vp_in_nI (n := 0) (by decide) (by decide)) rfl dX3_bestManner_21 ?_
  refine lv_icmp_gt (tgt := 63) hx hb dX3_bestManner_22 (by decide) (fun h => absurd h (by decide)) (fun c_22 => ?_)
  refine lv_aload_n hx hb dX3_bestManner_25 rfl (lv_at hl 3 rfl) ?_
  refine lv_iload_n hx hb dX3_bestManner_26 rfl (lv_at hl 0 rfl) ?_
  refine lv_aload_n hx hb dX3_bestManner_27 rfl (lv_at hl 3 rfl) ?_
  refine va_get (D := (dC, dI)) (ci := 3) (v := .ref (q 1)) (C := RX3) (T := TX3) (N := 11) hx hb hT hiX3 hown hK (keepP hP0 hS) 0 rfl rfl 2 (by decide) (hT _ kf_X3_9) (fun _ h9 => h9) rfl dX3_bestManner_28 ?_
  refine lv_iconst (v := 1) hx hb dX3_bestManner_31 (by decide) ?_
  refine ald_i hx hb hK (keepP hP0 hS) 1 0 rfl rfl (by decide) (w := 1) rfl (by decide) dX3_bestManner_32 ?_
  refine fN_r (rNV (As := [.int 1, .int (se 1)]) (rest := []) ⟨hx, hb, hml, hown, hT⟩ (c_X3_gotBy (l := l) H.size 1 (se 1) (hok _) hs) (cwTV 2 hT kc_X3_gotBy km_X3_152 ki_X3_gotBy ks_X3_gotBy kn_X3 rfl rfl md_X3_gotBy ⟨Nat.le_of_ble_eq_true rfl, Nat.le_of_ble_eq_true rfl⟩) (keepP hP0 hS) hK (va_recv hK (keepP hP0 hS) (ci := 3) (q0 := 0) rfl rfl) rfl hl.1 rfl (Nat.le_of_ble_eq_true rfl) dX3_bestManner_33 ⟨Nat.le_of_ble_eq_true rfl, Nat.le_of_ble_eq_true rfl⟩) hP hD hS hA (fun u_33 b_33 H locs hw_33 hP hD hS => ?_)
  have hP : va_P (dC, dI) vwCl ((shQ  b_10 (x_G ln cw ic bs ss se we un sf 0)) ++ (shQ  b_33 (o_du (x_E ln cw ic se we) (x_C ln cw ic we un sf 1 ss) (x_dn cw ic we) ((x_op ic we ss).toInt) ((x_la ic we un ss bs).toInt) ((x_sh cw ic we un (se 1) ss bs).toInt) + iQ (x_sumN (x_headsN ic un 6 &&& ss) sf 6).toInt))) H := hP
  have hD : va_D (fun q : Nat => s.heap.size ≤ q) ((shQ  b_10 (x_G ln cw ic bs ss se we un sf 0)) ++ (shQ  b_33 (o_du (x_E ln cw ic se we) (x_C ln cw ic we un sf 1 ss) (x_dn cw ic we) ((x_op ic we ss).toInt) ((x_la ic we un ss bs).toInt) ((x_sh cw ic we un (se 1) ss bs).toInt) + iQ (x_sumN (x_headsN ic un 6 &&& ss) sf 6).toInt))) := hD
  rw [show (o_du (x_E ln cw ic se we) (x_C ln cw ic we un sf 1 ss) (x_dn cw ic we) ((x_op ic we ss).toInt) ((x_la ic we un ss bs).toInt) ((x_sh cw ic we un (se 1) ss bs).toInt) + iQ (x_sumN (x_headsN ic un 6 &&& ss) sf 6).toInt) = (x_G ln cw ic bs ss se we un sf 1) from rfl] at hP hD
  have hP : va_P (dC, dI) vwCl ((shQ  b_10 (x_G ln cw ic bs ss se we un sf 0)) ++ (shQ  b_33 (x_G ln cw ic bs ss se we un sf 1))) H := hP
  have hD : va_D (fun q : Nat => s.heap.size ≤ q) ((shQ  b_10 (x_G ln cw ic bs ss se we un sf 0)) ++ (shQ  b_33 (x_G ln cw ic bs ss se we un sf 1))) := hD
  refine lv_astore (lv' := [(4, .ref b_33), (3, .int 1), (2, .ref b_10), (1, .int 0), (0, .ref (q 0))]) hx hb dX3_bestManner_36 hl (by decide) rfl (fun ls hl => ?_)
  refine lv_aload hx hb dX3_bestManner_38 (lv_at hl 0 rfl) ?_
  refine lv_aload_n hx hb dX3_bestManner_40 rfl (lv_at hl 2 rfl) ?_
  refine fN_r (rNV (As := [.ref b_10]) (rest := []) ⟨hx, hb, hml, hown, hT⟩ (c_X2_minus (l := l) H.size (o_D (x_dn cw ic we) ((x_op ic we ss).toInt) ((x_sh cw ic we un (se 1) ss bs).toInt)) 7000000 7000000 (x_G_bd (hok _) hs) (x_G_bd (hok _) hs) hdD.1 (by omega) (by omega)) (cwTV 1 hT kc_X2_minus km_X3_156 ki_X2_minus ks_X2_minus kn_X2 rfl rfl md_X2_minus ⟨Nat.le_of_ble_eq_true rfl, Nat.le_of_ble_eq_true rfl⟩) (va_P.sub (ws' := (shQ  b_33 (x_G ln cw ic bs ss se we un sf 1)) ++ (shQ  b_10 (x_G ln cw ic bs ss se we un sf 0))) hP [1, 0] rfl) hK (va_recv hK hP (ci := 2) (q0 := 1) rfl rfl) rfl hl.1 rfl (Nat.le_of_ble_eq_true rfl) dX3_bestManner_41 ⟨Nat.le_of_ble_eq_true rfl, Nat.le_of_ble_eq_true rfl⟩) hP hD hS hA (fun u_41 b_41 H locs hw_41 hP hD hS => ?_)
  have hP : va_P (dC, dI) vwCl ((shQ  b_10 (x_G ln cw ic bs ss se we un sf 0)) ++ (shQ  b_33 (x_G ln cw ic bs ss se we un sf 1)) ++ (shQ  b_41 ((x_G ln cw ic bs ss se we un sf 1) - (x_G ln cw ic bs ss se we un sf 0)))) H := hP
  have hD : va_D (fun q : Nat => s.heap.size ≤ q) ((shQ  b_10 (x_G ln cw ic bs ss se we un sf 0)) ++ (shQ  b_33 (x_G ln cw ic bs ss se we un sf 1)) ++ (shQ  b_41 ((x_G ln cw ic bs ss se we un sf 1) - (x_G ln cw ic bs ss se we un sf 0)))) := hD
  refine va_get (D := (dC, dI)) (ci := 2) (v := .long (iL (((x_G ln cw ic bs ss se we un sf 1) - (x_G ln cw ic bs ss se we un sf 0))).num)) (C := RX2) (T := TX2) (N := 2) hx hb hT hiX2 hown hK hP 2 rfl rfl 0 (by decide) (hT _ kf_X3_160) (fun _ h9 => h9) rfl dX3_bestManner_44 ?_
  refine lv_lconst (v := iL 0) hx hb dX3_bestManner_47 rfl ?_
  refine lc_le (tgt := 57) hx hb dX3_bestManner_48 dX3_bestManner_49 (by decide) (fun c_48 => ?_) (fun c_48 => ?_)
  · have hz1 : ((x_G ln cw ic bs ss se we un sf 1) - (x_G ln cw ic bs ss se we un sf 0)).num ≤ 0 := (iL_le (dr_of hdD (x_G_bd (hok _) hs) (x_G_bd (hok _) hs)) rng_0).mp c_48
    refine lv_iinc (v := 2) (lv' := [(3, .int 2), (4, .ref b_33), (2, .ref b_10), (1, .int 0), (0, .ref (q 0))]) hx hb dX3_bestManner_57 hl (k := 1) rfl (by decide) (by decide) rfl (fun ls hl => ?_)
    refine lv_goto (tgt := 16) hx hb dX3_bestManner_60 (by decide) ?_
    refine lv_iload_n hx hb dX3_bestManner_16 rfl (lv_at hl 0 rfl) ?_
    refine va_gets hx hb hZ hS hown (hT _ kf_X3_90) (fun _ h9 => h9) dX3_bestManner_17 ?_
    refine lv_iconst (v := 0) hx hb dX3_bestManner_20 (by decide) ?_
    refine va_ti hx hb hTt hS (v := .int 2) (vp_in_nI (n := 0) (by decide) (by decide)) rfl dX3_bestManner_21 ?_
    refine lv_icmp_gt (tgt := 63) hx hb dX3_bestManner_22 (by decide) (fun h => absurd h (by decide)) (fun c_22 => ?_)
    refine lv_aload_n hx hb dX3_bestManner_25 rfl (lv_at hl 4 rfl) ?_
    refine lv_iload_n hx hb dX3_bestManner_26 rfl (lv_at hl 0 rfl) ?_
    refine lv_aload_n hx hb dX3_bestManner_27 rfl (lv_at hl 4 rfl) ?_
    refine va_get (D := (dC, dI)) (ci := 3) (v := .ref (q 1)) (C := RX3) (T := TX3) (N := 11) hx hb hT hiX3 hown hK (keepP hP0 hS) 0 rfl rfl 2 (by decide) (hT _ kf_X3_9) (fun _ h9 => h9) rfl dX3_bestManner_28 ?_
    refine lv_iconst (v := 1) hx hb dX3_bestManner_31 (by decide) ?_
    refine ald_i hx hb hK (keepP hP0 hS) 1 0 rfl rfl (by decide) (w := 1) rfl (by decide) dX3_bestManner_32 ?_
    refine fN_r (rNV (As := [.int 2, .int (se 1)]) (rest := []) ⟨hx, hb, hml, hown, hT⟩ (c_X3_gotBy (l := l) H.size 2 (se 1) (hok _) hs) (cwTV 2 hT kc_X3_gotBy km_X3_152 ki_X3_gotBy ks_X3_gotBy kn_X3 rfl rfl md_X3_gotBy ⟨Nat.le_of_ble_eq_true rfl, Nat.le_of_ble_eq_true rfl⟩) (keepP hP0 hS) hK (va_recv hK (keepP hP0 hS) (ci := 3) (q0 := 0) rfl rfl) rfl hl.1 rfl (Nat.le_of_ble_eq_true rfl) dX3_bestManner_33 ⟨Nat.le_of_ble_eq_true rfl, Nat.le_of_ble_eq_true rfl⟩) hP hD hS hA (fun u_33x b_33x H locs hw_33 hP hD hS => ?_)
    have hP : va_P (dC, dI) vwCl ((shQ  b_10 (x_G ln cw ic bs ss se we un sf 0)) ++ (shQ  b_33 (x_G ln cw ic bs ss se we un sf 1)) ++ (shQ  b_41 ((x_G ln cw ic bs ss se we un sf 1) - (x_G ln cw ic bs ss se we un sf 0))) ++ (shQ  b_33x (o_du (x_E ln cw ic se we) (x_C ln cw ic we un sf 2 ss) (x_dn cw ic we) ((x_op ic we ss).toInt) ((x_la ic we un ss bs).toInt) ((x_sh cw ic we un (se 1) ss bs).toInt) + iQ (x_sumN (x_headsN ic un 6 &&& ss) sf 6).toInt))) H := hP
    have hD : va_D (fun q : Nat => s.heap.size ≤ q) ((shQ  b_10 (x_G ln cw ic bs ss se we un sf 0)) ++ (shQ  b_33 (x_G ln cw ic bs ss se we un sf 1)) ++ (shQ  b_41 ((x_G ln cw ic bs ss se we un sf 1) - (x_G ln cw ic bs ss se we un sf 0))) ++ (shQ  b_33x (o_du (x_E ln cw ic se we) (x_C ln cw ic we un sf 2 ss) (x_dn cw ic we) ((x_op ic we ss).toInt) ((x_la ic we un ss bs).toInt) ((x_sh cw ic we un (se 1) ss bs).toInt) + iQ (x_sumN (x_headsN ic un 6 &&& ss) sf 6).toInt))) := hD
    rw [show (o_du (x_E ln cw ic se we) (x_C ln cw ic we un sf 2 ss) (x_dn cw ic we) ((x_op ic we ss).toInt) ((x_la ic we un ss bs).toInt) ((x_sh cw ic we un (se 1) ss bs).toInt) + iQ (x_sumN (x_headsN ic un 6 &&& ss) sf 6).toInt) = (x_G ln cw ic bs ss se we un sf 2) from rfl] at hP hD
    have hP : va_P (dC, dI) vwCl ((shQ  b_10 (x_G ln cw ic bs ss se we un sf 0)) ++ (shQ  b_33 (x_G ln cw ic bs ss se we un sf 1)) ++ (shQ  b_41 ((x_G ln cw ic bs ss se we un sf 1) - (x_G ln cw ic bs ss se we un sf 0))) ++ (shQ  b_33x (x_G ln cw ic bs ss se we un sf 2))) H := hP
    have hD : va_D (fun q : Nat => s.heap.size ≤ q) ((shQ  b_10 (x_G ln cw ic bs ss se we un sf 0)) ++ (shQ  b_33 (x_G ln cw ic bs ss se we un sf 1)) ++ (shQ  b_41 ((x_G ln cw ic bs ss se we un sf 1) - (x_G ln cw ic bs ss se we un sf 0))) ++ (shQ  b_33x (x_G ln cw ic bs ss se we un sf 2))) := hD
    refine lv_astore (lv' := [(4, .ref b_33x), (3, .int 2), (2, .ref b_10), (1, .int 0), (0, .ref (q 0))]) hx hb dX3_bestManner_36 hl (by decide) rfl (fun ls hl => ?_)
    refine lv_aload hx hb dX3_bestManner_38 (lv_at hl 0 rfl) ?_
    refine lv_aload_n hx hb dX3_bestManner_40 rfl (lv_at hl 2 rfl) ?_
    refine fN_r (rNV (As := [.ref b_10]) (rest := []) ⟨hx, hb, hml, hown, hT⟩ (c_X2_minus (l := l) H.size (o_D (x_dn cw ic we) ((x_op ic we ss).toInt) ((x_sh cw ic we un (se 1) ss bs).toInt)) 7000000 7000000 (x_G_bd (hok _) hs) (x_G_bd (hok _) hs) hdD.1 (by omega) (by omega)) (cwTV 1 hT kc_X2_minus km_X3_156 ki_X2_minus ks_X2_minus kn_X2 rfl rfl md_X2_minus ⟨Nat.le_of_ble_eq_true rfl, Nat.le_of_ble_eq_true rfl⟩) (va_P.sub (ws' := (shQ  b_33x (x_G ln cw ic bs ss se we un sf 2)) ++ (shQ  b_10 (x_G ln cw ic bs ss se we un sf 0))) hP [3, 0] rfl) hK (va_recv hK hP (ci := 2) (q0 := 3) rfl rfl) rfl hl.1 rfl (Nat.le_of_ble_eq_true rfl) dX3_bestManner_41 ⟨Nat.le_of_ble_eq_true rfl, Nat.le_of_ble_eq_true rfl⟩) hP hD hS hA (fun u_41x b_41x H locs hw_41 hP hD hS => ?_)
    have hP : va_P (dC, dI) vwCl ((shQ  b_10 (x_G ln cw ic bs ss se we un sf 0)) ++ (shQ  b_33 (x_G ln cw ic bs ss se we un sf 1)) ++ (shQ  b_41 ((x_G ln cw ic bs ss se we un sf 1) - (x_G ln cw ic bs ss se we un sf 0))) ++ (shQ  b_33x (x_G ln cw ic bs ss se we un sf 2)) ++ (shQ  b_41x ((x_G ln cw ic bs ss se we un sf 2) - (x_G ln cw ic bs ss se we un sf 0)))) H := hP
    have hD : va_D (fun q : Nat => s.heap.size ≤ q) ((shQ  b_10 (x_G ln cw ic bs ss se we un sf 0)) ++ (shQ  b_33 (x_G ln cw ic bs ss se we un sf 1)) ++ (shQ  b_41 ((x_G ln cw ic bs ss se we un sf 1) - (x_G ln cw ic bs ss se we un sf 0))) ++ (shQ  b_33x (x_G ln cw ic bs ss se we un sf 2)) ++ (shQ  b_41x ((x_G ln cw ic bs ss se we un sf 2) - (x_G ln cw ic bs ss se we un sf 0)))) := hD
    refine va_get (D := (dC, dI)) (ci := 2) (v := .long (iL (((x_G ln cw ic bs ss se we un sf 2) - (x_G ln cw ic bs ss se we un sf 0))).num)) (C := RX2) (T := TX2) (N := 2) hx hb hT hiX2 hown hK hP 4 rfl rfl 0 (by decide) (hT _ kf_X3_160) (fun _ h9 => h9) rfl dX3_bestManner_44 ?_
    refine lv_lconst (v := iL 0) hx hb dX3_bestManner_47 rfl ?_
    refine lc_le (tgt := 57) hx hb dX3_bestManner_48 dX3_bestManner_49 (by decide) (fun c_48 => ?_) (fun c_48 => ?_)
    · have hz2 : ((x_G ln cw ic bs ss se we un sf 2) - (x_G ln cw ic bs ss se we un sf 0)).num ≤ 0 := (iL_le (dr_of hdD (x_G_bd (hok _) hs) (x_G_bd (hok _) hs)) rng_0).mp c_48
      refine lv_iinc (v := 3) (lv' := [(3, .int 3), (4, .ref b_33x), (2, .ref b_10), (1, .int 0), (0, .ref (q 0))]) hx hb dX3_bestManner_57 hl (k := 1) rfl (by decide) (by decide) rfl (fun ls hl => ?_)
      refine lv_goto (tgt := 16) hx hb dX3_bestManner_60 (by decide) ?_
      refine lv_iload_n hx hb dX3_bestManner_16 rfl (lv_at hl 0 rfl) ?_
      refine va_gets hx hb hZ hS hown (hT _ kf_X3_90) (fun _ h9 => h9) dX3_bestManner_17 ?_
      refine lv_iconst (v := 0) hx hb dX3_bestManner_20 (by decide) ?_
      refine va_ti hx hb hTt hS (v := .int 2) (vp_in_nI (n := 0) (by decide) (by decide)) rfl dX3_bestManner_21 ?_
      refine lv_icmp_gt (tgt := 63) hx hb dX3_bestManner_22 (by decide) (fun c_22 => ?_) (fun h => absurd h (by decide))
      refine lv_iload_n hx hb dX3_bestManner_63 rfl (lv_at hl 3 rfl) ?_
      exact retN_i (post := fun r _ => r = x_bm (x_G ln cw ic bs ss se we un sf 0) (x_G ln cw ic bs ss se we un sf 1) (x_G ln cw ic bs ss se we un sf 2)) hx hb hr hlocks (by simp only [x_bm, hz1, hz2, ↓reduceIte]) hS dX3_bestManner_64
    · have hz2 : ¬ ((x_G ln cw ic bs ss se we un sf 2) - (x_G ln cw ic bs ss se we un sf 0)).num ≤ 0 := fun h => c_48 ((iL_le (dr_of hdD (x_G_bd (hok _) hs) (x_G_bd (hok _) hs)) rng_0).mpr h)
      refine lv_iload_n hx hb dX3_bestManner_52 rfl (lv_at hl 1 rfl) ?_
      refine lv_istore_n (lv' := [(1, .int 2), (4, .ref b_33x), (3, .int 2), (2, .ref b_10), (0, .ref (q 0))]) hx hb dX3_bestManner_53 rfl hl (by decide) rfl (fun ls hl => ?_)
      refine lv_aload hx hb dX3_bestManner_54 (lv_at hl 1 rfl) ?_
      refine lv_astore_n (lv' := [(2, .ref b_33x), (1, .int 2), (4, .ref b_33x), (3, .int 2), (0, .ref (q 0))]) hx hb dX3_bestManner_56 rfl hl (by decide) rfl (fun ls hl => ?_)
      refine lv_iinc (v := 3) (lv' := [(3, .int 3), (2, .ref b_33x), (1, .int 2), (4, .ref b_33x), (0, .ref (q 0))]) hx hb dX3_bestManner_57 hl (k := 3) rfl (by decide) (by decide) rfl (fun ls hl => ?_)
      refine lv_goto (tgt := 16) hx hb dX3_bestManner_60 (by decide) ?_
      refine lv_iload_n hx hb dX3_bestManner_16 rfl (lv_at hl 0 rfl) ?_
      refine va_gets hx hb hZ hS hown (hT _ kf_X3_90) (fun _ h9 => h9) dX3_bestManner_17 ?_
      refine lv_iconst (v := 0) hx hb dX3_bestManner_20 (by decide) ?_
      refine va_ti hx hb hTt hS (v := .int 2) (vp_in_nI (n := 0) (by decide) (by decide)) rfl dX3_bestManner_21 ?_
      refine lv_icmp_gt (tgt := 63) hx hb dX3_bestManner_22 (by decide) (fun c_22 => ?_) (fun h => absurd h (by decide))
      refine lv_iload_n hx hb dX3_bestManner_63 rfl (lv_at hl 2 rfl) ?_
      exact retN_i (post := fun r _ => r = x_bm (x_G ln cw ic bs ss se we un sf 0) (x_G ln cw ic bs ss se we un sf 1) (x_G ln cw ic bs ss se we un sf 2)) hx hb hr hlocks (by simp only [x_bm, hz1, hz2, ↓reduceIte]) hS dX3_bestManner_64
  · have hz1 : ¬ ((x_G ln cw ic bs ss se we un sf 1) - (x_G ln cw ic bs ss se we un sf 0)).num ≤ 0 := fun h => c_48 ((iL_le (dr_of hdD (x_G_bd (hok _) hs) (x_G_bd (hok _) hs)) rng_0).mpr h)
    refine lv_iload_n hx hb dX3_bestManner_52 rfl (lv_at hl 1 rfl) ?_
    refine lv_istore_n (lv' := [(1, .int 1), (4, .ref b_33), (3, .int 1), (2, .ref b_10), (0, .ref (q 0))]) hx hb dX3_bestManner_53 rfl hl (by decide) rfl (fun ls hl => ?_)
    refine lv_aload hx hb dX3_bestManner_54 (lv_at hl 1 rfl) ?_
    refine lv_astore_n (lv' := [(2, .ref b_33), (1, .int 1), (4, .ref b_33), (3, .int 1), (0, .ref (q 0))]) hx hb dX3_bestManner_56 rfl hl (by decide) rfl (fun ls hl => ?_)
    refine lv_iinc (v := 2) (lv' := [(3, .int 2), (2, .ref b_33), (1, .int 1), (4, .ref b_33), (0, .ref (q 0))]) hx hb dX3_bestManner_57 hl (k := 3) rfl (by decide) (by decide) rfl (fun ls hl => ?_)
    refine lv_goto (tgt := 16) hx hb dX3_bestManner_60 (by decide) ?_
    refine lv_iload_n hx hb dX3_bestManner_16 rfl (lv_at hl 0 rfl) ?_
    refine va_gets hx hb hZ hS hown (hT _ kf_X3_90) (fun _ h9 => h9) dX3_bestManner_17 ?_
    refine lv_iconst (v := 0) hx hb dX3_bestManner_20 (by decide) ?_
    refine va_ti hx hb hTt hS (v := .int 2) (vp_in_nI (n := 0) (by decide) (by decide)) rfl dX3_bestManner_21 ?_
    refine lv_icmp_gt (tgt := 63) hx hb dX3_bestManner_22 (by decide) (fun h => absurd h (by decide)) (fun c_22 => ?_)
    refine lv_aload_n hx hb dX3_bestManner_25 rfl (lv_at hl 4 rfl) ?_
    refine lv_iload_n hx hb dX3_bestManner_26 rfl (lv_at hl 0 rfl) ?_
    refine lv_aload_n hx hb dX3_bestManner_27 rfl (lv_at hl 4 rfl) ?_
    refine va_get (D := (dC, dI)) (ci := 3) (v := .ref (q 1)) (C := RX3) (T := TX3) (N := 11) hx hb hT hiX3 hown hK (keepP hP0 hS) 0 rfl rfl 2 (by decide) (hT _ kf_X3_9) (fun _ h9 => h9) rfl dX3_bestManner_28 ?_
    refine lv_iconst (v := 1) hx hb dX3_bestManner_31 (by decide) ?_
    refine ald_i hx hb hK (keepP hP0 hS) 1 0 rfl rfl (by decide) (w := 1) rfl (by decide) dX3_bestManner_32 ?_
    refine fN_r (rNV (As := [.int 2, .int (se 1)]) (rest := []) ⟨hx, hb, hml, hown, hT⟩ (c_X3_gotBy (l := l) H.size 2 (se 1) (hok _) hs) (cwTV 2 hT kc_X3_gotBy km_X3_152 ki_X3_gotBy ks_X3_gotBy kn_X3 rfl rfl md_X3_gotBy ⟨Nat.le_of_ble_eq_true rfl, Nat.le_of_ble_eq_true rfl⟩) (keepP hP0 hS) hK (va_recv hK (keepP hP0 hS) (ci := 3) (q0 := 0) rfl rfl) rfl hl.1 rfl (Nat.le_of_ble_eq_true rfl) dX3_bestManner_33 ⟨Nat.le_of_ble_eq_true rfl, Nat.le_of_ble_eq_true rfl⟩) hP hD hS hA (fun u_33x b_33x H locs hw_33 hP hD hS => ?_)
    have hP : va_P (dC, dI) vwCl ((shQ  b_10 (x_G ln cw ic bs ss se we un sf 0)) ++ (shQ  b_33 (x_G ln cw ic bs ss se we un sf 1)) ++ (shQ  b_41 ((x_G ln cw ic bs ss se we un sf 1) - (x_G ln cw ic bs ss se we un sf 0))) ++ (shQ  b_33x (o_du (x_E ln cw ic se we) (x_C ln cw ic we un sf 2 ss) (x_dn cw ic we) ((x_op ic we ss).toInt) ((x_la ic we un ss bs).toInt) ((x_sh cw ic we un (se 1) ss bs).toInt) + iQ (x_sumN (x_headsN ic un 6 &&& ss) sf 6).toInt))) H := hP
    have hD : va_D (fun q : Nat => s.heap.size ≤ q) ((shQ  b_10 (x_G ln cw ic bs ss se we un sf 0)) ++ (shQ  b_33 (x_G ln cw ic bs ss se we un sf 1)) ++ (shQ  b_41 ((x_G ln cw ic bs ss se we un sf 1) - (x_G ln cw ic bs ss se we un sf 0))) ++ (shQ  b_33x (o_du (x_E ln cw ic se we) (x_C ln cw ic we un sf 2 ss) (x_dn cw ic we) ((x_op ic we ss).toInt) ((x_la ic we un ss bs).toInt) ((x_sh cw ic we un (se 1) ss bs).toInt) + iQ (x_sumN (x_headsN ic un 6 &&& ss) sf 6).toInt))) := hD
    rw [show (o_du (x_E ln cw ic se we) (x_C ln cw ic we un sf 2 ss) (x_dn cw ic we) ((x_op ic we ss).toInt) ((x_la ic we un ss bs).toInt) ((x_sh cw ic we un (se 1) ss bs).toInt) + iQ (x_sumN (x_headsN ic un 6 &&& ss) sf 6).toInt) = (x_G ln cw ic bs ss se we un sf 2) from rfl] at hP hD
    have hP : va_P (dC, dI) vwCl ((shQ  b_10 (x_G ln cw ic bs ss se we un sf 0)) ++ (shQ  b_33 (x_G ln cw ic bs ss se we un sf 1)) ++ (shQ  b_41 ((x_G ln cw ic bs ss se we un sf 1) - (x_G ln cw ic bs ss se we un sf 0))) ++ (shQ  b_33x (x_G ln cw ic bs ss se we un sf 2))) H := hP
    have hD : va_D (fun q : Nat => s.heap.size ≤ q) ((shQ  b_10 (x_G ln cw ic bs ss se we un sf 0)) ++ (shQ  b_33 (x_G ln cw ic bs ss se we un sf 1)) ++ (shQ  b_41 ((x_G ln cw ic bs ss se we un sf 1) - (x_G ln cw ic bs ss se we un sf 0))) ++ (shQ  b_33x (x_G ln cw ic bs ss se we un sf 2))) := hD
    refine lv_astore (lv' := [(4, .ref b_33x), (3, .int 2), (2, .ref b_33), (1, .int 1), (0, .ref (q 0))]) hx hb dX3_bestManner_36 hl (by decide) rfl (fun ls hl => ?_)
    refine lv_aload hx hb dX3_bestManner_38 (lv_at hl 0 rfl) ?_
    refine lv_aload_n hx hb dX3_bestManner_40 rfl (lv_at hl 2 rfl) ?_
    refine fN_r (rNV (As := [.ref b_33]) (rest := []) ⟨hx, hb, hml, hown, hT⟩ (c_X2_minus (l := l) H.size (o_D (x_dn cw ic we) ((x_op ic we ss).toInt) ((x_sh cw ic we un (se 1) ss bs).toInt)) 7000000 7000000 (x_G_bd (hok _) hs) (x_G_bd (hok _) hs) hdD.1 (by omega) (by omega)) (cwTV 1 hT kc_X2_minus km_X3_156 ki_X2_minus ks_X2_minus kn_X2 rfl rfl md_X2_minus ⟨Nat.le_of_ble_eq_true rfl, Nat.le_of_ble_eq_true rfl⟩) (va_P.sub (ws' := (shQ  b_33x (x_G ln cw ic bs ss se we un sf 2)) ++ (shQ  b_33 (x_G ln cw ic bs ss se we un sf 1))) hP [3, 1] rfl) hK (va_recv hK hP (ci := 2) (q0 := 3) rfl rfl) rfl hl.1 rfl (Nat.le_of_ble_eq_true rfl) dX3_bestManner_41 ⟨Nat.le_of_ble_eq_true rfl, Nat.le_of_ble_eq_true rfl⟩) hP hD hS hA (fun u_41x b_41x H locs hw_41 hP hD hS => ?_)
    have hP : va_P (dC, dI) vwCl ((shQ  b_10 (x_G ln cw ic bs ss se we un sf 0)) ++ (shQ  b_33 (x_G ln cw ic bs ss se we un sf 1)) ++ (shQ  b_41 ((x_G ln cw ic bs ss se we un sf 1) - (x_G ln cw ic bs ss se we un sf 0))) ++ (shQ  b_33x (x_G ln cw ic bs ss se we un sf 2)) ++ (shQ  b_41x ((x_G ln cw ic bs ss se we un sf 2) - (x_G ln cw ic bs ss se we un sf 1)))) H := hP
    have hD : va_D (fun q : Nat => s.heap.size ≤ q) ((shQ  b_10 (x_G ln cw ic bs ss se we un sf 0)) ++ (shQ  b_33 (x_G ln cw ic bs ss se we un sf 1)) ++ (shQ  b_41 ((x_G ln cw ic bs ss se we un sf 1) - (x_G ln cw ic bs ss se we un sf 0))) ++ (shQ  b_33x (x_G ln cw ic bs ss se we un sf 2)) ++ (shQ  b_41x ((x_G ln cw ic bs ss se we un sf 2) - (x_G ln cw ic bs ss se we un sf 1)))) := hD
    refine va_get (D := (dC, dI)) (ci := 2) (v := .long (iL (((x_G ln cw ic bs ss se we un sf 2) - (x_G ln cw ic bs ss se we un sf 1))).num)) (C := RX2) (T := TX2) (N := 2) hx hb hT hiX2 hown hK hP 4 rfl rfl 0 (by decide) (hT _ kf_X3_160) (fun _ h9 => h9) rfl dX3_bestManner_44 ?_
    refine lv_lconst (v := iL 0) hx hb dX3_bestManner_47 rfl ?_
    refine lc_le (tgt := 57) hx hb dX3_bestManner_48 dX3_bestManner_49 (by decide) (fun c_48 => ?_) (fun c_48 => ?_)
    · have hz2 : ((x_G ln cw ic bs ss se we un sf 2) - (x_G ln cw ic bs ss se we un sf 1)).num ≤ 0 := (iL_le (dr_of hdD (x_G_bd (hok _) hs) (x_G_bd (hok _) hs)) rng_0).mp c_48
      refine lv_iinc (v := 3) (lv' := [(3, .int 3), (4, .ref b_33x), (2, .ref b_33), (1, .int 1), (0, .ref (q 0))]) hx hb dX3_bestManner_57 hl (k := 1) rfl (by decide) (by decide) rfl (fun ls hl => ?_)
      refine lv_goto (tgt := 16) hx hb dX3_bestManner_60 (by decide) ?_
      refine lv_iload_n hx hb dX3_bestManner_16 rfl (lv_at hl 0 rfl) ?_
      refine va_gets hx hb hZ hS hown (hT _ kf_X3_90) (fun _ h9 => h9) dX3_bestManner_17 ?_
      refine lv_iconst (v := 0) hx hb dX3_bestManner_20 (by decide) ?_
      refine va_ti hx hb hTt hS (v := .int 2) (vp_in_nI (n := 0) (by decide) (by decide)) rfl dX3_bestManner_21 ?_
      refine lv_icmp_gt (tgt := 63) hx hb dX3_bestManner_22 (by decide) (fun c_22 => ?_) (fun h => absurd h (by decide))
      refine lv_iload_n hx hb dX3_bestManner_63 rfl (lv_at hl 3 rfl) ?_
      exact retN_i (post := fun r _ => r = x_bm (x_G ln cw ic bs ss se we un sf 0) (x_G ln cw ic bs ss se we un sf 1) (x_G ln cw ic bs ss se we un sf 2)) hx hb hr hlocks (by simp only [x_bm, hz1, hz2, ↓reduceIte]) hS dX3_bestManner_64
    · have hz2 : ¬ ((x_G ln cw ic bs ss se we un sf 2) - (x_G ln cw ic bs ss se we un sf 1)).num ≤ 0 := fun h => c_48 ((iL_le (dr_of hdD (x_G_bd (hok _) hs) (x_G_bd (hok _) hs)) rng_0).mpr h)
      refine lv_iload_n hx hb dX3_bestManner_52 rfl (lv_at hl 1 rfl) ?_
      refine lv_istore_n (lv' := [(1, .int 2), (4, .ref b_33x), (3, .int 2), (2, .ref b_33), (0, .ref (q 0))]) hx hb dX3_bestManner_53 rfl hl (by decide) rfl (fun ls hl => ?_)
      refine lv_aload hx hb dX3_bestManner_54 (lv_at hl 1 rfl) ?_
      refine lv_astore_n (lv' := [(2, .ref b_33x), (1, .int 2), (4, .ref b_33x), (3, .int 2), (0, .ref (q 0))]) hx hb dX3_bestManner_56 rfl hl (by decide) rfl (fun ls hl => ?_)
      refine lv_iinc (v := 3) (lv' := [(3, .int 3), (2, .ref b_33x), (1, .int 2), (4, .ref b_33x), (0, .ref (q 0))]) hx hb dX3_bestManner_57 hl (k := 3) rfl (by decide) (by decide) rfl (fun ls hl => ?_)
      refine lv_goto (tgt := 16) hx hb dX3_bestManner_60 (by decide) ?_
      refine lv_iload_n hx hb dX3_bestManner_16 rfl (lv_at hl 0 rfl) ?_
      refine va_gets hx hb hZ hS hown (hT _ kf_X3_90) (fun _ h9 => h9) dX3_bestManner_17 ?_
      refine lv_iconst (v := 0) hx hb dX3_bestManner_20 (by decide) ?_
      refine va_ti hx hb hTt hS (v := .int 2) (vp_in_nI (n := 0) (by decide) (by decide)) rfl dX3_bestManner_21 ?_
      refine lv_icmp_gt (tgt := 63) hx hb dX3_bestManner_22 (by decide) (fun c_22 => ?_) (fun h => absurd h (by decide))
      refine lv_iload_n hx hb dX3_bestManner_63 rfl (lv_at hl 2 rfl) ?_
      exact retN_i (post := fun r _ => r = x_bm (x_G ln cw ic bs ss se we un sf 0) (x_G ln cw ic bs ss se we un sf 1) (x_G ln cw ic bs ss se we un sf 2)) hx hb hr hlocks (by simp only [x_bm, hz1, hz2, ↓reduceIte]) hS dX3_bestManner_64
