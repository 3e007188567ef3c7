variable {l : Launch} {dC : Nat → ClassId} {dI : Nat → Nat → Nat} {cI cJ cZ : ClassId}
variable {q : Nat → Nat} {ln cw ic bs ss : Int32} {se we un sf pa : Nat → Int32}
variable {ct : Int32} {ov gf : Nat → Int64} {gi ta : Nat → Int32}
variable {k : Nat → Nat} {r : Rat} {up lo : Int64} {cn tm : Int32} {isI br ma : Nat → Int32} {aU aL uU uL oU oL gU gL : Nat → Int64}

def sm_v (j : Nat) : Int32 := if j = 2 then 100 else 2
/-- the greatest settings, as the class keeps them -/
def SMf (A : Nat → Prop) (U : State) : Prop := ∃ t, va_Z "SharedFault" "SETTING_MOST" "[I" (.ref t) A U U.heap ∧ va_T .int t 3 (fun j => .int (sm_v j)) A U U.heap
def pMs (D : va_G) (tys : List (ClassId × FieldType)) (ws : va_W) (av : List Value) (sz : Nat) : Array Value → State → Prop := va_Pc av (fun U => U.heap.size = sz ∧ va_P D vwCl ws U.heap ∧ va_K D vwCl tys U ∧ va_D (fun _ => True) ws ∧ SMf (va_A ws sz) U)
def pNs (D : va_G) (tys : List (ClassId × FieldType)) (ws : va_W) (av : List Value) (sz : Nat) : Array Value → State → Prop := va_Pc av (fun U => U.heap.size = sz ∧ va_P D vwCl ws U.heap ∧ va_K D vwCl tys U ∧ SMf (fun q : Nat => sz ≤ q) U)
theorem SMf_blind {A : Nat → Prop} {U : State} {g : JFrame} {mk : MethodId} {a : Array Value} (h : SMf A U) : SMf A (U.calling g mk a) := by
  obtain ⟨t, h1, h2⟩ := h
  exact ⟨t, va_Z.moved (u := U) (U := U.calling g mk a) (Vm.Alike.refl U.vm) h1, va_T.moved (u := U) (U := U.calling g mk a) (Vm.Alike.refl U.vm) h2⟩
theorem pMs_blind {D : va_G} {tys : List (ClassId × FieldType)} {ws : va_W} {av : List Value} {sz : Nat} : FrameBlind (pMs D tys ws av sz) := fun a U g mk q => ⟨q.1, q.2.1, q.2.2.1, va_K.moved (u := U) (U := U.calling g mk a) (Vm.Alike.refl U.vm) q.2.2.2.1, q.2.2.2.2.1, SMf_blind q.2.2.2.2.2⟩
theorem pNs_blind {D : va_G} {tys : List (ClassId × FieldType)} {ws : va_W} {av : List Value} {sz : Nat} : FrameBlind (pNs D tys ws av sz) := fun a U g mk q => ⟨q.1, q.2.1, q.2.2.1, va_K.moved (u := U) (U := U.calling g mk a) (Vm.Alike.refl U.vm) q.2.2.2.1, SMf_blind q.2.2.2.2⟩
theorem st3_of {v : Int32} (h : ¬ (v < 0 ∨ 2 < v)) : ∃ j : Nat, j < 3 ∧ v = nI j := by
  obtain ⟨j, hj, rfl⟩ := nI_of2 (M := 2) (n := 2) rfl (fun h2 => h (Or.inl h2)) (Int32.not_lt.mp (fun h2 => h (Or.inr h2)))
  exact ⟨j, by omega, rfl⟩
theorem i32_31 : (3 : Int32) - 1 = 2 := by decide
set_option maxHeartbeats 4000000 in
set_option maxRecDepth 100000 in
theorem c_X3_setting (sz : Nat) (v x : Int32) : Met l yX3_setting (wT yX3_setting cX3_setting 4 (some .int)) ({ frames := 1, cells := 0, slots := 0, locals := 22 }) (pMs (dC, dI) (ty3 cI cJ cZ) (xW cI q ln cw ic bs ss se we un sf pa) [.ref (q 0), .int v, .int x] sz) (va_Qi (S := XS) (fun r u => (((v < 0 ∨ 2 < v) ∨ ∃ i7, i7 < 3 ∧ v = nI i7 ∧ (x < 0 ∨ sm_v i7 < x)) ∧ r = -2 ∧ u = (ln, cw, ic, bs, ss, se, we, un, sf, pa)) ∨ (∃ i7, i7 < 3 ∧ v = nI i7 ∧ ¬ (x < 0 ∨ sm_v i7 < x) ∧ r = se i7 ∧ u = (ln, cw, ic, bs, ss, (upd se i7 x), we, un, sf, pa))) (fun u t9 => bM (dC, dI) (ty3 cI cJ cZ) (va_A (xW cI q ln cw ic bs ss se we un sf pa) sz) (xWt cI q u) t9) (va_A (xW cI q ln cw ic bs ss se we un sf pa) sz)) 0 0 (va_A (xW cI q ln cw ic bs ss se we un sf pa) sz) := by
  refine Met.ofW (cc := cX3_setting) (maxL := 4) (ret := (some .int)) (by decide) rfl ?_
  intro p e s m args below meth c s₁ B hml hv
  obtain ⟨rfl, hsz, hP, hK, hD0, t9, hZ, hTt⟩ := hv
  have hx := B.exec
  have hb := B.bytes
  have hr := B.returns
  have hts := atoms_spec (ws := wT yX3_setting cX3_setting 4 (some .int)) B.pre
  have hT := wT_T hts
  have hown : s.vm.findClass RX3 = some m.cls := findClass_of_methodNamed B.named
  have hlocks := B.notSynchronized
  subst hsz
  have hD := hD0.self (sz := s.heap.size)
  generalize hAe : va_A (xW cI q ln cw ic bs ss se we un sf pa) s.heap.size = A at hD hZ hTt ⊢
  have hA : ∀ q : Nat, s.heap.size ≤ q → A q := fun q h => by rw [← hAe]; exact Or.inr h
  have hS : va_S A s.heap s.heap [] := va_S.rf
  have hl := lv_entry ([.ref (q 0), .int v, .int x]) (n := 4) (Nat.le_of_ble_eq_true rfl)
  rw [lg_entry_eq]
  generalize (lg_sl ([.ref (q 0), .int v, .int x]) ++ List.replicate (4 - (lg_sl ([.ref (q 0), .int v, .int x])).length) Slot.unset).toArray = ls at hl ⊢
  have hl : lv_has ls 4 [(0, .ref (q 0)), (1, .int v), (2, .int x)] := hl
  refine lv_iload_n hx hb dX3_setting_0 rfl (lv_at hl 1 rfl) ?_
  refine lv_iconst (v := 0) hx hb dX3_setting_1 (by decide) ?_
  refine va_gets hx hb hZ hS hown (hT _ kf_X3_90) (fun _ h9 => h9) dX3_setting_2 ?_
  refine va_tlen hx hb hTt hS (v := 3) rfl dX3_setting_5 ?_
  refine lv_iconst (v := 1) hx hb dX3_setting_6 (by decide) ?_
  refine lv_isub hx hb dX3_setting_7 ?_
  refine topi_eq (y := 2) i32_31 ?_
  refine vp_callSi (rRS (As := [.int v, .int 0, .int 2]) (rest := []) ⟨hx, hb, hml, hown, hT⟩ (c_X3_isOutside (l := l) v 0 2) (cwTS 3 hT kc_X3_isOutside km_X3_35 kt_X3_isOutside kn_X3 rfl rfl md_X3_isOutside ⟨Nat.le_of_ble_eq_true rfl, Nat.le_of_ble_eq_true rfl⟩) nilP hK  rfl hl.1 rfl (Nat.le_of_ble_eq_true rfl) dX3_setting_8 ⟨Nat.le_of_ble_eq_true rfl, Nat.le_of_ble_eq_true rfl⟩) (fun r_8 hw_8 => ?_)
  rcases hw_8 with ⟨rfl, hw_8⟩ | ⟨rfl, hw_8⟩
  · refine lv_if_ne (tgt := 27) hx hb dX3_setting_11 (by decide) (fun c_11 => ?_) (fun h => absurd h (by decide))
    refine lv_bipush (v := (-2)) hx hb dX3_setting_27 (by decide) ?_
    exact retM_i (S := XS) (post := fun r u => (((v < 0 ∨ 2 < v) ∨ ∃ i7, i7 < 3 ∧ v = nI i7 ∧ (x < 0 ∨ sm_v i7 < x)) ∧ r = -2 ∧ u = (ln, cw, ic, bs, ss, se, we, un, sf, pa)) ∨ (∃ i7, i7 < 3 ∧ v = nI i7 ∧ ¬ (x < 0 ∨ sm_v i7 < x) ∧ r = se i7 ∧ u = (ln, cw, ic, bs, ss, (upd se i7 x), we, un, sf, pa))) (w2 := fun u => xWt cI q u) (ln, cw, ic, bs, ss, se, we, un, sf, pa) hx hb hr hlocks (by first | exact Or.inl ⟨Or.inl hw_8, rfl, rfl⟩ | exact Or.inl ⟨Or.inr ⟨j, hj, rfl, hw_21⟩, rfl, rfl⟩ | exact Or.inr ⟨j, hj, rfl, hw_21, rfl, rfl⟩) hP hK hD hS dX3_setting_29
  · obtain ⟨j, hj, rfl⟩ := st3_of hw_8
    refine lv_if_ne (tgt := 27) hx hb dX3_setting_11 (by decide) (fun h => absurd h (by decide)) (fun c_11 => ?_)
    refine lv_iload_n hx hb dX3_setting_14 rfl (lv_at hl 2 rfl) ?_
    refine lv_iconst (v := 0) hx hb dX3_setting_15 (by decide) ?_
    refine va_gets hx hb hZ hS hown (hT _ kf_X3_90) (fun _ h9 => h9) dX3_setting_16 ?_
    refine lv_iload_n hx hb dX3_setting_19 rfl (lv_at hl 1 rfl) ?_
    refine va_ti hx hb hTt hS (v := .int (sm_v j)) (vp_in_nI (n := j) hj (by decide)) (by rw [nI_clamp (by omega)]) dX3_setting_20 ?_
    refine vp_callSi (rRS (As := [.int x, .int 0, .int (sm_v j)]) (rest := []) ⟨hx, hb, hml, hown, hT⟩ (c_X3_isOutside (l := l) x 0 (sm_v j)) (cwTS 3 hT kc_X3_isOutside km_X3_35 kt_X3_isOutside kn_X3 rfl rfl md_X3_isOutside ⟨Nat.le_of_ble_eq_true rfl, Nat.le_of_ble_eq_true rfl⟩) nilP hK  rfl hl.1 rfl (Nat.le_of_ble_eq_true rfl) dX3_setting_21 ⟨Nat.le_of_ble_eq_true rfl, Nat.le_of_ble_eq_true rfl⟩) (fun r_21 hw_21 => ?_)
    rcases hw_21 with ⟨rfl, hw_21⟩ | ⟨rfl, hw_21⟩
    · refine lv_if_eq (tgt := 30) hx hb dX3_setting_24 (by decide) (fun h => absurd h (by decide)) (fun c_24 => ?_)
      refine lv_bipush (v := (-2)) hx hb dX3_setting_27 (by decide) ?_
      exact retM_i (S := XS) (post := fun r u => ((((nI j) < 0 ∨ 2 < (nI j)) ∨ ∃ i7, i7 < 3 ∧ (nI j) = nI i7 ∧ (x < 0 ∨ sm_v i7 < x)) ∧ r = -2 ∧ u = (ln, cw, ic, bs, ss, se, we, un, sf, pa)) ∨ (∃ i7, i7 < 3 ∧ (nI j) = nI i7 ∧ ¬ (x < 0 ∨ sm_v i7 < x) ∧ r = se i7 ∧ u = (ln, cw, ic, bs, ss, (upd se i7 x), we, un, sf, pa))) (w2 := fun u => xWt cI q u) (ln, cw, ic, bs, ss, se, we, un, sf, pa) hx hb hr hlocks (by first | exact Or.inl ⟨Or.inl hw_8, rfl, rfl⟩ | exact Or.inl ⟨Or.inr ⟨j, hj, rfl, hw_21⟩, rfl, rfl⟩ | exact Or.inr ⟨j, hj, rfl, hw_21, rfl, rfl⟩) hP hK hD hS dX3_setting_29
    · refine lv_if_eq (tgt := 30) hx hb dX3_setting_24 (by decide) (fun c_24 => ?_) (fun h => absurd h (by decide))
      refine lv_aload_n hx hb dX3_setting_30 rfl (lv_at hl 0 rfl) ?_
      refine va_get (D := (dC, dI)) (ci := 3) (v := .ref (q 1)) (C := RX3) (T := TX3) (N := 11) hx hb hT hiX3 hown hK hP 0 rfl rfl 2 (by decide) (hT _ kf_X3_9) (fun _ h9 => h9) rfl dX3_setting_31 ?_
      refine lv_iload_n hx hb dX3_setting_34 rfl (lv_at hl 1 rfl) ?_
      refine ald_i hx hb hK hP 1 0 rfl rfl (by decide) (w := j) rfl (by omega) dX3_setting_35 ?_
      refine lv_istore_n (lv' := [(3, .int (se j)), (0, .ref (q 0)), (1, .int (nI j)), (2, .int x)]) hx hb dX3_setting_36 rfl hl (by decide) rfl (fun ls hl => ?_)
      refine lv_aload_n hx hb dX3_setting_37 rfl (lv_at hl 1 rfl) ?_
      refine va_get (D := (dC, dI)) (ci := 3) (v := .ref (q 1)) (C := RX3) (T := TX3) (N := 11) hx hb hT hiX3 hown hK hP 0 rfl rfl 2 (by decide) (hT _ kf_X3_9) (fun _ h9 => h9) rfl dX3_setting_38 ?_
      refine lv_iload_n hx hb dX3_setting_41 rfl (lv_at hl 2 rfl) ?_
      refine lv_iload_n hx hb dX3_setting_42 rfl (lv_at hl 3 rfl) ?_
      refine ast_i hx hb hK hP hD hS 1 0 rfl rfl (by decide) (w := j) rfl (by omega) dX3_setting_43 (fun H locs hP hD hS => ?_)
      have hP : va_P (dC, dI) vwCl (xW cI q ln cw ic bs ss (upd se j x) we un sf pa) H := hP
      have hD : va_D A (xW cI q ln cw ic bs ss (upd se j x) we un sf pa) := hD
      refine lv_iload_n hx hb dX3_setting_44 rfl (lv_at hl 0 rfl) ?_
      exact retM_i (S := XS) (post := fun r u => ((((nI j) < 0 ∨ 2 < (nI j)) ∨ ∃ i7, i7 < 3 ∧ (nI j) = nI i7 ∧ (x < 0 ∨ sm_v i7 < x)) ∧ r = -2 ∧ u = (ln, cw, ic, bs, ss, se, we, un, sf, pa)) ∨ (∃ i7, i7 < 3 ∧ (nI j) = nI i7 ∧ ¬ (x < 0 ∨ sm_v i7 < x) ∧ r = se i7 ∧ u = (ln, cw, ic, bs, ss, (upd se i7 x), we, un, sf, pa))) (w2 := fun u => xWt cI q u) (ln, cw, ic, bs, ss, (upd se j x), we, un, sf, pa) hx hb hr hlocks (by first | exact Or.inl ⟨Or.inl hw_8, rfl, rfl⟩ | exact Or.inl ⟨Or.inr ⟨j, hj, rfl, hw_21⟩, rfl, rfl⟩ | exact Or.inr ⟨j, hj, rfl, hw_21, rfl, rfl⟩) hP hK hD hS dX3_setting_45
set_option maxHeartbeats 4000000 in
set_option maxRecDepth 100000 in
theorem c_X3_gets (sz : Nat) (mn sp wh : Int32) (hok : ∀ mn sp : Int32, x_ok ln cw ic se we un sf mn sp ss bs) (hs : 0 ≤ (x_sumN (x_headsN ic un 6 &&& ss) sf 6).toInt ∧ (x_sumN (x_headsN ic un 6 &&& ss) sf 6).toInt ≤ 6000000) : Met l yX3_gets (wT yX3_gets cX3_gets 4 (some .long)) ({ frames := 7, cells := 8, slots := 21, locals := 170 }) (pNs (dC, dI) (ty3 cI cJ cZ) (xW cI q ln cw ic bs ss se we un sf pa) [.ref (q 0), .int mn, .int sp, .int wh] sz) (va_Ql (S := Unit) (fun r _ => (((mn < 0 ∨ 2 < mn) ∨ (sp < 0 ∨ 2 < sp) ∨ (wh < 0 ∨ 1 < wh)) ∧ r = (-9223372036854775808)) ∨ (¬ ((mn < 0 ∨ 2 < mn) ∨ (sp < 0 ∨ 2 < sp) ∨ (wh < 0 ∨ 1 < wh)) ∧ r = tellQ (o_du (x_E ln cw ic se we) (x_C ln cw ic we un sf mn ss) (x_dn cw ic we) ((x_op ic we ss).toInt) ((x_la ic we un ss bs).toInt) ((x_sh cw ic we un sp ss bs).toInt) + iQ (x_sumN (x_headsN ic un 6 &&& ss) sf 6).toInt) wh)) (fun _ _ => True) (fun q : Nat => sz ≤ q)) 8 21 (fun q : Nat => sz ≤ q) := by
  refine Met.ofW (cc := cX3_gets) (maxL := 4) (ret := (some .long)) (by decide) rfl ?_
  intro p e s m args below meth c s₁ B hml hv
  obtain ⟨rfl, hsz, hP0, hK, t9, hZ, hTt⟩ := hv
  have hx := B.exec
  have hb := B.bytes
  have hr := B.returns
  have hts := atoms_spec (ws := wT yX3_gets cX3_gets 4 (some .long)) B.pre
  have hT := wT_T hts
  have hown : s.vm.findClass RX3 = some m.cls := findClass_of_methodNamed B.named
  have hlocks := B.notSynchronized
  subst hsz
  have hA : ∀ q : Nat, s.heap.size ≤ q → (fun q : Nat => s.heap.size ≤ q) q := fun q h => h
  have hS : va_S (fun q : Nat => s.heap.size ≤ q) s.heap s.heap [] := va_S.rf
  have hP : va_P (dC, dI) vwCl [] s.heap := nilP
  have hD : va_D (fun q : Nat => s.heap.size ≤ q) [] := nilD
  have hl := lv_entry ([.ref (q 0), .int mn, .int sp, .int wh]) (n := 4) (Nat.le_of_ble_eq_true rfl)
  rw [lg_entry_eq]
  generalize (lg_sl ([.ref (q 0), .int mn, .int sp, .int wh]) ++ List.replicate (4 - (lg_sl ([.ref (q 0), .int mn, .int sp, .int wh])).length) Slot.unset).toArray = ls at hl ⊢
  have hl : lv_has ls 4 [(0, .ref (q 0)), (1, .int mn), (2, .int sp), (3, .int wh)] := hl
  refine lv_iload_n hx hb dX3_gets_0 rfl (lv_at hl 1 rfl) ?_
  refine lv_iconst (v := 0) hx hb dX3_gets_1 (by decide) ?_
  refine va_gets hx hb hZ hS hown (hT _ kf_X3_90) (fun _ h9 => h9) dX3_gets_2 ?_
  refine lv_iconst (v := 0) hx hb dX3_gets_5 (by decide) ?_
  refine va_ti hx hb hTt hS (v := .int 2) (vp_in_nI (n := 0) (by decide) (by decide)) rfl dX3_gets_6 ?_
  refine vp_callSi (rRS (As := [.int mn, .int 0, .int 2]) (rest := []) ⟨hx, hb, hml, hown, hT⟩ (c_X3_isOutside (l := l) mn 0 2) (cwTS 3 hT kc_X3_isOutside km_X3_35 kt_X3_isOutside kn_X3 rfl rfl md_X3_isOutside ⟨Nat.le_of_ble_eq_true rfl, Nat.le_of_ble_eq_true rfl⟩) nilP hK  rfl hl.1 rfl (Nat.le_of_ble_eq_true rfl) dX3_gets_7 ⟨Nat.le_of_ble_eq_true rfl, Nat.le_of_ble_eq_true rfl⟩) (fun r_7 hw_7 => ?_)
  rcases hw_7 with ⟨rfl, hw_7⟩ | ⟨rfl, hw_7⟩
  · refine lv_if_ne (tgt := 35) hx hb dX3_gets_10 (by decide) (fun c_10 => ?_) (fun h => absurd h (by decide))
    refine lv_ldc2 hx hb hown (hT _ kj_X3_96) dX3_gets_35 ?_
    refine W.widen (k := 8) (n := 21) (Nat.le_of_ble_eq_true rfl) (Nat.le_of_ble_eq_true rfl) ?_
    exact retN_l (post := fun r _ => (((mn < 0 ∨ 2 < mn) ∨ (sp < 0 ∨ 2 < sp) ∨ (wh < 0 ∨ 1 < wh)) ∧ r = (-9223372036854775808)) ∨ (¬ ((mn < 0 ∨ 2 < mn) ∨ (sp < 0 ∨ 2 < sp) ∨ (wh < 0 ∨ 1 < wh)) ∧ r = tellQ (o_du (x_E ln cw ic se we) (x_C ln cw ic we un sf mn ss) (x_dn cw ic we) ((x_op ic we ss).toInt) ((x_la ic we un ss bs).toInt) ((x_sh cw ic we un sp ss bs).toInt) + iQ (x_sumN (x_headsN ic un 6 &&& ss) sf 6).toInt) wh)) hx hb hr hlocks (by first | exact Or.inl ⟨Or.inl hw_7, rfl⟩ | exact Or.inl ⟨Or.inr (Or.inl hw_20), rfl⟩ | exact Or.inl ⟨Or.inr (Or.inr hw_29), rfl⟩ | exact Or.inr ⟨fun h => by rcases h with h | h | h; exact hw_7 h; exact hw_20 h; exact hw_29 h, rfl⟩) hS dX3_gets_38
  · refine lv_if_ne (tgt := 35) hx hb dX3_gets_10 (by decide) (fun h => absurd h (by decide)) (fun c_10 => ?_)
    refine lv_iload_n hx hb dX3_gets_13 rfl (lv_at hl 2 rfl) ?_
    refine lv_iconst (v := 0) hx hb dX3_gets_14 (by decide) ?_
    refine va_gets hx hb hZ hS hown (hT _ kf_X3_90) (fun _ h9 => h9) dX3_gets_15 ?_
    refine lv_iconst (v := 1) hx hb dX3_gets_18 (by decide) ?_
    refine va_ti hx hb hTt hS (v := .int 2) (vp_in_nI (n := 1) (by decide) (by decide)) rfl dX3_gets_19 ?_
    refine vp_callSi (rRS (As := [.int sp, .int 0, .int 2]) (rest := []) ⟨hx, hb, hml, hown, hT⟩ (c_X3_isOutside (l := l) sp 0 2) (cwTS 3 hT kc_X3_isOutside km_X3_35 kt_X3_isOutside kn_X3 rfl rfl md_X3_isOutside ⟨Nat.le_of_ble_eq_true rfl, Nat.le_of_ble_eq_true rfl⟩) nilP hK  rfl hl.1 rfl (Nat.le_of_ble_eq_true rfl) dX3_gets_20 ⟨Nat.le_of_ble_eq_true rfl, Nat.le_of_ble_eq_true rfl⟩) (fun r_20 hw_20 => ?_)
    rcases hw_20 with ⟨rfl, hw_20⟩ | ⟨rfl, hw_20⟩
    · refine lv_if_ne (tgt := 35) hx hb dX3_gets_23 (by decide) (fun c_23 => ?_) (fun h => absurd h (by decide))
      refine lv_ldc2 hx hb hown (hT _ kj_X3_96) dX3_gets_35 ?_
      refine W.widen (k := 8) (n := 21) (Nat.le_of_ble_eq_true rfl) (Nat.le_of_ble_eq_true rfl) ?_
      exact retN_l (post := fun r _ => (((mn < 0 ∨ 2 < mn) ∨ (sp < 0 ∨ 2 < sp) ∨ (wh < 0 ∨ 1 < wh)) ∧ r = (-9223372036854775808)) ∨ (¬ ((mn < 0 ∨ 2 < mn) ∨ (sp < 0 ∨ 2 < sp) ∨ (wh < 0 ∨ 1 < wh)) ∧ r = tellQ (o_du (x_E ln cw ic se we) (x_C ln cw ic we un sf mn ss) (x_dn cw ic we) ((x_op ic we ss).toInt) ((x_la ic we un ss bs).toInt) ((x_sh cw ic we un sp ss bs).toInt) + iQ (x_sumN (x_headsN ic un 6 &&& ss) sf 6).toInt) wh)) hx hb hr hlocks (by first | exact Or.inl ⟨Or.inl hw_7, rfl⟩ | exact Or.inl ⟨Or.inr (Or.inl hw_20), rfl⟩ | exact Or.inl ⟨Or.inr (Or.inr hw_29), rfl⟩ | exact Or.inr ⟨fun h => by rcases h with h | h | h; exact hw_7 h; exact hw_20 h; exact hw_29 h, rfl⟩) hS dX3_gets_38
    · refine lv_if_ne (tgt := 35) hx hb dX3_gets_23 (by decide) (fun h => absurd h (by decide)) (fun c_23 => ?_)
      refine lv_iload_n hx hb dX3_gets_26 rfl (lv_at hl 3 rfl) ?_
      refine lv_iconst (v := 0) hx hb dX3_gets_27 (by decide) ?_
      refine lv_iconst (v := 1) hx hb dX3_gets_28 (by decide) ?_
      refine vp_callSi (rRS (As := [.int wh, .int 0, .int 1]) (rest := []) ⟨hx, hb, hml, hown, hT⟩ (c_X3_isOutside (l := l) wh 0 1) (cwTS 3 hT kc_X3_isOutside km_X3_35 kt_X3_isOutside kn_X3 rfl rfl md_X3_isOutside ⟨Nat.le_of_ble_eq_true rfl, Nat.le_of_ble_eq_true rfl⟩) nilP hK  rfl hl.1 rfl (Nat.le_of_ble_eq_true rfl) dX3_gets_29 ⟨Nat.le_of_ble_eq_true rfl, Nat.le_of_ble_eq_true rfl⟩) (fun r_29 hw_29 => ?_)
      rcases hw_29 with ⟨rfl, hw_29⟩ | ⟨rfl, hw_29⟩
      · refine lv_if_eq (tgt := 39) hx hb dX3_gets_32 (by decide) (fun h => absurd h (by decide)) (fun c_32 => ?_)
        refine lv_ldc2 hx hb hown (hT _ kj_X3_96) dX3_gets_35 ?_
        refine W.widen (k := 8) (n := 21) (Nat.le_of_ble_eq_true rfl) (Nat.le_of_ble_eq_true rfl) ?_
        exact retN_l (post := fun r _ => (((mn < 0 ∨ 2 < mn) ∨ (sp < 0 ∨ 2 < sp) ∨ (wh < 0 ∨ 1 < wh)) ∧ r = (-9223372036854775808)) ∨ (¬ ((mn < 0 ∨ 2 < mn) ∨ (sp < 0 ∨ 2 < sp) ∨ (wh < 0 ∨ 1 < wh)) ∧ r = tellQ (o_du (x_E ln cw ic se we) (x_C ln cw ic we un sf mn ss) (x_dn cw ic we) ((x_op ic we ss).toInt) ((x_la ic we un ss bs).toInt) ((x_sh cw ic we un sp ss bs).toInt) + iQ (x_sumN (x_headsN ic un 6 &&& ss) sf 6).toInt) wh)) hx hb hr hlocks (by first | exact Or.inl ⟨Or.inl hw_7, rfl⟩ | exact Or.inl ⟨Or.inr (Or.inl hw_20), rfl⟩ | exact Or.inl ⟨Or.inr (Or.inr hw_29), rfl⟩ | exact Or.inr ⟨fun h => by rcases h with h | h | h; exact hw_7 h; exact hw_20 h; exact hw_29 h, rfl⟩) hS dX3_gets_38
      · refine lv_if_eq (tgt := 39) hx hb dX3_gets_32 (by decide) (fun c_32 => ?_) (fun h => absurd h (by decide))
        refine lv_aload_n hx hb dX3_gets_39 rfl (lv_at hl 0 rfl) ?_
        refine lv_iload_n hx hb dX3_gets_40 rfl (lv_at hl 1 rfl) ?_
        refine lv_iload_n hx hb dX3_gets_41 rfl (lv_at hl 2 rfl) ?_
        refine fN_r (rNV (As := [.int mn, .int sp]) (rest := []) ⟨hx, hb, hml, hown, hT⟩ (c_X3_gotBy (l := l) s.heap.size mn sp (hok mn sp) hs) (cwTV 2 hT kc_X3_gotBy km_X3_152 ki_X3_gotBy ks_X3_gotBy kn_X3 rfl rfl md_X3_gotBy ⟨Nat.le_of_ble_eq_true rfl, Nat.le_of_ble_eq_true rfl⟩) (keepP hP0 hS) hK (va_recv hK (keepP hP0 hS) (ci := 3) (q0 := 0) rfl rfl) rfl hl.1 rfl (Nat.le_of_ble_eq_true rfl) dX3_gets_42 ⟨Nat.le_of_ble_eq_true rfl, Nat.le_of_ble_eq_true rfl⟩) hP hD hS hA (fun u_42 b_42 H locs hw_42 hP hD hS => ?_)
        have hP : va_P (dC, dI) vwCl (shQ  b_42 (o_du (x_E ln cw ic se we) (x_C ln cw ic we un sf mn ss) (x_dn cw ic we) ((x_op ic we ss).toInt) ((x_la ic we un ss bs).toInt) ((x_sh cw ic we un sp ss bs).toInt) + iQ (x_sumN (x_headsN ic un 6 &&& ss) sf 6).toInt)) H := hP
        have hD : va_D (fun q : Nat => s.heap.size ≤ q) (shQ  b_42 (o_du (x_E ln cw ic se we) (x_C ln cw ic we un sf mn ss) (x_dn cw ic we) ((x_op ic we ss).toInt) ((x_la ic we un ss bs).toInt) ((x_sh cw ic we un sp ss bs).toInt) + iQ (x_sumN (x_headsN ic un 6 &&& ss) sf 6).toInt)) := hD
        refine lv_iload_n hx hb dX3_gets_45 rfl (lv_at hl 3 rfl) ?_
        refine vp_callSl (rRV (As := [.int wh]) (rest := []) ⟨hx, hb, hml, hown, hT⟩ (c_X2_told (l := l) wh) (cwTV 1 hT kc_X2_told km_X3_108 ki_X2_told ks_X2_told kn_X2 rfl rfl md_X2_told ⟨Nat.le_of_ble_eq_true rfl, Nat.le_of_ble_eq_true rfl⟩) hP hK (va_recv hK hP (ci := 2) (q0 := 0) rfl rfl) rfl hl.1 rfl (Nat.le_of_ble_eq_true rfl) dX3_gets_46 ⟨Nat.le_of_ble_eq_true rfl, Nat.le_of_ble_eq_true rfl⟩) (fun r_46 hw_46 => ?_)
        subst hw_46
        exact retN_l (post := fun r _ => (((mn < 0 ∨ 2 < mn) ∨ (sp < 0 ∨ 2 < sp) ∨ (wh < 0 ∨ 1 < wh)) ∧ r = (-9223372036854775808)) ∨ (¬ ((mn < 0 ∨ 2 < mn) ∨ (sp < 0 ∨ 2 < sp) ∨ (wh < 0 ∨ 1 < wh)) ∧ r = tellQ (o_du (x_E ln cw ic se we) (x_C ln cw ic we un sf mn ss) (x_dn cw ic we) ((x_op ic we ss).toInt) ((x_la ic we un ss bs).toInt) ((x_sh cw ic we un sp ss bs).toInt) + iQ (x_sumN (x_headsN ic un 6 &&& ss) sf 6).toInt) wh)) hx hb hr hlocks (by first | exact Or.inl ⟨Or.inl hw_7, rfl⟩ | exact Or.inl ⟨Or.inr (Or.inl hw_20), rfl⟩ | exact Or.inl ⟨Or.inr (Or.inr hw_29), rfl⟩ | exact Or.inr ⟨fun h => by rcases h with h | h | h; exact hw_7 h; exact hw_20 h; exact hw_29 h, rfl⟩) hS dX3_gets_49
