variable {l : Launch} {dC : Nat → ClassId} {dI : Nat → Nat → Nat} {cI cJ cZ : ClassId}
variable {q : Nat → Nat} {ln cw ic bs ss : Int32} {se we un sf pa : Nat → Int32}
variable {ct : Int32} {ov gf : Nat → Int64} {gi ta : Nat → Int32}
variable {k : Nat → Nat} {up lo : Int64} {cn tm : Int32} {isI br ma : Nat → Int32} {aU aL uU uL oU oL gU gL : Nat → Int64}

theorem pw_k {E C dn op la sh : Int} (h : o_ok E C dn op la sh) {k : Int} (h0 : 0 ≤ k) (h1 : k ≤ 600) : rng ((o_pw E C dn op la sh).num * k) := by
  have hp := o_pw_bd h
  have := Nat.mul_le_mul hp.1 (show k.natAbs ≤ 600 by omega)
  rw [← Int.natAbs_mul] at this
  unfold rng; omega
theorem mulI_le (r : Rat) (k : Int) : (r * iQ k).num.natAbs ≤ (r.num * k).natAbs ∧ ((r * iQ k).den : Int) ≤ r.den := by
  rw [← t_mul r k]
  have h := r.den_pos
  have := dq_le (r.num * k) r.den (by omega)
  refine ⟨this.1, ?_⟩
  have h2 : (0 : Int) < r.den := by omega
  rw [rq_den _ _ h2, Int.tdiv_eq_ediv_of_nonneg (by omega)]
  exact Int.ediv_le_self _ (by omega)
def x_oweN (ic bs ss : Int32) (we un : Nat → Int32) : Nat → Int32
  | 0 => 0
  | i + 1 => if bt ic i = true then (if x_bears bs ss we un i ≤ 0 then x_oweN ic bs ss we un i else x_oweN ic bs ss we un i ||| x_bit i) else x_oweN ic bs ss we un i
theorem kn_at {i : Nat} (hi : i < 6) {P : Nat → Prop} (h : ∃ j, j < 6 ∧ nI i = nI j ∧ P j) : P i := by
  obtain ⟨j, h1, h2, h3⟩ := h
  have := (nI_eq (by omega) (by omega)).mp h2
  subst this
  exact h3
/-- two that are missed, on one lower number -/
def o_D2 (dn op sh sh2 : Int) : Nat := o_D dn op sh * (if sh2 = 0 then 1 else sh2).natAbs
theorem o_mi_bd {E C dn op la sh : Int} (h : o_ok E C dn op la sh) : bd (o_mi E C dn op la sh) (o_D dn op sh) 2000000 := bd_sub (o_re_bd h) (o_du_bd h)
theorem o_D2_bd {E C dn op la sh E2 C2 la2 sh2 : Int} (h : o_ok E C dn op la sh) (h2 : o_ok E2 C2 dn op la2 sh2) : 0 < o_D2 dn op sh sh2 ∧ o_D2 dn op sh sh2 ≤ 205800000000 ∧ o_D dn op sh ∣ o_D2 dn op sh sh2 ∧ o_D dn op sh2 ∣ o_D2 dn op sh sh2 := by
  have hd := o_D_bd h
  obtain ⟨-, -, -, -, -, -, -, -, -, h10, h11, -⟩ := h2
  have e2 : 1 ≤ (if sh2 = 0 then 1 else sh2).natAbs ∧ (if sh2 = 0 then 1 else sh2).natAbs ≤ 700 := by split <;> omega
  refine ⟨?_, ?_, ?_, ?_⟩
  · exact Nat.mul_pos hd.1 (by omega)
  · exact Nat.mul_le_mul hd.2.1 e2.2
  · exact Nat.dvd_mul_right _ _
  · unfold o_D2 o_D
    rw [Int.natAbs_mul (dn * _), Int.natAbs_mul (dn * _), Nat.mul_right_comm]
    exact Nat.dvd_mul_right _ _

theorem fd_bd {E C dn op la sh : Int} (h : o_ok E C dn op la sh) : 0 ≤ o_fd E C dn op la sh ∧ o_fd E C dn op la sh < 2 ^ 48 := by
  obtain ⟨-, -, -, -, h5, h6, h7, h8, h9, h10, h11, h12⟩ := h
  unfold o_fd
  split <;> omega
set_option maxHeartbeats 4000000 in
set_option maxRecDepth 100000 in
theorem c_X3_amount (sz : Nat) (x wh : Int32) (hok : x_ok ln cw ic se we un sf (se 0) (se 1) ss bs) : Met l yX3_amount (wT yX3_amount cX3_amount 3 (some .long)) ({ frames := 7, cells := 7, slots := 19, locals := 167 }) (pN (dC, dI) (ty3 cI cJ cZ) (xW cI q ln cw ic bs ss se we un sf pa) [.ref (q 0), .int x, .int wh] sz) (va_Ql (S := Unit) (fun r _ => ((wh < 0 ∨ 1 < wh) ∧ r = (-9223372036854775808)) ∨ (¬ (wh < 0 ∨ 1 < wh) ∧ ((x = 0 ∧ r = tellQ (Rat.divInt (x_E ln cw ic se we) (x_dn cw ic we)) wh) ∨ (x = 1 ∧ r = tellQ (Rat.divInt (x_C ln cw ic we un sf (se 0) ss) (x_dn cw ic we)) wh) ∨ (x = 2 ∧ r = tellQ (o_re (x_E ln cw ic se we) (x_C ln cw ic we un sf (se 0) ss) (x_dn cw ic we)) wh) ∨ (x = 3 ∧ r = tellQ (o_mi (x_E ln cw ic se we) (x_C ln cw ic we un sf (se 0) ss) (x_dn cw ic we) ((x_op ic we ss).toInt) ((x_la ic we un ss bs).toInt) ((x_sh cw ic we un (se 1) ss bs).toInt)) wh) ∨ (x = 4 ∧ r = tellQ (o_du (x_E ln cw ic se we) (x_C ln cw ic we un sf (se 0) ss) (x_dn cw ic we) ((x_op ic we ss).toInt) ((x_la ic we un ss bs).toInt) ((x_sh cw ic we un (se 1) ss bs).toInt)) wh) ∨ ((x.toInt < 0 ∨ 4 < x.toInt) ∧ r = (-9223372036854775808))))) (fun _ _ => True) (fun q : Nat => sz ≤ q)) 7 19 (fun q : Nat => sz ≤ q) := by
  refine Met.ofW (cc := cX3_amount) (maxL := 3) (ret := (some .long)) (by decide) rfl ?_
  intro p e s m args below meth c s₁ B hml hv
  obtain ⟨rfl, hsz, hP0, hK⟩ := hv
  have hx := B.exec
  have hb := B.bytes
  have hr := B.returns
  have hts := atoms_spec (ws := wT yX3_amount cX3_amount 3 (some .long)) B.pre
  have hT := wT_T hts
  have hown : s.vm.findClass RX3 = some m.cls := findClass_of_methodNamed B.named
  have hlocks := B.notSynchronized
  subst hsz
  have hA : ∀ q : Nat, s.heap.size ≤ q → (fun q : Nat => s.heap.size ≤ q) q := fun q h => h
  have hS : va_S (fun q : Nat => s.heap.size ≤ q) s.heap s.heap [] := va_S.rf
  have hP : va_P (dC, dI) vwCl [] s.heap := nilP
  have hD : va_D (fun q : Nat => s.heap.size ≤ q) [] := nilD
  have hl := lv_entry ([.ref (q 0), .int x, .int wh]) (n := 3) (Nat.le_of_ble_eq_true rfl)
  rw [lg_entry_eq]
  generalize (lg_sl ([.ref (q 0), .int x, .int wh]) ++ List.replicate (3 - (lg_sl ([.ref (q 0), .int x, .int wh])).length) Slot.unset).toArray = ls at hl ⊢
  have hl : lv_has ls 3 [(0, .ref (q 0)), (1, .int x), (2, .int wh)] := hl
  refine lv_iload_n hx hb dX3_amount_0 rfl (lv_at hl 2 rfl) ?_
  refine lv_iconst (v := 0) hx hb dX3_amount_1 (by decide) ?_
  refine lv_iconst (v := 1) hx hb dX3_amount_2 (by decide) ?_
  refine vp_callSi (rRS (As := [.int wh, .int 0, .int 1]) (rest := []) ⟨hx, hb, hml, hown, hT⟩ (c_X3_isOutside (l := l) wh 0 1) (cwTS 3 hT kc_X3_isOutside km_X3_35 kt_X3_isOutside kn_X3 rfl rfl md_X3_isOutside ⟨Nat.le_of_ble_eq_true rfl, Nat.le_of_ble_eq_true rfl⟩) nilP hK  rfl hl.1 rfl (Nat.le_of_ble_eq_true rfl) dX3_amount_3 ⟨Nat.le_of_ble_eq_true rfl, Nat.le_of_ble_eq_true rfl⟩) (fun r_3 hw_3 => ?_)
  rcases hw_3 with ⟨rfl, hw_3⟩ | ⟨rfl, hw_3⟩
  · refine lv_if_eq (tgt := 13) hx hb dX3_amount_6 (by decide) (fun h => absurd h (by decide)) (fun c_6 => ?_)
    refine lv_ldc2 hx hb hown (hT _ kj_X3_96) dX3_amount_9 ?_
    refine W.widen (k := 7) (n := 19) (Nat.le_of_ble_eq_true rfl) (Nat.le_of_ble_eq_true rfl) ?_
    exact retN_l (post := fun r _ => ((wh < 0 ∨ 1 < wh) ∧ r = (-9223372036854775808)) ∨ (¬ (wh < 0 ∨ 1 < wh) ∧ ((x = 0 ∧ r = tellQ (Rat.divInt (x_E ln cw ic se we) (x_dn cw ic we)) wh) ∨ (x = 1 ∧ r = tellQ (Rat.divInt (x_C ln cw ic we un sf (se 0) ss) (x_dn cw ic we)) wh) ∨ (x = 2 ∧ r = tellQ (o_re (x_E ln cw ic se we) (x_C ln cw ic we un sf (se 0) ss) (x_dn cw ic we)) wh) ∨ (x = 3 ∧ r = tellQ (o_mi (x_E ln cw ic se we) (x_C ln cw ic we un sf (se 0) ss) (x_dn cw ic we) ((x_op ic we ss).toInt) ((x_la ic we un ss bs).toInt) ((x_sh cw ic we un (se 1) ss bs).toInt)) wh) ∨ (x = 4 ∧ r = tellQ (o_du (x_E ln cw ic se we) (x_C ln cw ic we un sf (se 0) ss) (x_dn cw ic we) ((x_op ic we ss).toInt) ((x_la ic we un ss bs).toInt) ((x_sh cw ic we un (se 1) ss bs).toInt)) wh) ∨ ((x.toInt < 0 ∨ 4 < x.toInt) ∧ r = (-9223372036854775808))))) hx hb hr hlocks (by first | exact Or.inl ⟨hw_3, rfl⟩ | (refine Or.inr ⟨hw_3, ?_⟩; first | exact Or.inl ⟨h_14, rfl⟩ | exact Or.inr (Or.inl ⟨h_14, rfl⟩) | exact Or.inr (Or.inr (Or.inl ⟨h_14, rfl⟩)) | exact Or.inr (Or.inr (Or.inr (Or.inl ⟨h_14, rfl⟩))) | exact Or.inr (Or.inr (Or.inr (Or.inr (Or.inl ⟨h_14, rfl⟩)))) | exact Or.inr (Or.inr (Or.inr (Or.inr (Or.inr ⟨h_14, rfl⟩)))))) hS dX3_amount_12
  · refine lv_if_eq (tgt := 13) hx hb dX3_amount_6 (by decide) (fun c_6 => ?_) (fun h => absurd h (by decide))
    refine lv_iload_n hx hb dX3_amount_13 rfl (lv_at hl 1 rfl) ?_
    rcases sw_4 x with h_14 | h_14 | h_14 | h_14 | h_14 | h_14
    · refine lv_tableOut (tgt := 108) hx hb dX3_amount_14 h_14 (by decide) ?_
      refine lv_ldc2 hx hb hown (hT _ kj_X3_96) dX3_amount_108 ?_
      refine W.widen (k := 7) (n := 19) (Nat.le_of_ble_eq_true rfl) (Nat.le_of_ble_eq_true rfl) ?_
      exact retN_l (post := fun r _ => ((wh < 0 ∨ 1 < wh) ∧ r = (-9223372036854775808)) ∨ (¬ (wh < 0 ∨ 1 < wh) ∧ ((x = 0 ∧ r = tellQ (Rat.divInt (x_E ln cw ic se we) (x_dn cw ic we)) wh) ∨ (x = 1 ∧ r = tellQ (Rat.divInt (x_C ln cw ic we un sf (se 0) ss) (x_dn cw ic we)) wh) ∨ (x = 2 ∧ r = tellQ (o_re (x_E ln cw ic se we) (x_C ln cw ic we un sf (se 0) ss) (x_dn cw ic we)) wh) ∨ (x = 3 ∧ r = tellQ (o_mi (x_E ln cw ic se we) (x_C ln cw ic we un sf (se 0) ss) (x_dn cw ic we) ((x_op ic we ss).toInt) ((x_la ic we un ss bs).toInt) ((x_sh cw ic we un (se 1) ss bs).toInt)) wh) ∨ (x = 4 ∧ r = tellQ (o_du (x_E ln cw ic se we) (x_C ln cw ic we un sf (se 0) ss) (x_dn cw ic we) ((x_op ic we ss).toInt) ((x_la ic we un ss bs).toInt) ((x_sh cw ic we un (se 1) ss bs).toInt)) wh) ∨ ((x.toInt < 0 ∨ 4 < x.toInt) ∧ r = (-9223372036854775808))))) hx hb hr hlocks (by first | exact Or.inl ⟨hw_3, rfl⟩ | (refine Or.inr ⟨hw_3, ?_⟩; first | exact Or.inl ⟨h_14, rfl⟩ | exact Or.inr (Or.inl ⟨h_14, rfl⟩) | exact Or.inr (Or.inr (Or.inl ⟨h_14, rfl⟩)) | exact Or.inr (Or.inr (Or.inr (Or.inl ⟨h_14, rfl⟩))) | exact Or.inr (Or.inr (Or.inr (Or.inr (Or.inl ⟨h_14, rfl⟩)))) | exact Or.inr (Or.inr (Or.inr (Or.inr (Or.inr ⟨h_14, rfl⟩)))))) hS dX3_amount_111
    · refine lv_tableIn (tgt := 48) (off := 34) hx hb dX3_amount_14 (by rw [h_14]; decide) (by rw [h_14]; decide) (by rw [h_14]; rfl) (by decide) ?_
      refine lv_aload_n hx hb dX3_amount_48 rfl (lv_at hl 0 rfl) ?_
      refine fN_r (rNV (As := []) (rest := []) ⟨hx, hb, hml, hown, hT⟩ (c_X3_owedNow (l := l) s.heap.size hok) (cwTV 0 hT kc_X3_owedNow km_X3_98 ki_X3_owedNow ks_X3_owedNow kn_X3 rfl rfl md_X3_owedNow ⟨Nat.le_of_ble_eq_true rfl, Nat.le_of_ble_eq_true rfl⟩) (keepP hP0 hS) hK (va_recv hK (keepP hP0 hS) (ci := 3) (q0 := 0) rfl rfl) rfl hl.1 rfl (Nat.le_of_ble_eq_true rfl) dX3_amount_49 ⟨Nat.le_of_ble_eq_true rfl, Nat.le_of_ble_eq_true rfl⟩) hP hD hS hA (fun u_49 b_49 H locs hw_49 hP hD hS => ?_)
      have hP : va_P (dC, dI) vwCl (oW  b_49 u_49 (x_E ln cw ic se we) (x_C ln cw ic we un sf (se 0) ss) (x_dn cw ic we) ((x_op ic we ss).toInt) ((x_la ic we un ss bs).toInt) ((x_sh cw ic we un (se 1) ss bs).toInt)) H := hP
      have hD : va_D (fun q : Nat => s.heap.size ≤ q) (oW  b_49 u_49 (x_E ln cw ic se we) (x_C ln cw ic we un sf (se 0) ss) (x_dn cw ic we) ((x_op ic we ss).toInt) ((x_la ic we un ss bs).toInt) ((x_sh cw ic we un (se 1) ss bs).toInt)) := hD
      refine va_get (D := (dC, dI)) (ci := 1) (v := .ref ((u_49).1)) (C := RX1) (T := TX1) (N := 7) hx hb hT hiX1 hown hK hP 0 rfl rfl 0 (by decide) (hT _ kf_X3_102) (fun _ h9 => h9) rfl dX3_amount_52 ?_
      refine lv_iload_n hx hb dX3_amount_55 rfl (lv_at hl 2 rfl) ?_
      refine vp_callSl (rRV (As := [.int wh]) (rest := []) ⟨hx, hb, hml, hown, hT⟩ (c_X2_told (l := l) wh) (cwTV 1 hT kc_X2_told km_X3_108 ki_X2_told ks_X2_told kn_X2 rfl rfl md_X2_told ⟨Nat.le_of_ble_eq_true rfl, Nat.le_of_ble_eq_true rfl⟩) (va_P.sub (ws' := shQ  ((u_49).1) (Rat.divInt (x_E ln cw ic se we) (x_dn cw ic we))) hP [1] rfl) hK (va_recv hK hP (ci := 2) (q0 := 1) rfl rfl) rfl hl.1 rfl (Nat.le_of_ble_eq_true rfl) dX3_amount_56 ⟨Nat.le_of_ble_eq_true rfl, Nat.le_of_ble_eq_true rfl⟩) (fun r_56 hw_56 => ?_)
      subst hw_56
      exact retN_l (post := fun r _ => ((wh < 0 ∨ 1 < wh) ∧ r = (-9223372036854775808)) ∨ (¬ (wh < 0 ∨ 1 < wh) ∧ ((x = 0 ∧ r = tellQ (Rat.divInt (x_E ln cw ic se we) (x_dn cw ic we)) wh) ∨ (x = 1 ∧ r = tellQ (Rat.divInt (x_C ln cw ic we un sf (se 0) ss) (x_dn cw ic we)) wh) ∨ (x = 2 ∧ r = tellQ (o_re (x_E ln cw ic se we) (x_C ln cw ic we un sf (se 0) ss) (x_dn cw ic we)) wh) ∨ (x = 3 ∧ r = tellQ (o_mi (x_E ln cw ic se we) (x_C ln cw ic we un sf (se 0) ss) (x_dn cw ic we) ((x_op ic we ss).toInt) ((x_la ic we un ss bs).toInt) ((x_sh cw ic we un (se 1) ss bs).toInt)) wh) ∨ (x = 4 ∧ r = tellQ (o_du (x_E ln cw ic se we) (x_C ln cw ic we un sf (se 0) ss) (x_dn cw ic we) ((x_op ic we ss).toInt) ((x_la ic we un ss bs).toInt) ((x_sh cw ic we un (se 1) ss bs).toInt)) wh) ∨ ((x.toInt < 0 ∨ 4 < x.toInt) ∧ r = (-9223372036854775808))))) hx hb hr hlocks (by first | exact Or.inl ⟨hw_3, rfl⟩ | (refine Or.inr ⟨hw_3, ?_⟩; first | exact Or.inl ⟨h_14, rfl⟩ | exact Or.inr (Or.inl ⟨h_14, rfl⟩) | exact Or.inr (Or.inr (Or.inl ⟨h_14, rfl⟩)) | exact Or.inr (Or.inr (Or.inr (Or.inl ⟨h_14, rfl⟩))) | exact Or.inr (Or.inr (Or.inr (Or.inr (Or.inl ⟨h_14, rfl⟩)))) | exact Or.inr (Or.inr (Or.inr (Or.inr (Or.inr ⟨h_14, rfl⟩)))))) hS dX3_amount_59
    · refine lv_tableIn (tgt := 60) (off := 46) hx hb dX3_amount_14 (by rw [h_14]; decide) (by rw [h_14]; decide) (by rw [h_14]; rfl) (by decide) ?_
      refine lv_aload_n hx hb dX3_amount_60 rfl (lv_at hl 0 rfl) ?_
      refine fN_r (rNV (As := []) (rest := []) ⟨hx, hb, hml, hown, hT⟩ (c_X3_owedNow (l := l) s.heap.size hok) (cwTV 0 hT kc_X3_owedNow km_X3_98 ki_X3_owedNow ks_X3_owedNow kn_X3 rfl rfl md_X3_owedNow ⟨Nat.le_of_ble_eq_true rfl, Nat.le_of_ble_eq_true rfl⟩) (keepP hP0 hS) hK (va_recv hK (keepP hP0 hS) (ci := 3) (q0 := 0) rfl rfl) rfl hl.1 rfl (Nat.le_of_ble_eq_true rfl) dX3_amount_61 ⟨Nat.le_of_ble_eq_true rfl, Nat.le_of_ble_eq_true rfl⟩) hP hD hS hA (fun u_61 b_61 H locs hw_61 hP hD hS => ?_)
      have hP : va_P (dC, dI) vwCl (oW  b_61 u_61 (x_E ln cw ic se we) (x_C ln cw ic we un sf (se 0) ss) (x_dn cw ic we) ((x_op ic we ss).toInt) ((x_la ic we un ss bs).toInt) ((x_sh cw ic we un (se 1) ss bs).toInt)) H := hP
      have hD : va_D (fun q : Nat => s.heap.size ≤ q) (oW  b_61 u_61 (x_E ln cw ic se we) (x_C ln cw ic we un sf (se 0) ss) (x_dn cw ic we) ((x_op ic we ss).toInt) ((x_la ic we un ss bs).toInt) ((x_sh cw ic we un (se 1) ss bs).toInt)) := hD
      refine va_get (D := (dC, dI)) (ci := 1) (v := .ref ((u_61).2.1)) (C := RX1) (T := TX1) (N := 7) hx hb hT hiX1 hown hK hP 0 rfl rfl 1 (by decide) (hT _ kf_X3_114) (fun _ h9 => h9) rfl dX3_amount_64 ?_
      refine lv_iload_n hx hb dX3_amount_67 rfl (lv_at hl 2 rfl) ?_
      refine vp_callSl (rRV (As := [.int wh]) (rest := []) ⟨hx, hb, hml, hown, hT⟩ (c_X2_told (l := l) wh) (cwTV 1 hT kc_X2_told km_X3_108 ki_X2_told ks_X2_told kn_X2 rfl rfl md_X2_told ⟨Nat.le_of_ble_eq_true rfl, Nat.le_of_ble_eq_true rfl⟩) (va_P.sub (ws' := shQ  ((u_61).2.1) (Rat.divInt (x_C ln cw ic we un sf (se 0) ss) (x_dn cw ic we))) hP [2] rfl) hK (va_recv hK hP (ci := 2) (q0 := 2) rfl rfl) rfl hl.1 rfl (Nat.le_of_ble_eq_true rfl) dX3_amount_68 ⟨Nat.le_of_ble_eq_true rfl, Nat.le_of_ble_eq_true rfl⟩) (fun r_68 hw_68 => ?_)
      subst hw_68
      exact retN_l (post := fun r _ => ((wh < 0 ∨ 1 < wh) ∧ r = (-9223372036854775808)) ∨ (¬ (wh < 0 ∨ 1 < wh) ∧ ((x = 0 ∧ r = tellQ (Rat.divInt (x_E ln cw ic se we) (x_dn cw ic we)) wh) ∨ (x = 1 ∧ r = tellQ (Rat.divInt (x_C ln cw ic we un sf (se 0) ss) (x_dn cw ic we)) wh) ∨ (x = 2 ∧ r = tellQ (o_re (x_E ln cw ic se we) (x_C ln cw ic we un sf (se 0) ss) (x_dn cw ic we)) wh) ∨ (x = 3 ∧ r = tellQ (o_mi (x_E ln cw ic se we) (x_C ln cw ic we un sf (se 0) ss) (x_dn cw ic we) ((x_op ic we ss).toInt) ((x_la ic we un ss bs).toInt) ((x_sh cw ic we un (se 1) ss bs).toInt)) wh) ∨ (x = 4 ∧ r = tellQ (o_du (x_E ln cw ic se we) (x_C ln cw ic we un sf (se 0) ss) (x_dn cw ic we) ((x_op ic we ss).toInt) ((x_la ic we un ss bs).toInt) ((x_sh cw ic we un (se 1) ss bs).toInt)) wh) ∨ ((x.toInt < 0 ∨ 4 < x.toInt) ∧ r = (-9223372036854775808))))) hx hb hr hlocks (by first | exact Or.inl ⟨hw_3, rfl⟩ | (refine Or.inr ⟨hw_3, ?_⟩; first | exact Or.inl ⟨h_14, rfl⟩ | exact Or.inr (Or.inl ⟨h_14, rfl⟩) | exact Or.inr (Or.inr (Or.inl ⟨h_14, rfl⟩)) | exact Or.inr (Or.inr (Or.inr (Or.inl ⟨h_14, rfl⟩))) | exact Or.inr (Or.inr (Or.inr (Or.inr (Or.inl ⟨h_14, rfl⟩)))) | exact Or.inr (Or.inr (Or.inr (Or.inr (Or.inr ⟨h_14, rfl⟩)))))) hS dX3_amount_71
    · refine lv_tableIn (tgt := 72) (off := 58) hx hb dX3_amount_14 (by rw [h_14]; decide) (by rw [h_14]; decide) (by rw [h_14]; rfl) (by decide) ?_
      refine lv_aload_n hx hb dX3_amount_72 rfl (lv_at hl 0 rfl) ?_
      refine fN_r (rNV (As := []) (rest := []) ⟨hx, hb, hml, hown, hT⟩ (c_X3_owedNow (l := l) s.heap.size hok) (cwTV 0 hT kc_X3_owedNow km_X3_98 ki_X3_owedNow ks_X3_owedNow kn_X3 rfl rfl md_X3_owedNow ⟨Nat.le_of_ble_eq_true rfl, Nat.le_of_ble_eq_true rfl⟩) (keepP hP0 hS) hK (va_recv hK (keepP hP0 hS) (ci := 3) (q0 := 0) rfl rfl) rfl hl.1 rfl (Nat.le_of_ble_eq_true rfl) dX3_amount_73 ⟨Nat.le_of_ble_eq_true rfl, Nat.le_of_ble_eq_true rfl⟩) hP hD hS hA (fun u_73 b_73 H locs hw_73 hP hD hS => ?_)
      have hP : va_P (dC, dI) vwCl (oW  b_73 u_73 (x_E ln cw ic se we) (x_C ln cw ic we un sf (se 0) ss) (x_dn cw ic we) ((x_op ic we ss).toInt) ((x_la ic we un ss bs).toInt) ((x_sh cw ic we un (se 1) ss bs).toInt)) H := hP
      have hD : va_D (fun q : Nat => s.heap.size ≤ q) (oW  b_73 u_73 (x_E ln cw ic se we) (x_C ln cw ic we un sf (se 0) ss) (x_dn cw ic we) ((x_op ic we ss).toInt) ((x_la ic we un ss bs).toInt) ((x_sh cw ic we un (se 1) ss bs).toInt)) := hD
      refine va_get (D := (dC, dI)) (ci := 1) (v := .ref ((u_73).2.2.1)) (C := RX1) (T := TX1) (N := 7) hx hb hT hiX1 hown hK hP 0 rfl rfl 2 (by decide) (hT _ kf_X3_117) (fun _ h9 => h9) rfl dX3_amount_76 ?_
      refine lv_iload_n hx hb dX3_amount_79 rfl (lv_at hl 2 rfl) ?_
      refine vp_callSl (rRV (As := [.int wh]) (rest := []) ⟨hx, hb, hml, hown, hT⟩ (c_X2_told (l := l) wh) (cwTV 1 hT kc_X2_told km_X3_108 ki_X2_told ks_X2_told kn_X2 rfl rfl md_X2_told ⟨Nat.le_of_ble_eq_true rfl, Nat.le_of_ble_eq_true rfl⟩) (va_P.sub (ws' := shQ  ((u_73).2.2.1) (o_re (x_E ln cw ic se we) (x_C ln cw ic we un sf (se 0) ss) (x_dn cw ic we))) hP [3] rfl) hK (va_recv hK hP (ci := 2) (q0 := 3) rfl rfl) rfl hl.1 rfl (Nat.le_of_ble_eq_true rfl) dX3_amount_80 ⟨Nat.le_of_ble_eq_true rfl, Nat.le_of_ble_eq_true rfl⟩) (fun r_80 hw_80 => ?_)
      subst hw_80
      exact retN_l (post := fun r _ => ((wh < 0 ∨ 1 < wh) ∧ r = (-9223372036854775808)) ∨ (¬ (wh < 0 ∨ 1 < wh) ∧ ((x = 0 ∧ r = tellQ (Rat.divInt (x_E ln cw ic se we) (x_dn cw ic we)) wh) ∨ (x = 1 ∧ r = tellQ (Rat.divInt (x_C ln cw ic we un sf (se 0) ss) (x_dn cw ic we)) wh) ∨ (x = 2 ∧ r = tellQ (o_re (x_E ln cw ic se we) (x_C ln cw ic we un sf (se 0) ss) (x_dn cw ic we)) wh) ∨ (x = 3 ∧ r = tellQ (o_mi (x_E ln cw ic se we) (x_C ln cw ic we un sf (se 0) ss) (x_dn cw ic we) ((x_op ic we ss).toInt) ((x_la ic we un ss bs).toInt) ((x_sh cw ic we un (se 1) ss bs).toInt)) wh) ∨ (x = 4 ∧ r = tellQ (o_du (x_E ln cw ic se we) (x_C ln cw ic we un sf (se 0) ss) (x_dn cw ic we) ((x_op ic we ss).toInt) ((x_la ic we un ss bs).toInt) ((x_sh cw ic we un (se 1) ss bs).toInt)) wh) ∨ ((x.toInt < 0 ∨ 4 < x.toInt) ∧ r = (-9223372036854775808))))) hx hb hr hlocks (by first | exact Or.inl ⟨hw_3, rfl⟩ | (refine Or.inr ⟨hw_3, ?_⟩; first | exact Or.inl ⟨h_14, rfl⟩ | exact Or.inr (Or.inl ⟨h_14, rfl⟩) | exact Or.inr (Or.inr (Or.inl ⟨h_14, rfl⟩)) | exact Or.inr (Or.inr (Or.inr (Or.inl ⟨h_14, rfl⟩))) | exact Or.inr (Or.inr (Or.inr (Or.inr (Or.inl ⟨h_14, rfl⟩)))) | exact Or.inr (Or.inr (Or.inr (Or.inr (Or.inr ⟨h_14, rfl⟩)))))) hS dX3_amount_83
    · refine lv_tableIn (tgt := 84) (off := 70) hx hb dX3_amount_14 (by rw [h_14]; decide) (by rw [h_14]; decide) (by rw [h_14]; rfl) (by decide) ?_
      refine lv_aload_n hx hb dX3_amount_84 rfl (lv_at hl 0 rfl) ?_
      refine fN_r (rNV (As := []) (rest := []) ⟨hx, hb, hml, hown, hT⟩ (c_X3_owedNow (l := l) s.heap.size hok) (cwTV 0 hT kc_X3_owedNow km_X3_98 ki_X3_owedNow ks_X3_owedNow kn_X3 rfl rfl md_X3_owedNow ⟨Nat.le_of_ble_eq_true rfl, Nat.le_of_ble_eq_true rfl⟩) (keepP hP0 hS) hK (va_recv hK (keepP hP0 hS) (ci := 3) (q0 := 0) rfl rfl) rfl hl.1 rfl (Nat.le_of_ble_eq_true rfl) dX3_amount_85 ⟨Nat.le_of_ble_eq_true rfl, Nat.le_of_ble_eq_true rfl⟩) hP hD hS hA (fun u_85 b_85 H locs hw_85 hP hD hS => ?_)
      have hP : va_P (dC, dI) vwCl (oW  b_85 u_85 (x_E ln cw ic se we) (x_C ln cw ic we un sf (se 0) ss) (x_dn cw ic we) ((x_op ic we ss).toInt) ((x_la ic we un ss bs).toInt) ((x_sh cw ic we un (se 1) ss bs).toInt)) H := hP
      have hD : va_D (fun q : Nat => s.heap.size ≤ q) (oW  b_85 u_85 (x_E ln cw ic se we) (x_C ln cw ic we un sf (se 0) ss) (x_dn cw ic we) ((x_op ic we ss).toInt) ((x_la ic we un ss bs).toInt) ((x_sh cw ic we un (se 1) ss bs).toInt)) := hD
      refine va_get (D := (dC, dI)) (ci := 1) (v := .ref ((u_85).2.2.2.2.2)) (C := RX1) (T := TX1) (N := 7) hx hb hT hiX1 hown hK hP 0 rfl rfl 5 (by decide) (hT _ kf_X3_120) (fun _ h9 => h9) rfl dX3_amount_88 ?_
      refine lv_iload_n hx hb dX3_amount_91 rfl (lv_at hl 2 rfl) ?_
      refine vp_callSl (rRV (As := [.int wh]) (rest := []) ⟨hx, hb, hml, hown, hT⟩ (c_X2_told (l := l) wh) (cwTV 1 hT kc_X2_told km_X3_108 ki_X2_told ks_X2_told kn_X2 rfl rfl md_X2_told ⟨Nat.le_of_ble_eq_true rfl, Nat.le_of_ble_eq_true rfl⟩) (va_P.sub (ws' := shQ  ((u_85).2.2.2.2.2) (o_mi (x_E ln cw ic se we) (x_C ln cw ic we un sf (se 0) ss) (x_dn cw ic we) ((x_op ic we ss).toInt) ((x_la ic we un ss bs).toInt) ((x_sh cw ic we un (se 1) ss bs).toInt))) hP [6] rfl) hK (va_recv hK hP (ci := 2) (q0 := 6) rfl rfl) rfl hl.1 rfl (Nat.le_of_ble_eq_true rfl) dX3_amount_92 ⟨Nat.le_of_ble_eq_true rfl, Nat.le_of_ble_eq_true rfl⟩) (fun r_92 hw_92 => ?_)
      subst hw_92
      exact retN_l (post := fun r _ => ((wh < 0 ∨ 1 < wh) ∧ r = (-9223372036854775808)) ∨ (¬ (wh < 0 ∨ 1 < wh) ∧ ((x = 0 ∧ r = tellQ (Rat.divInt (x_E ln cw ic se we) (x_dn cw ic we)) wh) ∨ (x = 1 ∧ r = tellQ (Rat.divInt (x_C ln cw ic we un sf (se 0) ss) (x_dn cw ic we)) wh) ∨ (x = 2 ∧ r = tellQ (o_re (x_E ln cw ic se we) (x_C ln cw ic we un sf (se 0) ss) (x_dn cw ic we)) wh) ∨ (x = 3 ∧ r = tellQ (o_mi (x_E ln cw ic se we) (x_C ln cw ic we un sf (se 0) ss) (x_dn cw ic we) ((x_op ic we ss).toInt) ((x_la ic we un ss bs).toInt) ((x_sh cw ic we un (se 1) ss bs).toInt)) wh) ∨ (x = 4 ∧ r = tellQ (o_du (x_E ln cw ic se we) (x_C ln cw ic we un sf (se 0) ss) (x_dn cw ic we) ((x_op ic we ss).toInt) ((x_la ic we un ss bs).toInt) ((x_sh cw ic we un (se 1) ss bs).toInt)) wh) ∨ ((x.toInt < 0 ∨ 4 < x.toInt) ∧ r = (-9223372036854775808))))) hx hb hr hlocks (by first | exact Or.inl ⟨hw_3, rfl⟩ | (refine Or.inr ⟨hw_3, ?_⟩; first | exact Or.inl ⟨h_14, rfl⟩ | exact Or.inr (Or.inl ⟨h_14, rfl⟩) | exact Or.inr (Or.inr (Or.inl ⟨h_14, rfl⟩)) | exact Or.inr (Or.inr (Or.inr (Or.inl ⟨h_14, rfl⟩))) | exact Or.inr (Or.inr (Or.inr (Or.inr (Or.inl ⟨h_14, rfl⟩)))) | exact Or.inr (Or.inr (Or.inr (Or.inr (Or.inr ⟨h_14, rfl⟩)))))) hS dX3_amount_95
    · refine lv_tableIn (tgt := 96) (off := 82) hx hb dX3_amount_14 (by rw [h_14]; decide) (by rw [h_14]; decide) (by rw [h_14]; rfl) (by decide) ?_
      refine lv_aload_n hx hb dX3_amount_96 rfl (lv_at hl 0 rfl) ?_
      refine fN_r (rNV (As := []) (rest := []) ⟨hx, hb, hml, hown, hT⟩ (c_X3_owedNow (l := l) s.heap.size hok) (cwTV 0 hT kc_X3_owedNow km_X3_98 ki_X3_owedNow ks_X3_owedNow kn_X3 rfl rfl md_X3_owedNow ⟨Nat.le_of_ble_eq_true rfl, Nat.le_of_ble_eq_true rfl⟩) (keepP hP0 hS) hK (va_recv hK (keepP hP0 hS) (ci := 3) (q0 := 0) rfl rfl) rfl hl.1 rfl (Nat.le_of_ble_eq_true rfl) dX3_amount_97 ⟨Nat.le_of_ble_eq_true rfl, Nat.le_of_ble_eq_true rfl⟩) hP hD hS hA (fun u_97 b_97 H locs hw_97 hP hD hS => ?_)
      have hP : va_P (dC, dI) vwCl (oW  b_97 u_97 (x_E ln cw ic se we) (x_C ln cw ic we un sf (se 0) ss) (x_dn cw ic we) ((x_op ic we ss).toInt) ((x_la ic we un ss bs).toInt) ((x_sh cw ic we un (se 1) ss bs).toInt)) H := hP
      have hD : va_D (fun q : Nat => s.heap.size ≤ q) (oW  b_97 u_97 (x_E ln cw ic se we) (x_C ln cw ic we un sf (se 0) ss) (x_dn cw ic we) ((x_op ic we ss).toInt) ((x_la ic we un ss bs).toInt) ((x_sh cw ic we un (se 1) ss bs).toInt)) := hD
      refine va_get (D := (dC, dI)) (ci := 1) (v := .ref ((u_97).2.2.2.2.1)) (C := RX1) (T := TX1) (N := 7) hx hb hT hiX1 hown hK hP 0 rfl rfl 4 (by decide) (hT _ kf_X3_123) (fun _ h9 => h9) rfl dX3_amount_100 ?_
      refine lv_iload_n hx hb dX3_amount_103 rfl (lv_at hl 2 rfl) ?_
      refine vp_callSl (rRV (As := [.int wh]) (rest := []) ⟨hx, hb, hml, hown, hT⟩ (c_X2_told (l := l) wh) (cwTV 1 hT kc_X2_told km_X3_108 ki_X2_told ks_X2_told kn_X2 rfl rfl md_X2_told ⟨Nat.le_of_ble_eq_true rfl, Nat.le_of_ble_eq_true rfl⟩) (va_P.sub (ws' := shQ  ((u_97).2.2.2.2.1) (o_du (x_E ln cw ic se we) (x_C ln cw ic we un sf (se 0) ss) (x_dn cw ic we) ((x_op ic we ss).toInt) ((x_la ic we un ss bs).toInt) ((x_sh cw ic we un (se 1) ss bs).toInt))) hP [5] rfl) hK (va_recv hK hP (ci := 2) (q0 := 5) rfl rfl) rfl hl.1 rfl (Nat.le_of_ble_eq_true rfl) dX3_amount_104 ⟨Nat.le_of_ble_eq_true rfl, Nat.le_of_ble_eq_true rfl⟩) (fun r_104 hw_104 => ?_)
      subst hw_104
      exact retN_l (post := fun r _ => ((wh < 0 ∨ 1 < wh) ∧ r = (-9223372036854775808)) ∨ (¬ (wh < 0 ∨ 1 < wh) ∧ ((x = 0 ∧ r = tellQ (Rat.divInt (x_E ln cw ic se we) (x_dn cw ic we)) wh) ∨ (x = 1 ∧ r = tellQ (Rat.divInt (x_C ln cw ic we un sf (se 0) ss) (x_dn cw ic we)) wh) ∨ (x = 2 ∧ r = tellQ (o_re (x_E ln cw ic se we) (x_C ln cw ic we un sf (se 0) ss) (x_dn cw ic we)) wh) ∨ (x = 3 ∧ r = tellQ (o_mi (x_E ln cw ic se we) (x_C ln cw ic we un sf (se 0) ss) (x_dn cw ic we) ((x_op ic we ss).toInt) ((x_la ic we un ss bs).toInt) ((x_sh cw ic we un (se 1) ss bs).toInt)) wh) ∨ (x = 4 ∧ r = tellQ (o_du (x_E ln cw ic se we) (x_C ln cw ic we un sf (se 0) ss) (x_dn cw ic we) ((x_op ic we ss).toInt) ((x_la ic we un ss bs).toInt) ((x_sh cw ic we un (se 1) ss bs).toInt)) wh) ∨ ((x.toInt < 0 ∨ 4 < x.toInt) ∧ r = (-9223372036854775808))))) hx hb hr hlocks (by first | exact Or.inl ⟨hw_3, rfl⟩ | (refine Or.inr ⟨hw_3, ?_⟩; first | exact Or.inl ⟨h_14, rfl⟩ | exact Or.inr (Or.inl ⟨h_14, rfl⟩) | exact Or.inr (Or.inr (Or.inl ⟨h_14, rfl⟩)) | exact Or.inr (Or.inr (Or.inr (Or.inl ⟨h_14, rfl⟩))) | exact Or.inr (Or.inr (Or.inr (Or.inr (Or.inl ⟨h_14, rfl⟩)))) | exact Or.inr (Or.inr (Or.inr (Or.inr (Or.inr ⟨h_14, rfl⟩)))))) hS dX3_amount_107
set_option maxHeartbeats 4000000 in
set_option maxRecDepth 100000 in
theorem c_X3_credit (sz : Nat) (v wh : Int32) (hcr : ∀ j, j < 6 → rng (x_cred ln we un sf j (se 0) (x_bd cw ic we)).toInt) (hdn : 1 ≤ x_dn cw ic we ∧ x_dn cw ic we ≤ 700) : Met l yX3_credit (wT yX3_credit cX3_credit 6 (some .long)) ({ frames := 4, cells := 1, slots := 2, locals := 84 }) (pN (dC, dI) (ty3 cI cJ cZ) (xW cI q ln cw ic bs ss se we un sf pa) [.ref (q 0), .int v, .int wh] sz) (va_Ql (S := Unit) (fun r _ => (((¬ ∃ i7, i7 < 6 ∧ v = nI i7 ∧ bt ic i7 = true) ∨ (wh < 0 ∨ 1 < wh)) ∧ r = (-9223372036854775808)) ∨ (∃ i7, i7 < 6 ∧ v = nI i7 ∧ bt ic i7 = true ∧ ¬ (wh < 0 ∨ 1 < wh) ∧ r = tellQ (Rat.divInt (if bt ss i7 = true then (x_cred ln we un sf i7 (se 0) (x_bd cw ic we)).toInt else 0) (x_dn cw ic we)) wh)) (fun _ _ => True) (fun q : Nat => sz ≤ q)) 1 2 (fun q : Nat => sz ≤ q) := by
  refine Met.ofW (cc := cX3_credit) (maxL := 6) (ret := (some .long)) (by decide) rfl ?_
  intro p e s m args below meth c s₁ B hml hv
  obtain ⟨rfl, hsz, hP0, hK⟩ := hv
  have hx := B.exec
  have hb := B.bytes
  have hr := B.returns
  have hts := atoms_spec (ws := wT yX3_credit cX3_credit 6 (some .long)) B.pre
  have hT := wT_T hts
  have hown : s.vm.findClass RX3 = some m.cls := findClass_of_methodNamed B.named
  have hlocks := B.notSynchronized
  subst hsz
  have hA : ∀ q : Nat, s.heap.size ≤ q → (fun q : Nat => s.heap.size ≤ q) q := fun q h => h
  have hS : va_S (fun q : Nat => s.heap.size ≤ q) s.heap s.heap [] := va_S.rf
  have hP : va_P (dC, dI) vwCl [] s.heap := nilP
  have hD : va_D (fun q : Nat => s.heap.size ≤ q) [] := nilD
  have hl := lv_entry ([.ref (q 0), .int v, .int wh]) (n := 6) (Nat.le_of_ble_eq_true rfl)
  rw [lg_entry_eq]
  generalize (lg_sl ([.ref (q 0), .int v, .int wh]) ++ List.replicate (6 - (lg_sl ([.ref (q 0), .int v, .int wh])).length) Slot.unset).toArray = ls at hl ⊢
  have hl : lv_has ls 6 [(0, .ref (q 0)), (1, .int v), (2, .int wh)] := hl
  refine lv_aload_n hx hb dX3_credit_0 rfl (lv_at hl 0 rfl) ?_
  refine lv_iload_n hx hb dX3_credit_1 rfl (lv_at hl 1 rfl) ?_
  refine vp_callSi (rRV (As := [.int v]) (rest := []) ⟨hx, hb, hml, hown, hT⟩ (c_X3_isKnown (l := l) v) (cwTV 1 hT kc_X3_isKnown km_X3_57 ki_X3_isKnown ks_X3_isKnown kn_X3 rfl rfl md_X3_isKnown ⟨Nat.le_of_ble_eq_true rfl, Nat.le_of_ble_eq_true rfl⟩) (keepP hP0 hS) hK (va_recv hK (keepP hP0 hS) (ci := 3) (q0 := 0) rfl rfl) rfl hl.1 rfl (Nat.le_of_ble_eq_true rfl) dX3_credit_2 ⟨Nat.le_of_ble_eq_true rfl, Nat.le_of_ble_eq_true rfl⟩) (fun r_2 hw_2 => ?_)
  rcases hw_2 with ⟨rfl, hw_2⟩ | ⟨rfl, hw_2⟩
  · obtain ⟨j, hj, rfl, hbj⟩ := hw_2
    refine lv_if_eq (tgt := 17) hx hb dX3_credit_5 (by decide) (fun h => absurd h (by decide)) (fun c_5 => ?_)
    refine lv_iload_n hx hb dX3_credit_8 rfl (lv_at hl 2 rfl) ?_
    refine lv_iconst (v := 0) hx hb dX3_credit_9 (by decide) ?_
    refine lv_iconst (v := 1) hx hb dX3_credit_10 (by decide) ?_
    refine vp_callSi (rRS (As := [.int wh, .int 0, .int 1]) (rest := []) ⟨hx, hb, hml, hown, hT⟩ (c_X3_isOutside (l := l) wh 0 1) (cwTS 3 hT kc_X3_isOutside km_X3_35 kt_X3_isOutside kn_X3 rfl rfl md_X3_isOutside ⟨Nat.le_of_ble_eq_true rfl, Nat.le_of_ble_eq_true rfl⟩) nilP hK  rfl hl.1 rfl (Nat.le_of_ble_eq_true rfl) dX3_credit_11 ⟨Nat.le_of_ble_eq_true rfl, Nat.le_of_ble_eq_true rfl⟩) (fun r_11 hw_11 => ?_)
    rcases hw_11 with ⟨rfl, hw_11⟩ | ⟨rfl, hw_11⟩
    · refine lv_if_eq (tgt := 21) hx hb dX3_credit_14 (by decide) (fun h => absurd h (by decide)) (fun c_14 => ?_)
      refine lv_ldc2 hx hb hown (hT _ kj_X3_96) dX3_credit_17 ?_
      refine W.widen (k := 1) (n := 2) (Nat.le_of_ble_eq_true rfl) (Nat.le_of_ble_eq_true rfl) ?_
      exact retN_l (post := fun r _ => (((¬ ∃ i7, i7 < 6 ∧ (nI j) = nI i7 ∧ bt ic i7 = true) ∨ (wh < 0 ∨ 1 < wh)) ∧ r = (-9223372036854775808)) ∨ (∃ i7, i7 < 6 ∧ (nI j) = nI i7 ∧ bt ic i7 = true ∧ ¬ (wh < 0 ∨ 1 < wh) ∧ r = tellQ (Rat.divInt (if bt ss i7 = true then (x_cred ln we un sf i7 (se 0) (x_bd cw ic we)).toInt else 0) (x_dn cw ic we)) wh)) hx hb hr hlocks (by first | exact Or.inl ⟨Or.inl hw_2, rfl⟩ | exact Or.inl ⟨Or.inr hw_11, rfl⟩ | exact Or.inr ⟨j, hj, rfl, hbj, hw_11, (by simp only [hw_31, ↓reduceIte, Bool.false_eq_true, i10])⟩) hS dX3_credit_20
    · refine lv_if_eq (tgt := 21) hx hb dX3_credit_14 (by decide) (fun c_14 => ?_) (fun h => absurd h (by decide))
      refine lv_aload_n hx hb dX3_credit_21 rfl (lv_at hl 0 rfl) ?_
      refine vp_callSi (rRV (As := []) (rest := []) ⟨hx, hb, hml, hown, hT⟩ (c_X3_blameDown (l := l) ) (cwTV 0 hT kc_X3_blameDown km_X3_126 ki_X3_blameDown ks_X3_blameDown kn_X3 rfl rfl md_X3_blameDown ⟨Nat.le_of_ble_eq_true rfl, Nat.le_of_ble_eq_true rfl⟩) (keepP hP0 hS) hK (va_recv hK (keepP hP0 hS) (ci := 3) (q0 := 0) rfl rfl) rfl hl.1 rfl (Nat.le_of_ble_eq_true rfl) dX3_credit_22 ⟨Nat.le_of_ble_eq_true rfl, Nat.le_of_ble_eq_true rfl⟩) (fun r_22 hw_22 => ?_)
      subst hw_22
      refine lv_istore_n (lv' := [(3, .int (x_bd cw ic we)), (0, .ref (q 0)), (1, .int (nI j)), (2, .int wh)]) hx hb dX3_credit_25 rfl hl (by decide) rfl (fun ls hl => ?_)
      refine lv_aload_n hx hb dX3_credit_26 rfl (lv_at hl 1 rfl) ?_
      refine va_get (D := (dC, dI)) (ci := 3) (v := .int ss) (C := RX3) (T := TX3) (N := 11) hx hb hT hiX3 hown hK (keepP hP0 hS) 0 rfl rfl 5 (by decide) (hT _ kf_X3_79) (fun _ h9 => h9) rfl dX3_credit_27 ?_
      refine lv_iload_n hx hb dX3_credit_30 rfl (lv_at hl 2 rfl) ?_
      refine vp_callSi (rRS (As := [.int ss, .int (nI j)]) (rest := []) ⟨hx, hb, hml, hown, hT⟩ (c_X3_has (l := l) ss j (by first | assumption | omega)) (cwTS 2 hT kc_X3_has km_X3_49 kt_X3_has kn_X3 rfl rfl md_X3_has ⟨Nat.le_of_ble_eq_true rfl, Nat.le_of_ble_eq_true rfl⟩) nilP hK  rfl hl.1 rfl (Nat.le_of_ble_eq_true rfl) dX3_credit_31 ⟨Nat.le_of_ble_eq_true rfl, Nat.le_of_ble_eq_true rfl⟩) (fun r_31 hw_31 => ?_)
      rcases hw_31 with ⟨rfl, hw_31⟩ | ⟨rfl, hw_31⟩
      · refine lv_if_eq (tgt := 52) hx hb dX3_credit_34 (by decide) (fun h => absurd h (by decide)) (fun c_34 => ?_)
        refine lv_aload_n hx hb dX3_credit_37 rfl (lv_at hl 1 rfl) ?_
        refine lv_iload_n hx hb dX3_credit_38 rfl (lv_at hl 2 rfl) ?_
        refine lv_aload_n hx hb dX3_credit_39 rfl (lv_at hl 1 rfl) ?_
        refine va_get (D := (dC, dI)) (ci := 3) (v := .ref (q 1)) (C := RX3) (T := TX3) (N := 11) hx hb hT hiX3 hown hK (keepP hP0 hS) 0 rfl rfl 2 (by decide) (hT _ kf_X3_9) (fun _ h9 => h9) rfl dX3_credit_40 ?_
        refine lv_iconst (v := 0) hx hb dX3_credit_43 (by decide) ?_
        refine ald_i hx hb hK (keepP hP0 hS) 1 0 rfl rfl (by decide) (w := 0) rfl (by decide) dX3_credit_44 ?_
        refine lv_iload_n hx hb dX3_credit_45 rfl (lv_at hl 0 rfl) ?_
        refine vp_callSl (rRV (As := [.int (nI j), .int (se 0), .int (x_bd cw ic we)]) (rest := []) ⟨hx, hb, hml, hown, hT⟩ (c_X3_creditUp (l := l) j (se 0) (x_bd cw ic we) (by first | assumption | omega)) (cwTV 3 hT kc_X3_creditUp km_X3_130 ki_X3_creditUp ks_X3_creditUp kn_X3 rfl rfl md_X3_creditUp ⟨Nat.le_of_ble_eq_true rfl, Nat.le_of_ble_eq_true rfl⟩) (keepP hP0 hS) hK (va_recv hK (keepP hP0 hS) (ci := 3) (q0 := 0) rfl rfl) rfl hl.1 rfl (Nat.le_of_ble_eq_true rfl) dX3_credit_46 ⟨Nat.le_of_ble_eq_true rfl, Nat.le_of_ble_eq_true rfl⟩) (fun r_46 hw_46 => ?_)
        subst hw_46
        refine topl_eq (y := (iL (x_cred ln we un sf j (se 0) (x_bd cw ic we)).toInt)) (iL_of _) ?_
        refine lv_goto (tgt := 53) hx hb dX3_credit_49 (by decide) ?_
        refine lv_lstore (lv' := [(4, .long (iL (x_cred ln we un sf j (se 0) (x_bd cw ic we)).toInt)), (3, .int (x_bd cw ic we)), (0, .ref (q 0)), (1, .int (nI j)), (2, .int wh)]) hx hb dX3_credit_53 hl (by decide) rfl (fun ls hl => ?_)
        refine lv_lload hx hb dX3_credit_55 (lv_at hl 0 rfl) ?_
        refine lv_iload_n hx hb dX3_credit_57 rfl (lv_at hl 1 rfl) ?_
        refine lv_i2l (v := iL (x_bd cw ic we : Int32).toInt) hx hb dX3_credit_58 rfl ?_
        refine topl_eq (y := (iL (x_dn cw ic we))) rfl ?_
        refine fN_r (rNS (As := [.long (iL (x_cred ln we un sf j (se 0) (x_bd cw ic we)).toInt), .long (iL (x_dn cw ic we))]) (rest := []) ⟨hx, hb, hml, hown, hT⟩ (c_X2_of (l := l) s.heap.size ((x_cred ln we un sf j (se 0) (x_bd cw ic we)).toInt) (x_dn cw ic we) (by first | exact hcr j hj | exact rng_0) (by omega) (by omega)) (cwTS 2 hT kc_X2_of km_X3_134 kt_X2_of kn_X2 rfl rfl md_X2_of ⟨Nat.le_of_ble_eq_true rfl, Nat.le_of_ble_eq_true rfl⟩) nilP hK  rfl hl.1 rfl (Nat.le_of_ble_eq_true rfl) dX3_credit_59 ⟨Nat.le_of_ble_eq_true rfl, Nat.le_of_ble_eq_true rfl⟩) hP hD hS hA (fun u_59 b_59 H locs hw_59 hP hD hS => ?_)
        have hP : va_P (dC, dI) vwCl (shQ  b_59 (Rat.divInt ((x_cred ln we un sf j (se 0) (x_bd cw ic we)).toInt) (x_dn cw ic we))) H := hP
        have hD : va_D (fun q : Nat => s.heap.size ≤ q) (shQ  b_59 (Rat.divInt ((x_cred ln we un sf j (se 0) (x_bd cw ic we)).toInt) (x_dn cw ic we))) := hD
        refine lv_iload_n hx hb dX3_credit_62 rfl (lv_at hl 4 rfl) ?_
        refine vp_callSl (rRV (As := [.int wh]) (rest := []) ⟨hx, hb, hml, hown, hT⟩ (c_X2_told (l := l) wh) (cwTV 1 hT kc_X2_told km_X3_108 ki_X2_told ks_X2_told kn_X2 rfl rfl md_X2_told ⟨Nat.le_of_ble_eq_true rfl, Nat.le_of_ble_eq_true rfl⟩) hP hK (va_recv hK hP (ci := 2) (q0 := 0) rfl rfl) rfl hl.1 rfl (Nat.le_of_ble_eq_true rfl) dX3_credit_63 ⟨Nat.le_of_ble_eq_true rfl, Nat.le_of_ble_eq_true rfl⟩) (fun r_63 hw_63 => ?_)
        subst hw_63
        exact retN_l (post := fun r _ => (((¬ ∃ i7, i7 < 6 ∧ (nI j) = nI i7 ∧ bt ic i7 = true) ∨ (wh < 0 ∨ 1 < wh)) ∧ r = (-9223372036854775808)) ∨ (∃ i7, i7 < 6 ∧ (nI j) = nI i7 ∧ bt ic i7 = true ∧ ¬ (wh < 0 ∨ 1 < wh) ∧ r = tellQ (Rat.divInt (if bt ss i7 = true then (x_cred ln we un sf i7 (se 0) (x_bd cw ic we)).toInt else 0) (x_dn cw ic we)) wh)) hx hb hr hlocks (by first | exact Or.inl ⟨Or.inl hw_2, rfl⟩ | exact Or.inl ⟨Or.inr hw_11, rfl⟩ | exact Or.inr ⟨j, hj, rfl, hbj, hw_11, (by simp only [hw_31, ↓reduceIte, Bool.false_eq_true, i10])⟩) hS dX3_credit_66
      · refine lv_if_eq (tgt := 52) hx hb dX3_credit_34 (by decide) (fun c_34 => ?_) (fun h => absurd h (by decide))
        refine lv_lconst (v := iL 0) hx hb dX3_credit_52 rfl ?_
        refine lv_lstore (lv' := [(4, .long (iL 0)), (3, .int (x_bd cw ic we)), (0, .ref (q 0)), (1, .int (nI j)), (2, .int wh)]) hx hb dX3_credit_53 hl (by decide) rfl (fun ls hl => ?_)
        refine lv_lload hx hb dX3_credit_55 (lv_at hl 0 rfl) ?_
        refine lv_iload_n hx hb dX3_credit_57 rfl (lv_at hl 1 rfl) ?_
        refine lv_i2l (v := iL (x_bd cw ic we : Int32).toInt) hx hb dX3_credit_58 rfl ?_
        refine topl_eq (y := (iL (x_dn cw ic we))) rfl ?_
        refine fN_r (rNS (As := [.long (iL 0), .long (iL (x_dn cw ic we))]) (rest := []) ⟨hx, hb, hml, hown, hT⟩ (c_X2_of (l := l) s.heap.size 0 (x_dn cw ic we) (by first | exact hcr j hj | exact rng_0) (by omega) (by omega)) (cwTS 2 hT kc_X2_of km_X3_134 kt_X2_of kn_X2 rfl rfl md_X2_of ⟨Nat.le_of_ble_eq_true rfl, Nat.le_of_ble_eq_true rfl⟩) nilP hK  rfl hl.1 rfl (Nat.le_of_ble_eq_true rfl) dX3_credit_59 ⟨Nat.le_of_ble_eq_true rfl, Nat.le_of_ble_eq_true rfl⟩) hP hD hS hA (fun u_59 b_59 H locs hw_59 hP hD hS => ?_)
        have hP : va_P (dC, dI) vwCl (shQ  b_59 (Rat.divInt 0 (x_dn cw ic we))) H := hP
        have hD : va_D (fun q : Nat => s.heap.size ≤ q) (shQ  b_59 (Rat.divInt 0 (x_dn cw ic we))) := hD
        refine lv_iload_n hx hb dX3_credit_62 rfl (lv_at hl 4 rfl) ?_
        refine vp_callSl (rRV (As := [.int wh]) (rest := []) ⟨hx, hb, hml, hown, hT⟩ (c_X2_told (l := l) wh) (cwTV 1 hT kc_X2_told km_X3_108 ki_X2_told ks_X2_told kn_X2 rfl rfl md_X2_told ⟨Nat.le_of_ble_eq_true rfl, Nat.le_of_ble_eq_true rfl⟩) hP hK (va_recv hK hP (ci := 2) (q0 := 0) rfl rfl) rfl hl.1 rfl (Nat.le_of_ble_eq_true rfl) dX3_credit_63 ⟨Nat.le_of_ble_eq_true rfl, Nat.le_of_ble_eq_true rfl⟩) (fun r_63 hw_63 => ?_)
        subst hw_63
        exact retN_l (post := fun r _ => (((¬ ∃ i7, i7 < 6 ∧ (nI j) = nI i7 ∧ bt ic i7 = true) ∨ (wh < 0 ∨ 1 < wh)) ∧ r = (-9223372036854775808)) ∨ (∃ i7, i7 < 6 ∧ (nI j) = nI i7 ∧ bt ic i7 = true ∧ ¬ (wh < 0 ∨ 1 < wh) ∧ r = tellQ (Rat.divInt (if bt ss i7 = true then (x_cred ln we un sf i7 (se 0) (x_bd cw ic we)).toInt else 0) (x_dn cw ic we)) wh)) hx hb hr hlocks (by first | exact Or.inl ⟨Or.inl hw_2, rfl⟩ | exact Or.inl ⟨Or.inr hw_11, rfl⟩ | exact Or.inr ⟨j, hj, rfl, hbj, hw_11, (by simp only [hw_31, ↓reduceIte, Bool.false_eq_true, i10])⟩) hS dX3_credit_66
  · refine lv_if_eq (tgt := 17) hx hb dX3_credit_5 (by decide) (fun c_5 => ?_) (fun h => absurd h (by decide))
    refine lv_ldc2 hx hb hown (hT _ kj_X3_96) dX3_credit_17 ?_
    refine W.widen (k := 1) (n := 2) (Nat.le_of_ble_eq_true rfl) (Nat.le_of_ble_eq_true rfl) ?_
    exact retN_l (post := fun r _ => (((¬ ∃ i7, i7 < 6 ∧ v = nI i7 ∧ bt ic i7 = true) ∨ (wh < 0 ∨ 1 < wh)) ∧ r = (-9223372036854775808)) ∨ (∃ i7, i7 < 6 ∧ v = nI i7 ∧ bt ic i7 = true ∧ ¬ (wh < 0 ∨ 1 < wh) ∧ r = tellQ (Rat.divInt (if bt ss i7 = true then (x_cred ln we un sf i7 (se 0) (x_bd cw ic we)).toInt else 0) (x_dn cw ic we)) wh)) hx hb hr hlocks (by first | exact Or.inl ⟨Or.inl hw_2, rfl⟩ | exact Or.inl ⟨Or.inr hw_11, rfl⟩ | exact Or.inr ⟨j, hj, rfl, hbj, hw_11, (by simp only [hw_31, ↓reduceIte, Bool.false_eq_true, i10])⟩) hS dX3_credit_20
set_option maxHeartbeats 4000000 in
set_option maxRecDepth 100000 in
theorem c_X3_unitDue (sz : Nat) (v wh : Int32) (hok : x_ok ln cw ic se we un sf (se 0) (se 1) ss bs) (hub : ∀ j, j < 6 → 0 ≤ (x_ub ic bs we un j ss).toInt ∧ (x_ub ic bs we un j ss).toInt ≤ 600) : Met l yX3_unitDue (wT yX3_unitDue cX3_unitDue 3 (some .long)) ({ frames := 7, cells := 8, slots := 21, locals := 167 }) (pN (dC, dI) (ty3 cI cJ cZ) (xW cI q ln cw ic bs ss se we un sf pa) [.ref (q 0), .int v, .int wh] sz) (va_Ql (S := Unit) (fun r _ => (((¬ ∃ i7, i7 < 6 ∧ v = nI i7 ∧ bt ic i7 = true) ∨ (wh < 0 ∨ 1 < wh)) ∧ r = (-9223372036854775808)) ∨ (∃ i7, i7 < 6 ∧ v = nI i7 ∧ bt ic i7 = true ∧ ¬ (wh < 0 ∨ 1 < wh) ∧ r = tellQ (o_pw (x_E ln cw ic se we) (x_C ln cw ic we un sf (se 0) ss) (x_dn cw ic we) ((x_op ic we ss).toInt) ((x_la ic we un ss bs).toInt) ((x_sh cw ic we un (se 1) ss bs).toInt) * iQ (x_ub ic bs we un i7 ss).toInt) wh)) (fun _ _ => True) (fun q : Nat => sz ≤ q)) 8 21 (fun q : Nat => sz ≤ q) := by
  refine Met.ofW (cc := cX3_unitDue) (maxL := 3) (ret := (some .long)) (by decide) rfl ?_
  intro p e s m args below meth c s₁ B hml hv
  obtain ⟨rfl, hsz, hP0, hK⟩ := hv
  have hx := B.exec
  have hb := B.bytes
  have hr := B.returns
  have hts := atoms_spec (ws := wT yX3_unitDue cX3_unitDue 3 (some .long)) B.pre
  have hT := wT_T hts
  have hown : s.vm.findClass RX3 = some m.cls := findClass_of_methodNamed B.named
  have hlocks := B.notSynchronized
  subst hsz
  have hA : ∀ q : Nat, s.heap.size ≤ q → (fun q : Nat => s.heap.size ≤ q) q := fun q h => h
  have hS : va_S (fun q : Nat => s.heap.size ≤ q) s.heap s.heap [] := va_S.rf
  have hP : va_P (dC, dI) vwCl [] s.heap := nilP
  have hD : va_D (fun q : Nat => s.heap.size ≤ q) [] := nilD
  have hl := lv_entry ([.ref (q 0), .int v, .int wh]) (n := 3) (Nat.le_of_ble_eq_true rfl)
  rw [lg_entry_eq]
  generalize (lg_sl ([.ref (q 0), .int v, .int wh]) ++ List.replicate (3 - (lg_sl ([.ref (q 0), .int v, .int wh])).length) Slot.unset).toArray = ls at hl ⊢
  have hl : lv_has ls 3 [(0, .ref (q 0)), (1, .int v), (2, .int wh)] := hl
  refine lv_aload_n hx hb dX3_unitDue_0 rfl (lv_at hl 0 rfl) ?_
  refine lv_iload_n hx hb dX3_unitDue_1 rfl (lv_at hl 1 rfl) ?_
  refine vp_callSi (rRV (As := [.int v]) (rest := []) ⟨hx, hb, hml, hown, hT⟩ (c_X3_isKnown (l := l) v) (cwTV 1 hT kc_X3_isKnown km_X3_57 ki_X3_isKnown ks_X3_isKnown kn_X3 rfl rfl md_X3_isKnown ⟨Nat.le_of_ble_eq_true rfl, Nat.le_of_ble_eq_true rfl⟩) (keepP hP0 hS) hK (va_recv hK (keepP hP0 hS) (ci := 3) (q0 := 0) rfl rfl) rfl hl.1 rfl (Nat.le_of_ble_eq_true rfl) dX3_unitDue_2 ⟨Nat.le_of_ble_eq_true rfl, Nat.le_of_ble_eq_true rfl⟩) (fun r_2 hw_2 => ?_)
  rcases hw_2 with ⟨rfl, hw_2⟩ | ⟨rfl, hw_2⟩
  · obtain ⟨j, hj, rfl, hbj⟩ := hw_2
    refine lv_if_eq (tgt := 17) hx hb dX3_unitDue_5 (by decide) (fun h => absurd h (by decide)) (fun c_5 => ?_)
    refine lv_iload_n hx hb dX3_unitDue_8 rfl (lv_at hl 2 rfl) ?_
    refine lv_iconst (v := 0) hx hb dX3_unitDue_9 (by decide) ?_
    refine lv_iconst (v := 1) hx hb dX3_unitDue_10 (by decide) ?_
    refine vp_callSi (rRS (As := [.int wh, .int 0, .int 1]) (rest := []) ⟨hx, hb, hml, hown, hT⟩ (c_X3_isOutside (l := l) wh 0 1) (cwTS 3 hT kc_X3_isOutside km_X3_35 kt_X3_isOutside kn_X3 rfl rfl md_X3_isOutside ⟨Nat.le_of_ble_eq_true rfl, Nat.le_of_ble_eq_true rfl⟩) nilP hK  rfl hl.1 rfl (Nat.le_of_ble_eq_true rfl) dX3_unitDue_11 ⟨Nat.le_of_ble_eq_true rfl, Nat.le_of_ble_eq_true rfl⟩) (fun r_11 hw_11 => ?_)
    rcases hw_11 with ⟨rfl, hw_11⟩ | ⟨rfl, hw_11⟩
    · refine lv_if_eq (tgt := 21) hx hb dX3_unitDue_14 (by decide) (fun h => absurd h (by decide)) (fun c_14 => ?_)
      refine lv_ldc2 hx hb hown (hT _ kj_X3_96) dX3_unitDue_17 ?_
      refine W.widen (k := 8) (n := 21) (Nat.le_of_ble_eq_true rfl) (Nat.le_of_ble_eq_true rfl) ?_
      exact retN_l (post := fun r _ => (((¬ ∃ i7, i7 < 6 ∧ (nI j) = nI i7 ∧ bt ic i7 = true) ∨ (wh < 0 ∨ 1 < wh)) ∧ r = (-9223372036854775808)) ∨ (∃ i7, i7 < 6 ∧ (nI j) = nI i7 ∧ bt ic i7 = true ∧ ¬ (wh < 0 ∨ 1 < wh) ∧ r = tellQ (o_pw (x_E ln cw ic se we) (x_C ln cw ic we un sf (se 0) ss) (x_dn cw ic we) ((x_op ic we ss).toInt) ((x_la ic we un ss bs).toInt) ((x_sh cw ic we un (se 1) ss bs).toInt) * iQ (x_ub ic bs we un i7 ss).toInt) wh)) hx hb hr hlocks (by first | exact Or.inl ⟨Or.inl hw_2, rfl⟩ | exact Or.inl ⟨Or.inr hw_11, rfl⟩ | exact Or.inr ⟨j, hj, rfl, hbj, hw_11, rfl⟩) hS dX3_unitDue_20
    · refine lv_if_eq (tgt := 21) hx hb dX3_unitDue_14 (by decide) (fun c_14 => ?_) (fun h => absurd h (by decide))
      refine lv_aload_n hx hb dX3_unitDue_21 rfl (lv_at hl 0 rfl) ?_
      refine fN_r (rNV (As := []) (rest := []) ⟨hx, hb, hml, hown, hT⟩ (c_X3_owedNow (l := l) s.heap.size hok) (cwTV 0 hT kc_X3_owedNow km_X3_98 ki_X3_owedNow ks_X3_owedNow kn_X3 rfl rfl md_X3_owedNow ⟨Nat.le_of_ble_eq_true rfl, Nat.le_of_ble_eq_true rfl⟩) (keepP hP0 hS) hK (va_recv hK (keepP hP0 hS) (ci := 3) (q0 := 0) rfl rfl) rfl hl.1 rfl (Nat.le_of_ble_eq_true rfl) dX3_unitDue_22 ⟨Nat.le_of_ble_eq_true rfl, Nat.le_of_ble_eq_true rfl⟩) hP hD hS hA (fun u_22 b_22 H locs hw_22 hP hD hS => ?_)
      have hP : va_P (dC, dI) vwCl (oW  b_22 u_22 (x_E ln cw ic se we) (x_C ln cw ic we un sf (se 0) ss) (x_dn cw ic we) ((x_op ic we ss).toInt) ((x_la ic we un ss bs).toInt) ((x_sh cw ic we un (se 1) ss bs).toInt)) H := hP
      have hD : va_D (fun q : Nat => s.heap.size ≤ q) (oW  b_22 u_22 (x_E ln cw ic se we) (x_C ln cw ic we un sf (se 0) ss) (x_dn cw ic we) ((x_op ic we ss).toInt) ((x_la ic we un ss bs).toInt) ((x_sh cw ic we un (se 1) ss bs).toInt)) := hD
      refine va_get (D := (dC, dI)) (ci := 1) (v := .ref ((u_22).2.2.2.1)) (C := RX1) (T := TX1) (N := 7) hx hb hT hiX1 hown hK hP 0 rfl rfl 3 (by decide) (hT _ kf_X3_138) (fun _ h9 => h9) rfl dX3_unitDue_25 ?_
      refine lv_aload_n hx hb dX3_unitDue_28 rfl (lv_at hl 0 rfl) ?_
      refine lv_iload_n hx hb dX3_unitDue_29 rfl (lv_at hl 1 rfl) ?_
      refine lv_aload_n hx hb dX3_unitDue_30 rfl (lv_at hl 0 rfl) ?_
      refine va_get (D := (dC, dI)) (ci := 3) (v := .int ss) (C := RX3) (T := TX3) (N := 11) hx hb hT hiX3 hown hK (keepP hP0 hS) 0 rfl rfl 5 (by decide) (hT _ kf_X3_79) (fun _ h9 => h9) rfl dX3_unitDue_31 ?_
      refine vp_callSi (rRV (As := [.int (nI j), .int ss]) (rest := [.ref ((u_22).2.2.2.1)]) ⟨hx, hb, hml, hown, hT⟩ (c_X3_unitBears (l := l) j ss (by first | assumption | omega)) (cwTV 2 hT kc_X3_unitBears km_X3_141 ki_X3_unitBears ks_X3_unitBears kn_X3 rfl rfl md_X3_unitBears ⟨Nat.le_of_ble_eq_true rfl, Nat.le_of_ble_eq_true rfl⟩) (keepP hP0 hS) hK (va_recv hK (keepP hP0 hS) (ci := 3) (q0 := 0) rfl rfl) rfl hl.1 rfl (Nat.le_of_ble_eq_true rfl) dX3_unitDue_34 ⟨Nat.le_of_ble_eq_true rfl, Nat.le_of_ble_eq_true rfl⟩) (fun r_34 hw_34 => ?_)
      subst hw_34
      refine lv_i2l (v := iL (x_ub ic bs we un j ss : Int32).toInt) hx hb dX3_unitDue_37 rfl ?_
      refine fN_r (rNV (As := [.long (iL (x_ub ic bs we un j ss : Int32).toInt)]) (rest := []) ⟨hx, hb, hml, hown, hT⟩ (c_X2_times (l := l) H.size ((x_ub ic bs we un j ss : Int32).toInt) (pw_k hok (hub j hj).1 (hub j hj).2) (by have := o_pw_bd hok; omega)) (cwTV 1 hT kc_X2_times km_X3_145 ki_X2_times ks_X2_times kn_X2 rfl rfl md_X2_times ⟨Nat.le_of_ble_eq_true rfl, Nat.le_of_ble_eq_true rfl⟩) (va_P.sub (ws' := shQ  ((u_22).2.2.2.1) (o_pw (x_E ln cw ic se we) (x_C ln cw ic we un sf (se 0) ss) (x_dn cw ic we) ((x_op ic we ss).toInt) ((x_la ic we un ss bs).toInt) ((x_sh cw ic we un (se 1) ss bs).toInt))) hP [4] rfl) hK (va_recv hK hP (ci := 2) (q0 := 4) rfl rfl) rfl hl.1 rfl (Nat.le_of_ble_eq_true rfl) dX3_unitDue_38 ⟨Nat.le_of_ble_eq_true rfl, Nat.le_of_ble_eq_true rfl⟩) hP hD hS hA (fun u_38 b_38 H locs hw_38 hP hD hS => ?_)
      have hP : va_P (dC, dI) vwCl ((oW  b_22 u_22 (x_E ln cw ic se we) (x_C ln cw ic we un sf (se 0) ss) (x_dn cw ic we) ((x_op ic we ss).toInt) ((x_la ic we un ss bs).toInt) ((x_sh cw ic we un (se 1) ss bs).toInt)) ++ (shQ  b_38 ((o_pw (x_E ln cw ic se we) (x_C ln cw ic we un sf (se 0) ss) (x_dn cw ic we) ((x_op ic we ss).toInt) ((x_la ic we un ss bs).toInt) ((x_sh cw ic we un (se 1) ss bs).toInt)) * (iQ ((x_ub ic bs we un j ss : Int32).toInt))))) H := hP
      have hD : va_D (fun q : Nat => s.heap.size ≤ q) ((oW  b_22 u_22 (x_E ln cw ic se we) (x_C ln cw ic we un sf (se 0) ss) (x_dn cw ic we) ((x_op ic we ss).toInt) ((x_la ic we un ss bs).toInt) ((x_sh cw ic we un (se 1) ss bs).toInt)) ++ (shQ  b_38 ((o_pw (x_E ln cw ic se we) (x_C ln cw ic we un sf (se 0) ss) (x_dn cw ic we) ((x_op ic we ss).toInt) ((x_la ic we un ss bs).toInt) ((x_sh cw ic we un (se 1) ss bs).toInt)) * (iQ ((x_ub ic bs we un j ss : Int32).toInt))))) := hD
      refine lv_iload_n hx hb dX3_unitDue_41 rfl (lv_at hl 2 rfl) ?_
      refine vp_callSl (rRV (As := [.int wh]) (rest := []) ⟨hx, hb, hml, hown, hT⟩ (c_X2_told (l := l) wh) (cwTV 1 hT kc_X2_told km_X3_108 ki_X2_told ks_X2_told kn_X2 rfl rfl md_X2_told ⟨Nat.le_of_ble_eq_true rfl, Nat.le_of_ble_eq_true rfl⟩) (va_P.sub (ws' := shQ  b_38 ((o_pw (x_E ln cw ic se we) (x_C ln cw ic we un sf (se 0) ss) (x_dn cw ic we) ((x_op ic we ss).toInt) ((x_la ic we un ss bs).toInt) ((x_sh cw ic we un (se 1) ss bs).toInt)) * (iQ ((x_ub ic bs we un j ss : Int32).toInt)))) hP [7] rfl) hK (va_recv hK hP (ci := 2) (q0 := 7) rfl rfl) rfl hl.1 rfl (Nat.le_of_ble_eq_true rfl) dX3_unitDue_42 ⟨Nat.le_of_ble_eq_true rfl, Nat.le_of_ble_eq_true rfl⟩) (fun r_42 hw_42 => ?_)
      subst hw_42
      exact retN_l (post := fun r _ => (((¬ ∃ i7, i7 < 6 ∧ (nI j) = nI i7 ∧ bt ic i7 = true) ∨ (wh < 0 ∨ 1 < wh)) ∧ r = (-9223372036854775808)) ∨ (∃ i7, i7 < 6 ∧ (nI j) = nI i7 ∧ bt ic i7 = true ∧ ¬ (wh < 0 ∨ 1 < wh) ∧ r = tellQ (o_pw (x_E ln cw ic se we) (x_C ln cw ic we un sf (se 0) ss) (x_dn cw ic we) ((x_op ic we ss).toInt) ((x_la ic we un ss bs).toInt) ((x_sh cw ic we un (se 1) ss bs).toInt) * iQ (x_ub ic bs we un i7 ss).toInt) wh)) hx hb hr hlocks (by first | exact Or.inl ⟨Or.inl hw_2, rfl⟩ | exact Or.inl ⟨Or.inr hw_11, rfl⟩ | exact Or.inr ⟨j, hj, rfl, hbj, hw_11, rfl⟩) hS dX3_unitDue_45
  · refine lv_if_eq (tgt := 17) hx hb dX3_unitDue_5 (by decide) (fun c_5 => ?_) (fun h => absurd h (by decide))
    refine lv_ldc2 hx hb hown (hT _ kj_X3_96) dX3_unitDue_17 ?_
    refine W.widen (k := 8) (n := 21) (Nat.le_of_ble_eq_true rfl) (Nat.le_of_ble_eq_true rfl) ?_
    exact retN_l (post := fun r _ => (((¬ ∃ i7, i7 < 6 ∧ v = nI i7 ∧ bt ic i7 = true) ∨ (wh < 0 ∨ 1 < wh)) ∧ r = (-9223372036854775808)) ∨ (∃ i7, i7 < 6 ∧ v = nI i7 ∧ bt ic i7 = true ∧ ¬ (wh < 0 ∨ 1 < wh) ∧ r = tellQ (o_pw (x_E ln cw ic se we) (x_C ln cw ic we un sf (se 0) ss) (x_dn cw ic we) ((x_op ic we ss).toInt) ((x_la ic we un ss bs).toInt) ((x_sh cw ic we un (se 1) ss bs).toInt) * iQ (x_ub ic bs we un i7 ss).toInt) wh)) hx hb hr hlocks (by first | exact Or.inl ⟨Or.inl hw_2, rfl⟩ | exact Or.inl ⟨Or.inr hw_11, rfl⟩ | exact Or.inr ⟨j, hj, rfl, hbj, hw_11, rfl⟩) hS dX3_unitDue_20
set_option maxHeartbeats 4000000 in
set_option maxRecDepth 100000 in
theorem c_X3_due (sz : Nat) (v wh : Int32) (hok : x_ok ln cw ic se we un sf (se 0) (se 1) ss bs) (hbe : ∀ j, j < 6 → 0 ≤ (x_bears bs ss we un j).toInt ∧ (x_bears bs ss we un j).toInt ≤ 600) : Met l yX3_due (wT yX3_due cX3_due 3 (some .long)) ({ frames := 7, cells := 8, slots := 21, locals := 167 }) (pN (dC, dI) (ty3 cI cJ cZ) (xW cI q ln cw ic bs ss se we un sf pa) [.ref (q 0), .int v, .int wh] sz) (va_Ql (S := Unit) (fun r _ => (((¬ ∃ i7, i7 < 6 ∧ v = nI i7 ∧ bt ic i7 = true) ∨ (wh < 0 ∨ 1 < wh)) ∧ r = (-9223372036854775808)) ∨ (∃ i7, i7 < 6 ∧ v = nI i7 ∧ bt ic i7 = true ∧ ¬ (wh < 0 ∨ 1 < wh) ∧ r = tellQ (o_pw (x_E ln cw ic se we) (x_C ln cw ic we un sf (se 0) ss) (x_dn cw ic we) ((x_op ic we ss).toInt) ((x_la ic we un ss bs).toInt) ((x_sh cw ic we un (se 1) ss bs).toInt) * iQ (x_bears bs ss we un i7).toInt) wh)) (fun _ _ => True) (fun q : Nat => sz ≤ q)) 8 21 (fun q : Nat => sz ≤ q) := by
  refine Met.ofW (cc := cX3_due) (maxL := 3) (ret := (some .long)) (by decide) rfl ?_
  intro p e s m args below meth c s₁ B hml hv
  obtain ⟨rfl, hsz, hP0, hK⟩ := hv
  have hx := B.exec
  have hb := B.bytes
  have hr := B.returns
  have hts := atoms_spec (ws := wT yX3_due cX3_due 3 (some .long)) B.pre
  have hT := wT_T hts
  have hown : s.vm.findClass RX3 = some m.cls := findClass_of_methodNamed B.named
  have hlocks := B.notSynchronized
  subst hsz
  have hA : ∀ q : Nat, s.heap.size ≤ q → (fun q : Nat => s.heap.size ≤ q) q := fun q h => h
  have hS : va_S (fun q : Nat => s.heap.size ≤ q) s.heap s.heap [] := va_S.rf
  have hP : va_P (dC, dI) vwCl [] s.heap := nilP
  have hD : va_D (fun q : Nat => s.heap.size ≤ q) [] := nilD
  have hl := lv_entry ([.ref (q 0), .int v, .int wh]) (n := 3) (Nat.le_of_ble_eq_true rfl)
  rw [lg_entry_eq]
  generalize (lg_sl ([.ref (q 0), .int v, .int wh]) ++ List.replicate (3 - (lg_sl ([.ref (q 0), .int v, .int wh])).length) Slot.unset).toArray = ls at hl ⊢
  have hl : lv_has ls 3 [(0, .ref (q 0)), (1, .int v), (2, .int wh)] := hl
  refine lv_aload_n hx hb dX3_due_0 rfl (lv_at hl 0 rfl) ?_
  refine lv_iload_n hx hb dX3_due_1 rfl (lv_at hl 1 rfl) ?_
  refine vp_callSi (rRV (As := [.int v]) (rest := []) ⟨hx, hb, hml, hown, hT⟩ (c_X3_isKnown (l := l) v) (cwTV 1 hT kc_X3_isKnown km_X3_57 ki_X3_isKnown ks_X3_isKnown kn_X3 rfl rfl md_X3_isKnown ⟨Nat.le_of_ble_eq_true rfl, Nat.le_of_ble_eq_true rfl⟩) (keepP hP0 hS) hK (va_recv hK (keepP hP0 hS) (ci := 3) (q0 := 0) rfl rfl) rfl hl.1 rfl (Nat.le_of_ble_eq_true rfl) dX3_due_2 ⟨Nat.le_of_ble_eq_true rfl, Nat.le_of_ble_eq_true rfl⟩) (fun r_2 hw_2 => ?_)
  rcases hw_2 with ⟨rfl, hw_2⟩ | ⟨rfl, hw_2⟩
  · obtain ⟨j, hj, rfl, hbj⟩ := hw_2
    refine lv_if_eq (tgt := 17) hx hb dX3_due_5 (by decide) (fun h => absurd h (by decide)) (fun c_5 => ?_)
    refine lv_iload_n hx hb dX3_due_8 rfl (lv_at hl 2 rfl) ?_
    refine lv_iconst (v := 0) hx hb dX3_due_9 (by decide) ?_
    refine lv_iconst (v := 1) hx hb dX3_due_10 (by decide) ?_
    refine vp_callSi (rRS (As := [.int wh, .int 0, .int 1]) (rest := []) ⟨hx, hb, hml, hown, hT⟩ (c_X3_isOutside (l := l) wh 0 1) (cwTS 3 hT kc_X3_isOutside km_X3_35 kt_X3_isOutside kn_X3 rfl rfl md_X3_isOutside ⟨Nat.le_of_ble_eq_true rfl, Nat.le_of_ble_eq_true rfl⟩) nilP hK  rfl hl.1 rfl (Nat.le_of_ble_eq_true rfl) dX3_due_11 ⟨Nat.le_of_ble_eq_true rfl, Nat.le_of_ble_eq_true rfl⟩) (fun r_11 hw_11 => ?_)
    rcases hw_11 with ⟨rfl, hw_11⟩ | ⟨rfl, hw_11⟩
    · refine lv_if_eq (tgt := 21) hx hb dX3_due_14 (by decide) (fun h => absurd h (by decide)) (fun c_14 => ?_)
      refine lv_ldc2 hx hb hown (hT _ kj_X3_96) dX3_due_17 ?_
      refine W.widen (k := 8) (n := 21) (Nat.le_of_ble_eq_true rfl) (Nat.le_of_ble_eq_true rfl) ?_
      exact retN_l (post := fun r _ => (((¬ ∃ i7, i7 < 6 ∧ (nI j) = nI i7 ∧ bt ic i7 = true) ∨ (wh < 0 ∨ 1 < wh)) ∧ r = (-9223372036854775808)) ∨ (∃ i7, i7 < 6 ∧ (nI j) = nI i7 ∧ bt ic i7 = true ∧ ¬ (wh < 0 ∨ 1 < wh) ∧ r = tellQ (o_pw (x_E ln cw ic se we) (x_C ln cw ic we un sf (se 0) ss) (x_dn cw ic we) ((x_op ic we ss).toInt) ((x_la ic we un ss bs).toInt) ((x_sh cw ic we un (se 1) ss bs).toInt) * iQ (x_bears bs ss we un i7).toInt) wh)) hx hb hr hlocks (by first | exact Or.inl ⟨Or.inl hw_2, rfl⟩ | exact Or.inl ⟨Or.inr hw_11, rfl⟩ | exact Or.inr ⟨j, hj, rfl, hbj, hw_11, rfl⟩) hS dX3_due_20
    · refine lv_if_eq (tgt := 21) hx hb dX3_due_14 (by decide) (fun c_14 => ?_) (fun h => absurd h (by decide))
      refine lv_aload_n hx hb dX3_due_21 rfl (lv_at hl 0 rfl) ?_
      refine fN_r (rNV (As := []) (rest := []) ⟨hx, hb, hml, hown, hT⟩ (c_X3_owedNow (l := l) s.heap.size hok) (cwTV 0 hT kc_X3_owedNow km_X3_98 ki_X3_owedNow ks_X3_owedNow kn_X3 rfl rfl md_X3_owedNow ⟨Nat.le_of_ble_eq_true rfl, Nat.le_of_ble_eq_true rfl⟩) (keepP hP0 hS) hK (va_recv hK (keepP hP0 hS) (ci := 3) (q0 := 0) rfl rfl) rfl hl.1 rfl (Nat.le_of_ble_eq_true rfl) dX3_due_22 ⟨Nat.le_of_ble_eq_true rfl, Nat.le_of_ble_eq_true rfl⟩) hP hD hS hA (fun u_22 b_22 H locs hw_22 hP hD hS => ?_)
      have hP : va_P (dC, dI) vwCl (oW  b_22 u_22 (x_E ln cw ic se we) (x_C ln cw ic we un sf (se 0) ss) (x_dn cw ic we) ((x_op ic we ss).toInt) ((x_la ic we un ss bs).toInt) ((x_sh cw ic we un (se 1) ss bs).toInt)) H := hP
      have hD : va_D (fun q : Nat => s.heap.size ≤ q) (oW  b_22 u_22 (x_E ln cw ic se we) (x_C ln cw ic we un sf (se 0) ss) (x_dn cw ic we) ((x_op ic we ss).toInt) ((x_la ic we un ss bs).toInt) ((x_sh cw ic we un (se 1) ss bs).toInt)) := hD
      refine va_get (D := (dC, dI)) (ci := 1) (v := .ref ((u_22).2.2.2.1)) (C := RX1) (T := TX1) (N := 7) hx hb hT hiX1 hown hK hP 0 rfl rfl 3 (by decide) (hT _ kf_X3_138) (fun _ h9 => h9) rfl dX3_due_25 ?_
      refine lv_aload_n hx hb dX3_due_28 rfl (lv_at hl 0 rfl) ?_
      refine lv_iload_n hx hb dX3_due_29 rfl (lv_at hl 1 rfl) ?_
      refine vp_callSi (rRV (As := [.int (nI j)]) (rest := [.ref ((u_22).2.2.2.1)]) ⟨hx, hb, hml, hown, hT⟩ (c_X3_bears (l := l) j (by first | assumption | omega)) (cwTV 1 hT kc_X3_bears km_X3_149 ki_X3_bears ks_X3_bears kn_X3 rfl rfl md_X3_bears ⟨Nat.le_of_ble_eq_true rfl, Nat.le_of_ble_eq_true rfl⟩) (keepP hP0 hS) hK (va_recv hK (keepP hP0 hS) (ci := 3) (q0 := 0) rfl rfl) rfl hl.1 rfl (Nat.le_of_ble_eq_true rfl) dX3_due_30 ⟨Nat.le_of_ble_eq_true rfl, Nat.le_of_ble_eq_true rfl⟩) (fun r_30 hw_30 => ?_)
      subst hw_30
      refine lv_i2l (v := iL (x_bears bs ss we un j : Int32).toInt) hx hb dX3_due_33 rfl ?_
      refine fN_r (rNV (As := [.long (iL (x_bears bs ss we un j : Int32).toInt)]) (rest := []) ⟨hx, hb, hml, hown, hT⟩ (c_X2_times (l := l) H.size ((x_bears bs ss we un j : Int32).toInt) (pw_k hok (hbe j hj).1 (hbe j hj).2) (by have := o_pw_bd hok; omega)) (cwTV 1 hT kc_X2_times km_X3_145 ki_X2_times ks_X2_times kn_X2 rfl rfl md_X2_times ⟨Nat.le_of_ble_eq_true rfl, Nat.le_of_ble_eq_true rfl⟩) (va_P.sub (ws' := shQ  ((u_22).2.2.2.1) (o_pw (x_E ln cw ic se we) (x_C ln cw ic we un sf (se 0) ss) (x_dn cw ic we) ((x_op ic we ss).toInt) ((x_la ic we un ss bs).toInt) ((x_sh cw ic we un (se 1) ss bs).toInt))) hP [4] rfl) hK (va_recv hK hP (ci := 2) (q0 := 4) rfl rfl) rfl hl.1 rfl (Nat.le_of_ble_eq_true rfl) dX3_due_34 ⟨Nat.le_of_ble_eq_true rfl, Nat.le_of_ble_eq_true rfl⟩) hP hD hS hA (fun u_34 b_34 H locs hw_34 hP hD hS => ?_)
      have hP : va_P (dC, dI) vwCl ((oW  b_22 u_22 (x_E ln cw ic se we) (x_C ln cw ic we un sf (se 0) ss) (x_dn cw ic we) ((x_op ic we ss).toInt) ((x_la ic we un ss bs).toInt) ((x_sh cw ic we un (se 1) ss bs).toInt)) ++ (shQ  b_34 ((o_pw (x_E ln cw ic se we) (x_C ln cw ic we un sf (se 0) ss) (x_dn cw ic we) ((x_op ic we ss).toInt) ((x_la ic we un ss bs).toInt) ((x_sh cw ic we un (se 1) ss bs).toInt)) * (iQ ((x_bears bs ss we un j : Int32).toInt))))) H := hP
      have hD : va_D (fun q : Nat => s.heap.size ≤ q) ((oW  b_22 u_22 (x_E ln cw ic se we) (x_C ln cw ic we un sf (se 0) ss) (x_dn cw ic we) ((x_op ic we ss).toInt) ((x_la ic we un ss bs).toInt) ((x_sh cw ic we un (se 1) ss bs).toInt)) ++ (shQ  b_34 ((o_pw (x_E ln cw ic se we) (x_C ln cw ic we un sf (se 0) ss) (x_dn cw ic we) ((x_op ic we ss).toInt) ((x_la ic we un ss bs).toInt) ((x_sh cw ic we un (se 1) ss bs).toInt)) * (iQ ((x_bears bs ss we un j : Int32).toInt))))) := hD
      refine lv_iload_n hx hb dX3_due_37 rfl (lv_at hl 2 rfl) ?_
      refine vp_callSl (rRV (As := [.int wh]) (rest := []) ⟨hx, hb, hml, hown, hT⟩ (c_X2_told (l := l) wh) (cwTV 1 hT kc_X2_told km_X3_108 ki_X2_told ks_X2_told kn_X2 rfl rfl md_X2_told ⟨Nat.le_of_ble_eq_true rfl, Nat.le_of_ble_eq_true rfl⟩) (va_P.sub (ws' := shQ  b_34 ((o_pw (x_E ln cw ic se we) (x_C ln cw ic we un sf (se 0) ss) (x_dn cw ic we) ((x_op ic we ss).toInt) ((x_la ic we un ss bs).toInt) ((x_sh cw ic we un (se 1) ss bs).toInt)) * (iQ ((x_bears bs ss we un j : Int32).toInt)))) hP [7] rfl) hK (va_recv hK hP (ci := 2) (q0 := 7) rfl rfl) rfl hl.1 rfl (Nat.le_of_ble_eq_true rfl) dX3_due_38 ⟨Nat.le_of_ble_eq_true rfl, Nat.le_of_ble_eq_true rfl⟩) (fun r_38 hw_38 => ?_)
      subst hw_38
      exact retN_l (post := fun r _ => (((¬ ∃ i7, i7 < 6 ∧ (nI j) = nI i7 ∧ bt ic i7 = true) ∨ (wh < 0 ∨ 1 < wh)) ∧ r = (-9223372036854775808)) ∨ (∃ i7, i7 < 6 ∧ (nI j) = nI i7 ∧ bt ic i7 = true ∧ ¬ (wh < 0 ∨ 1 < wh) ∧ r = tellQ (o_pw (x_E ln cw ic se we) (x_C ln cw ic we un sf (se 0) ss) (x_dn cw ic we) ((x_op ic we ss).toInt) ((x_la ic we un ss bs).toInt) ((x_sh cw ic we un (se 1) ss bs).toInt) * iQ (x_bears bs ss we un i7).toInt) wh)) hx hb hr hlocks (by first | exact Or.inl ⟨Or.inl hw_2, rfl⟩ | exact Or.inl ⟨Or.inr hw_11, rfl⟩ | exact Or.inr ⟨j, hj, rfl, hbj, hw_11, rfl⟩) hS dX3_due_41
  · refine lv_if_eq (tgt := 17) hx hb dX3_due_5 (by decide) (fun c_5 => ?_) (fun h => absurd h (by decide))
    refine lv_ldc2 hx hb hown (hT _ kj_X3_96) dX3_due_17 ?_
    refine W.widen (k := 8) (n := 21) (Nat.le_of_ble_eq_true rfl) (Nat.le_of_ble_eq_true rfl) ?_
    exact retN_l (post := fun r _ => (((¬ ∃ i7, i7 < 6 ∧ v = nI i7 ∧ bt ic i7 = true) ∨ (wh < 0 ∨ 1 < wh)) ∧ r = (-9223372036854775808)) ∨ (∃ i7, i7 < 6 ∧ v = nI i7 ∧ bt ic i7 = true ∧ ¬ (wh < 0 ∨ 1 < wh) ∧ r = tellQ (o_pw (x_E ln cw ic se we) (x_C ln cw ic we un sf (se 0) ss) (x_dn cw ic we) ((x_op ic we ss).toInt) ((x_la ic we un ss bs).toInt) ((x_sh cw ic we un (se 1) ss bs).toInt) * iQ (x_bears bs ss we un i7).toInt) wh)) hx hb hr hlocks (by first | exact Or.inl ⟨Or.inl hw_2, rfl⟩ | exact Or.inl ⟨Or.inr hw_11, rfl⟩ | exact Or.inr ⟨j, hj, rfl, hbj, hw_11, rfl⟩) hS dX3_due_20
set_option maxHeartbeats 4000000 in
set_option maxRecDepth 100000 in
theorem c_X3_saves (sz : Nat) (v x wh : Int32) (hok : ∀ j, j < 6 → bt ic j = true → x_ok ln cw ic se we un sf (se 0) (se 1) (ss &&& (un j ^^^ (-1))) bs) (hub : ∀ j, j < 6 → bt ic j = true → 0 ≤ (x_ub ic bs we un j (ss &&& (un j ^^^ (-1)))).toInt ∧ (x_ub ic bs we un j (ss &&& (un j ^^^ (-1)))).toInt ≤ 600) : Met l yX3_saves (wT yX3_saves cX3_saves 6 (some .long)) ({ frames := 6, cells := 9, slots := 23, locals := 147 }) (pN (dC, dI) (ty3 cI cJ cZ) (xW cI q ln cw ic bs ss se we un sf pa) [.ref (q 0), .int v, .int x, .int wh] sz) (va_Ql (S := Unit) (fun r _ => (((¬ ∃ i7, i7 < 6 ∧ v = nI i7 ∧ bt ic i7 = true) ∨ (x < 0 ∨ 1000000 < x) ∨ (wh < 0 ∨ 1 < wh)) ∧ r = (-9223372036854775808)) ∨ (∃ i7, i7 < 6 ∧ v = nI i7 ∧ bt ic i7 = true ∧ ¬ (x < 0 ∨ 1000000 < x) ∧ ¬ (wh < 0 ∨ 1 < wh) ∧ r = tellQ (o_pw (x_E ln cw ic se we) (x_C ln cw ic we un sf (se 0) (ss &&& (un i7 ^^^ (-1)))) (x_dn cw ic we) ((x_op ic we (ss &&& (un i7 ^^^ (-1)))).toInt) ((x_la ic we un (ss &&& (un i7 ^^^ (-1))) bs).toInt) ((x_sh cw ic we un (se 1) (ss &&& (un i7 ^^^ (-1))) bs).toInt) * iQ (x_ub ic bs we un i7 (ss &&& (un i7 ^^^ (-1)))).toInt + iQ (-x).toInt) wh)) (fun _ _ => True) (fun q : Nat => sz ≤ q)) 9 23 (fun q : Nat => sz ≤ q) := by
  refine Met.ofW (cc := cX3_saves) (maxL := 6) (ret := (some .long)) (by decide) rfl ?_
  intro p e s m args below meth c s₁ B hml hv
  obtain ⟨rfl, hsz, hP0, hK⟩ := hv
  have hx := B.exec
  have hb := B.bytes
  have hr := B.returns
  have hts := atoms_spec (ws := wT yX3_saves cX3_saves 6 (some .long)) B.pre
  have hT := wT_T hts
  have hown : s.vm.findClass RX3 = some m.cls := findClass_of_methodNamed B.named
  have hlocks := B.notSynchronized
  subst hsz
  have hA : ∀ q : Nat, s.heap.size ≤ q → (fun q : Nat => s.heap.size ≤ q) q := fun q h => h
  have hS : va_S (fun q : Nat => s.heap.size ≤ q) s.heap s.heap [] := va_S.rf
  have hP : va_P (dC, dI) vwCl [] s.heap := nilP
  have hD : va_D (fun q : Nat => s.heap.size ≤ q) [] := nilD
  have hl := lv_entry ([.ref (q 0), .int v, .int x, .int wh]) (n := 6) (Nat.le_of_ble_eq_true rfl)
  rw [lg_entry_eq]
  generalize (lg_sl ([.ref (q 0), .int v, .int x, .int wh]) ++ List.replicate (6 - (lg_sl ([.ref (q 0), .int v, .int x, .int wh])).length) Slot.unset).toArray = ls at hl ⊢
  have hl : lv_has ls 6 [(0, .ref (q 0)), (1, .int v), (2, .int x), (3, .int wh)] := hl
  refine lv_aload_n hx hb dX3_saves_0 rfl (lv_at hl 0 rfl) ?_
  refine lv_iload_n hx hb dX3_saves_1 rfl (lv_at hl 1 rfl) ?_
  refine vp_callSi (rRV (As := [.int v]) (rest := []) ⟨hx, hb, hml, hown, hT⟩ (c_X3_isKnown (l := l) v) (cwTV 1 hT kc_X3_isKnown km_X3_57 ki_X3_isKnown ks_X3_isKnown kn_X3 rfl rfl md_X3_isKnown ⟨Nat.le_of_ble_eq_true rfl, Nat.le_of_ble_eq_true rfl⟩) (keepP hP0 hS) hK (va_recv hK (keepP hP0 hS) (ci := 3) (q0 := 0) rfl rfl) rfl hl.1 rfl (Nat.le_of_ble_eq_true rfl) dX3_saves_2 ⟨Nat.le_of_ble_eq_true rfl, Nat.le_of_ble_eq_true rfl⟩) (fun r_2 hw_2 => ?_)
  rcases hw_2 with ⟨rfl, hw_2⟩ | ⟨rfl, hw_2⟩
  · obtain ⟨j, hj, rfl, hbj⟩ := hw_2
    refine lv_if_eq (tgt := 27) hx hb dX3_saves_5 (by decide) (fun h => absurd h (by decide)) (fun c_5 => ?_)
    refine lv_iload_n hx hb dX3_saves_8 rfl (lv_at hl 2 rfl) ?_
    refine lv_iconst (v := 0) hx hb dX3_saves_9 (by decide) ?_
    refine lv_ldc hx hb hown (hT _ kk_X3_34) dX3_saves_10 ?_
    refine vp_callSi (rRS (As := [.int x, .int 0, .int 1000000]) (rest := []) ⟨hx, hb, hml, hown, hT⟩ (c_X3_isOutside (l := l) x 0 1000000) (cwTS 3 hT kc_X3_isOutside km_X3_35 kt_X3_isOutside kn_X3 rfl rfl md_X3_isOutside ⟨Nat.le_of_ble_eq_true rfl, Nat.le_of_ble_eq_true rfl⟩) nilP hK  rfl hl.1 rfl (Nat.le_of_ble_eq_true rfl) dX3_saves_12 ⟨Nat.le_of_ble_eq_true rfl, Nat.le_of_ble_eq_true rfl⟩) (fun r_12 hw_12 => ?_)
    rcases hw_12 with ⟨rfl, hw_12⟩ | ⟨rfl, hw_12⟩
    · refine lv_if_ne (tgt := 27) hx hb dX3_saves_15 (by decide) (fun c_15 => ?_) (fun h => absurd h (by decide))
      refine lv_ldc2 hx hb hown (hT _ kj_X3_96) dX3_saves_27 ?_
      refine W.widen (k := 9) (n := 23) (Nat.le_of_ble_eq_true rfl) (Nat.le_of_ble_eq_true rfl) ?_
      exact retN_l (post := fun r _ => (((¬ ∃ i7, i7 < 6 ∧ (nI j) = nI i7 ∧ bt ic i7 = true) ∨ (x < 0 ∨ 1000000 < x) ∨ (wh < 0 ∨ 1 < wh)) ∧ r = (-9223372036854775808)) ∨ (∃ i7, i7 < 6 ∧ (nI j) = nI i7 ∧ bt ic i7 = true ∧ ¬ (x < 0 ∨ 1000000 < x) ∧ ¬ (wh < 0 ∨ 1 < wh) ∧ r = tellQ (o_pw (x_E ln cw ic se we) (x_C ln cw ic we un sf (se 0) (ss &&& (un i7 ^^^ (-1)))) (x_dn cw ic we) ((x_op ic we (ss &&& (un i7 ^^^ (-1)))).toInt) ((x_la ic we un (ss &&& (un i7 ^^^ (-1))) bs).toInt) ((x_sh cw ic we un (se 1) (ss &&& (un i7 ^^^ (-1))) bs).toInt) * iQ (x_ub ic bs we un i7 (ss &&& (un i7 ^^^ (-1)))).toInt + iQ (-x).toInt) wh)) hx hb hr hlocks (by first | exact Or.inl ⟨Or.inl hw_2, rfl⟩ | exact Or.inl ⟨Or.inr (Or.inl hw_12), rfl⟩ | exact Or.inl ⟨Or.inr (Or.inr hw_21), rfl⟩ | exact Or.inr ⟨j, hj, rfl, hbj, hw_12, hw_21, rfl⟩) hS dX3_saves_30
    · refine lv_if_ne (tgt := 27) hx hb dX3_saves_15 (by decide) (fun h => absurd h (by decide)) (fun c_15 => ?_)
      refine lv_iload_n hx hb dX3_saves_18 rfl (lv_at hl 3 rfl) ?_
      refine lv_iconst (v := 0) hx hb dX3_saves_19 (by decide) ?_
      refine lv_iconst (v := 1) hx hb dX3_saves_20 (by decide) ?_
      refine vp_callSi (rRS (As := [.int wh, .int 0, .int 1]) (rest := []) ⟨hx, hb, hml, hown, hT⟩ (c_X3_isOutside (l := l) wh 0 1) (cwTS 3 hT kc_X3_isOutside km_X3_35 kt_X3_isOutside kn_X3 rfl rfl md_X3_isOutside ⟨Nat.le_of_ble_eq_true rfl, Nat.le_of_ble_eq_true rfl⟩) nilP hK  rfl hl.1 rfl (Nat.le_of_ble_eq_true rfl) dX3_saves_21 ⟨Nat.le_of_ble_eq_true rfl, Nat.le_of_ble_eq_true rfl⟩) (fun r_21 hw_21 => ?_)
      rcases hw_21 with ⟨rfl, hw_21⟩ | ⟨rfl, hw_21⟩
      · refine lv_if_eq (tgt := 31) hx hb dX3_saves_24 (by decide) (fun h => absurd h (by decide)) (fun c_24 => ?_)
        refine lv_ldc2 hx hb hown (hT _ kj_X3_96) dX3_saves_27 ?_
        refine W.widen (k := 9) (n := 23) (Nat.le_of_ble_eq_true rfl) (Nat.le_of_ble_eq_true rfl) ?_
        exact retN_l (post := fun r _ => (((¬ ∃ i7, i7 < 6 ∧ (nI j) = nI i7 ∧ bt ic i7 = true) ∨ (x < 0 ∨ 1000000 < x) ∨ (wh < 0 ∨ 1 < wh)) ∧ r = (-9223372036854775808)) ∨ (∃ i7, i7 < 6 ∧ (nI j) = nI i7 ∧ bt ic i7 = true ∧ ¬ (x < 0 ∨ 1000000 < x) ∧ ¬ (wh < 0 ∨ 1 < wh) ∧ r = tellQ (o_pw (x_E ln cw ic se we) (x_C ln cw ic we un sf (se 0) (ss &&& (un i7 ^^^ (-1)))) (x_dn cw ic we) ((x_op ic we (ss &&& (un i7 ^^^ (-1)))).toInt) ((x_la ic we un (ss &&& (un i7 ^^^ (-1))) bs).toInt) ((x_sh cw ic we un (se 1) (ss &&& (un i7 ^^^ (-1))) bs).toInt) * iQ (x_ub ic bs we un i7 (ss &&& (un i7 ^^^ (-1)))).toInt + iQ (-x).toInt) wh)) hx hb hr hlocks (by first | exact Or.inl ⟨Or.inl hw_2, rfl⟩ | exact Or.inl ⟨Or.inr (Or.inl hw_12), rfl⟩ | exact Or.inl ⟨Or.inr (Or.inr hw_21), rfl⟩ | exact Or.inr ⟨j, hj, rfl, hbj, hw_12, hw_21, rfl⟩) hS dX3_saves_30
      · refine lv_if_eq (tgt := 31) hx hb dX3_saves_24 (by decide) (fun c_24 => ?_) (fun h => absurd h (by decide))
        refine lv_aload_n hx hb dX3_saves_31 rfl (lv_at hl 0 rfl) ?_
        refine va_get (D := (dC, dI)) (ci := 3) (v := .int ss) (C := RX3) (T := TX3) (N := 11) hx hb hT hiX3 hown hK (keepP hP0 hS) 0 rfl rfl 5 (by decide) (hT _ kf_X3_79) (fun _ h9 => h9) rfl dX3_saves_32 ?_
        refine lv_aload_n hx hb dX3_saves_35 rfl (lv_at hl 0 rfl) ?_
        refine va_get (D := (dC, dI)) (ci := 3) (v := .ref (q 3)) (C := RX3) (T := TX3) (N := 11) hx hb hT hiX3 hown hK (keepP hP0 hS) 0 rfl rfl 7 (by decide) (hT _ kf_X3_18) (fun _ h9 => h9) rfl dX3_saves_36 ?_
        refine lv_iload_n hx hb dX3_saves_39 rfl (lv_at hl 1 rfl) ?_
        refine ald_i hx hb hK (keepP hP0 hS) 3 0 rfl rfl (by decide) (w := j) rfl (by omega) dX3_saves_40 ?_
        refine lv_iconst (v := (-1)) hx hb dX3_saves_41 (by decide) ?_
        refine lv_ixor hx hb dX3_saves_42 ?_
        refine lv_iand hx hb dX3_saves_43 ?_
        refine lv_istore (lv' := [(4, .int (ss &&& ((un j) ^^^ (-1)))), (0, .ref (q 0)), (1, .int (nI j)), (2, .int x), (3, .int wh)]) hx hb dX3_saves_44 hl (by decide) rfl (fun ls hl => ?_)
        refine lv_aload_n hx hb dX3_saves_46 rfl (lv_at hl 1 rfl) ?_
        refine lv_aload_n hx hb dX3_saves_47 rfl (lv_at hl 1 rfl) ?_
        refine va_get (D := (dC, dI)) (ci := 3) (v := .ref (q 1)) (C := RX3) (T := TX3) (N := 11) hx hb hT hiX3 hown hK (keepP hP0 hS) 0 rfl rfl 2 (by decide) (hT _ kf_X3_9) (fun _ h9 => h9) rfl dX3_saves_48 ?_
        refine lv_iconst (v := 0) hx hb dX3_saves_51 (by decide) ?_
        refine ald_i hx hb hK (keepP hP0 hS) 1 0 rfl rfl (by decide) (w := 0) rfl (by decide) dX3_saves_52 ?_
        refine lv_aload_n hx hb dX3_saves_53 rfl (lv_at hl 1 rfl) ?_
        refine va_get (D := (dC, dI)) (ci := 3) (v := .ref (q 1)) (C := RX3) (T := TX3) (N := 11) hx hb hT hiX3 hown hK (keepP hP0 hS) 0 rfl rfl 2 (by decide) (hT _ kf_X3_9) (fun _ h9 => h9) rfl dX3_saves_54 ?_
        refine lv_iconst (v := 1) hx hb dX3_saves_57 (by decide) ?_
        refine ald_i hx hb hK (keepP hP0 hS) 1 0 rfl rfl (by decide) (w := 1) rfl (by decide) dX3_saves_58 ?_
        refine lv_iload hx hb dX3_saves_59 (lv_at hl 0 rfl) ?_
        refine lv_aload_n hx hb dX3_saves_61 rfl (lv_at hl 1 rfl) ?_
        refine va_get (D := (dC, dI)) (ci := 3) (v := .int bs) (C := RX3) (T := TX3) (N := 11) hx hb hT hiX3 hown hK (keepP hP0 hS) 0 rfl rfl 4 (by decide) (hT _ kf_X3_68) (fun _ h9 => h9) rfl dX3_saves_62 ?_
        refine fN_r (rNV (As := [.int (se 0), .int (se 1), .int (ss &&& ((un j) ^^^ (-1))), .int bs]) (rest := []) ⟨hx, hb, hml, hown, hT⟩ (c_X3_owedIf (l := l) s.heap.size (se 0) (se 1) (ss &&& ((un j) ^^^ (-1))) bs (hok j hj hbj)) (cwTV 4 hT kc_X3_owedIf km_X3_164 ki_X3_owedIf ks_X3_owedIf kn_X3 rfl rfl md_X3_owedIf ⟨Nat.le_of_ble_eq_true rfl, Nat.le_of_ble_eq_true rfl⟩) (keepP hP0 hS) hK (va_recv hK (keepP hP0 hS) (ci := 3) (q0 := 0) rfl rfl) rfl hl.1 rfl (Nat.le_of_ble_eq_true rfl) dX3_saves_65 ⟨Nat.le_of_ble_eq_true rfl, Nat.le_of_ble_eq_true rfl⟩) hP hD hS hA (fun u_65 b_65 H locs hw_65 hP hD hS => ?_)
        have hP : va_P (dC, dI) vwCl (oW  b_65 u_65 (x_E ln cw ic se we) (x_C ln cw ic we un sf (se 0) (ss &&& ((un j) ^^^ (-1)))) (x_dn cw ic we) ((x_op ic we (ss &&& ((un j) ^^^ (-1)))).toInt) ((x_la ic we un (ss &&& ((un j) ^^^ (-1))) bs).toInt) ((x_sh cw ic we un (se 1) (ss &&& ((un j) ^^^ (-1))) bs).toInt)) H := hP
        have hD : va_D (fun q : Nat => s.heap.size ≤ q) (oW  b_65 u_65 (x_E ln cw ic se we) (x_C ln cw ic we un sf (se 0) (ss &&& ((un j) ^^^ (-1)))) (x_dn cw ic we) ((x_op ic we (ss &&& ((un j) ^^^ (-1)))).toInt) ((x_la ic we un (ss &&& ((un j) ^^^ (-1))) bs).toInt) ((x_sh cw ic we un (se 1) (ss &&& ((un j) ^^^ (-1))) bs).toInt)) := hD
        refine lv_astore (lv' := [(5, .ref b_65), (4, .int (ss &&& ((un j) ^^^ (-1)))), (0, .ref (q 0)), (1, .int (nI j)), (2, .int x), (3, .int wh)]) hx hb dX3_saves_68 hl (by decide) rfl (fun ls hl => ?_)
        refine lv_aload hx hb dX3_saves_70 (lv_at hl 0 rfl) ?_
        refine va_get (D := (dC, dI)) (ci := 1) (v := .ref ((u_65).2.2.2.1)) (C := RX1) (T := TX1) (N := 7) hx hb hT hiX1 hown hK hP 0 rfl rfl 3 (by decide) (hT _ kf_X3_138) (fun _ h9 => h9) rfl dX3_saves_72 ?_
        refine lv_aload_n hx hb dX3_saves_75 rfl (lv_at hl 2 rfl) ?_
        refine lv_iload_n hx hb dX3_saves_76 rfl (lv_at hl 3 rfl) ?_
        refine lv_iload hx hb dX3_saves_77 (lv_at hl 1 rfl) ?_
        refine vp_callSi (rRV (As := [.int (nI j), .int (ss &&& ((un j) ^^^ (-1)))]) (rest := [.ref ((u_65).2.2.2.1)]) ⟨hx, hb, hml, hown, hT⟩ (c_X3_unitBears (l := l) j (ss &&& ((un j) ^^^ (-1))) (by first | assumption | omega)) (cwTV 2 hT kc_X3_unitBears km_X3_141 ki_X3_unitBears ks_X3_unitBears kn_X3 rfl rfl md_X3_unitBears ⟨Nat.le_of_ble_eq_true rfl, Nat.le_of_ble_eq_true rfl⟩) (keepP hP0 hS) hK (va_recv hK (keepP hP0 hS) (ci := 3) (q0 := 0) rfl rfl) rfl hl.1 rfl (Nat.le_of_ble_eq_true rfl) dX3_saves_79 ⟨Nat.le_of_ble_eq_true rfl, Nat.le_of_ble_eq_true rfl⟩) (fun r_79 hw_79 => ?_)
        subst hw_79
        refine lv_i2l (v := iL (x_ub ic bs we un j (ss &&& ((un j) ^^^ (-1))) : Int32).toInt) hx hb dX3_saves_82 rfl ?_
        refine fN_r (rNV (As := [.long (iL (x_ub ic bs we un j (ss &&& ((un j) ^^^ (-1))) : Int32).toInt)]) (rest := []) ⟨hx, hb, hml, hown, hT⟩ (c_X2_times (l := l) H.size ((x_ub ic bs we un j (ss &&& ((un j) ^^^ (-1))) : Int32).toInt) (pw_k (hok j hj hbj) (hub j hj hbj).1 (hub j hj hbj).2) (by have := o_pw_bd (hok j hj hbj); omega)) (cwTV 1 hT kc_X2_times km_X3_145 ki_X2_times ks_X2_times kn_X2 rfl rfl md_X2_times ⟨Nat.le_of_ble_eq_true rfl, Nat.le_of_ble_eq_true rfl⟩) (va_P.sub (ws' := shQ  ((u_65).2.2.2.1) (o_pw (x_E ln cw ic se we) (x_C ln cw ic we un sf (se 0) (ss &&& ((un j) ^^^ (-1)))) (x_dn cw ic we) ((x_op ic we (ss &&& ((un j) ^^^ (-1)))).toInt) ((x_la ic we un (ss &&& ((un j) ^^^ (-1))) bs).toInt) ((x_sh cw ic we un (se 1) (ss &&& ((un j) ^^^ (-1))) bs).toInt))) hP [4] rfl) hK (va_recv hK hP (ci := 2) (q0 := 4) rfl rfl) rfl hl.1 rfl (Nat.le_of_ble_eq_true rfl) dX3_saves_83 ⟨Nat.le_of_ble_eq_true rfl, Nat.le_of_ble_eq_true rfl⟩) hP hD hS hA (fun u_83 b_83 H locs hw_83 hP hD hS => ?_)
        have hP : va_P (dC, dI) vwCl ((oW  b_65 u_65 (x_E ln cw ic se we) (x_C ln cw ic we un sf (se 0) (ss &&& ((un j) ^^^ (-1)))) (x_dn cw ic we) ((x_op ic we (ss &&& ((un j) ^^^ (-1)))).toInt) ((x_la ic we un (ss &&& ((un j) ^^^ (-1))) bs).toInt) ((x_sh cw ic we un (se 1) (ss &&& ((un j) ^^^ (-1))) bs).toInt)) ++ (shQ  b_83 ((o_pw (x_E ln cw ic se we) (x_C ln cw ic we un sf (se 0) (ss &&& ((un j) ^^^ (-1)))) (x_dn cw ic we) ((x_op ic we (ss &&& ((un j) ^^^ (-1)))).toInt) ((x_la ic we un (ss &&& ((un j) ^^^ (-1))) bs).toInt) ((x_sh cw ic we un (se 1) (ss &&& ((un j) ^^^ (-1))) bs).toInt)) * (iQ ((x_ub ic bs we un j (ss &&& ((un j) ^^^ (-1))) : Int32).toInt))))) H := hP
        have hD : va_D (fun q : Nat => s.heap.size ≤ q) ((oW  b_65 u_65 (x_E ln cw ic se we) (x_C ln cw ic we un sf (se 0) (ss &&& ((un j) ^^^ (-1)))) (x_dn cw ic we) ((x_op ic we (ss &&& ((un j) ^^^ (-1)))).toInt) ((x_la ic we un (ss &&& ((un j) ^^^ (-1))) bs).toInt) ((x_sh cw ic we un (se 1) (ss &&& ((un j) ^^^ (-1))) bs).toInt)) ++ (shQ  b_83 ((o_pw (x_E ln cw ic se we) (x_C ln cw ic we un sf (se 0) (ss &&& ((un j) ^^^ (-1)))) (x_dn cw ic we) ((x_op ic we (ss &&& ((un j) ^^^ (-1)))).toInt) ((x_la ic we un (ss &&& ((un j) ^^^ (-1))) bs).toInt) ((x_sh cw ic we un (se 1) (ss &&& ((un j) ^^^ (-1))) bs).toInt)) * (iQ ((x_ub ic bs we un j (ss &&& ((un j) ^^^ (-1))) : Int32).toInt))))) := hD
        refine lv_iload_n hx hb dX3_saves_86 rfl (lv_at hl 4 rfl) ?_
        refine lv_ineg hx hb dX3_saves_87 ?_
        refine lv_i2l (v := iL (-x : Int32).toInt) hx hb dX3_saves_88 rfl ?_
        refine fN_r (rNV (As := [.long (iL (-x : Int32).toInt)]) (rest := []) ⟨hx, hb, hml, hown, hT⟩ (c_X2_plusWhole (l := l) H.size ((-x : Int32).toInt) (by have h1 := mulI_le (o_pw (x_E ln cw ic se we) (x_C ln cw ic we un sf (se 0) (ss &&& (un j ^^^ (-1)))) (x_dn cw ic we) ((x_op ic we (ss &&& (un j ^^^ (-1)))).toInt) ((x_la ic we un (ss &&& (un j ^^^ (-1))) bs).toInt) ((x_sh cw ic we un (se 1) (ss &&& (un j ^^^ (-1))) bs).toInt)) (x_ub ic bs we un j (ss &&& (un j ^^^ (-1)))).toInt; have h2 := o_pw_bd (hok j hj hbj); have h3 := pw_k (hok j hj hbj) (hub j hj hbj).1 (hub j hj hbj).2; have h4 := Nat.mul_le_mul h2.1 (show (x_ub ic bs we un j (ss &&& (un j ^^^ (-1)))).toInt.natAbs ≤ 600 by have := hub j hj hbj; omega); rw [← Int.natAbs_mul] at h4; have h5 := Nat.mul_le_mul (show (-x).toInt.natAbs ≤ 2147483648 by have := (-x).toInt_lt; have := (-x).le_toInt; omega) (show (o_pw (x_E ln cw ic se we) (x_C ln cw ic we un sf (se 0) (ss &&& (un j ^^^ (-1)))) (x_dn cw ic we) ((x_op ic we (ss &&& (un j ^^^ (-1)))).toInt) ((x_la ic we un (ss &&& (un j ^^^ (-1))) bs).toInt) ((x_sh cw ic we un (se 1) (ss &&& (un j ^^^ (-1))) bs).toInt) * iQ (x_ub ic bs we un j (ss &&& (un j ^^^ (-1)))).toInt).den ≤ 294000001 by omega); have h6 : ((-x).toInt * ((o_pw (x_E ln cw ic se we) (x_C ln cw ic we un sf (se 0) (ss &&& (un j ^^^ (-1)))) (x_dn cw ic we) ((x_op ic we (ss &&& (un j ^^^ (-1)))).toInt) ((x_la ic we un (ss &&& (un j ^^^ (-1))) bs).toInt) ((x_sh cw ic we un (se 1) (ss &&& (un j ^^^ (-1))) bs).toInt) * iQ (x_ub ic bs we un j (ss &&& (un j ^^^ (-1)))).toInt).den : Int)).natAbs ≤ 2147483648 * 294000001 := (by rw [Int.natAbs_mul, Int.natAbs_natCast]; exact h5); unfold rng; omega) (by have h1 := mulI_le (o_pw (x_E ln cw ic se we) (x_C ln cw ic we un sf (se 0) (ss &&& (un j ^^^ (-1)))) (x_dn cw ic we) ((x_op ic we (ss &&& (un j ^^^ (-1)))).toInt) ((x_la ic we un (ss &&& (un j ^^^ (-1))) bs).toInt) ((x_sh cw ic we un (se 1) (ss &&& (un j ^^^ (-1))) bs).toInt)) (x_ub ic bs we un j (ss &&& (un j ^^^ (-1)))).toInt; have h2 := o_pw_bd (hok j hj hbj); omega)) (cwTV 1 hT kc_X2_plusWhole km_X3_168 ki_X2_plusWhole ks_X2_plusWhole kn_X2 rfl rfl md_X2_plusWhole ⟨Nat.le_of_ble_eq_true rfl, Nat.le_of_ble_eq_true rfl⟩) (va_P.sub (ws' := shQ  b_83 ((o_pw (x_E ln cw ic se we) (x_C ln cw ic we un sf (se 0) (ss &&& ((un j) ^^^ (-1)))) (x_dn cw ic we) ((x_op ic we (ss &&& ((un j) ^^^ (-1)))).toInt) ((x_la ic we un (ss &&& ((un j) ^^^ (-1))) bs).toInt) ((x_sh cw ic we un (se 1) (ss &&& ((un j) ^^^ (-1))) bs).toInt)) * (iQ ((x_ub ic bs we un j (ss &&& ((un j) ^^^ (-1))) : Int32).toInt)))) hP [7] rfl) hK (va_recv hK hP (ci := 2) (q0 := 7) rfl rfl) rfl hl.1 rfl (Nat.le_of_ble_eq_true rfl) dX3_saves_89 ⟨Nat.le_of_ble_eq_true rfl, Nat.le_of_ble_eq_true rfl⟩) hP hD hS hA (fun u_89 b_89 H locs hw_89 hP hD hS => ?_)
        have hP : va_P (dC, dI) vwCl ((oW  b_65 u_65 (x_E ln cw ic se we) (x_C ln cw ic we un sf (se 0) (ss &&& ((un j) ^^^ (-1)))) (x_dn cw ic we) ((x_op ic we (ss &&& ((un j) ^^^ (-1)))).toInt) ((x_la ic we un (ss &&& ((un j) ^^^ (-1))) bs).toInt) ((x_sh cw ic we un (se 1) (ss &&& ((un j) ^^^ (-1))) bs).toInt)) ++ (shQ  b_83 ((o_pw (x_E ln cw ic se we) (x_C ln cw ic we un sf (se 0) (ss &&& ((un j) ^^^ (-1)))) (x_dn cw ic we) ((x_op ic we (ss &&& ((un j) ^^^ (-1)))).toInt) ((x_la ic we un (ss &&& ((un j) ^^^ (-1))) bs).toInt) ((x_sh cw ic we un (se 1) (ss &&& ((un j) ^^^ (-1))) bs).toInt)) * (iQ ((x_ub ic bs we un j (ss &&& ((un j) ^^^ (-1))) : Int32).toInt)))) ++ (shQ  b_89 (((o_pw (x_E ln cw ic se we) (x_C ln cw ic we un sf (se 0) (ss &&& ((un j) ^^^ (-1)))) (x_dn cw ic we) ((x_op ic we (ss &&& ((un j) ^^^ (-1)))).toInt) ((x_la ic we un (ss &&& ((un j) ^^^ (-1))) bs).toInt) ((x_sh cw ic we un (se 1) (ss &&& ((un j) ^^^ (-1))) bs).toInt)) * (iQ ((x_ub ic bs we un j (ss &&& ((un j) ^^^ (-1))) : Int32).toInt))) + (iQ ((-x : Int32).toInt))))) H := hP
        have hD : va_D (fun q : Nat => s.heap.size ≤ q) ((oW  b_65 u_65 (x_E ln cw ic se we) (x_C ln cw ic we un sf (se 0) (ss &&& ((un j) ^^^ (-1)))) (x_dn cw ic we) ((x_op ic we (ss &&& ((un j) ^^^ (-1)))).toInt) ((x_la ic we un (ss &&& ((un j) ^^^ (-1))) bs).toInt) ((x_sh cw ic we un (se 1) (ss &&& ((un j) ^^^ (-1))) bs).toInt)) ++ (shQ  b_83 ((o_pw (x_E ln cw ic se we) (x_C ln cw ic we un sf (se 0) (ss &&& ((un j) ^^^ (-1)))) (x_dn cw ic we) ((x_op ic we (ss &&& ((un j) ^^^ (-1)))).toInt) ((x_la ic we un (ss &&& ((un j) ^^^ (-1))) bs).toInt) ((x_sh cw ic we un (se 1) (ss &&& ((un j) ^^^ (-1))) bs).toInt)) * (iQ ((x_ub ic bs we un j (ss &&& ((un j) ^^^ (-1))) : Int32).toInt)))) ++ (shQ  b_89 (((o_pw (x_E ln cw ic se we) (x_C ln cw ic we un sf (se 0) (ss &&& ((un j) ^^^ (-1)))) (x_dn cw ic we) ((x_op ic we (ss &&& ((un j) ^^^ (-1)))).toInt) ((x_la ic we un (ss &&& ((un j) ^^^ (-1))) bs).toInt) ((x_sh cw ic we un (se 1) (ss &&& ((un j) ^^^ (-1))) bs).toInt)) * (iQ ((x_ub ic bs we un j (ss &&& ((un j) ^^^ (-1))) : Int32).toInt))) + (iQ ((-x : Int32).toInt))))) := hD
        refine lv_iload_n hx hb dX3_saves_92 rfl (lv_at hl 5 rfl) ?_
        refine vp_callSl (rRV (As := [.int wh]) (rest := []) ⟨hx, hb, hml, hown, hT⟩ (c_X2_told (l := l) wh) (cwTV 1 hT kc_X2_told km_X3_108 ki_X2_told ks_X2_told kn_X2 rfl rfl md_X2_told ⟨Nat.le_of_ble_eq_true rfl, Nat.le_of_ble_eq_true rfl⟩) (va_P.sub (ws' := shQ  b_89 (((o_pw (x_E ln cw ic se we) (x_C ln cw ic we un sf (se 0) (ss &&& ((un j) ^^^ (-1)))) (x_dn cw ic we) ((x_op ic we (ss &&& ((un j) ^^^ (-1)))).toInt) ((x_la ic we un (ss &&& ((un j) ^^^ (-1))) bs).toInt) ((x_sh cw ic we un (se 1) (ss &&& ((un j) ^^^ (-1))) bs).toInt)) * (iQ ((x_ub ic bs we un j (ss &&& ((un j) ^^^ (-1))) : Int32).toInt))) + (iQ ((-x : Int32).toInt)))) hP [8] rfl) hK (va_recv hK hP (ci := 2) (q0 := 8) rfl rfl) rfl hl.1 rfl (Nat.le_of_ble_eq_true rfl) dX3_saves_93 ⟨Nat.le_of_ble_eq_true rfl, Nat.le_of_ble_eq_true rfl⟩) (fun r_93 hw_93 => ?_)
        subst hw_93
        exact retN_l (post := fun r _ => (((¬ ∃ i7, i7 < 6 ∧ (nI j) = nI i7 ∧ bt ic i7 = true) ∨ (x < 0 ∨ 1000000 < x) ∨ (wh < 0 ∨ 1 < wh)) ∧ r = (-9223372036854775808)) ∨ (∃ i7, i7 < 6 ∧ (nI j) = nI i7 ∧ bt ic i7 = true ∧ ¬ (x < 0 ∨ 1000000 < x) ∧ ¬ (wh < 0 ∨ 1 < wh) ∧ r = tellQ (o_pw (x_E ln cw ic se we) (x_C ln cw ic we un sf (se 0) (ss &&& (un i7 ^^^ (-1)))) (x_dn cw ic we) ((x_op ic we (ss &&& (un i7 ^^^ (-1)))).toInt) ((x_la ic we un (ss &&& (un i7 ^^^ (-1))) bs).toInt) ((x_sh cw ic we un (se 1) (ss &&& (un i7 ^^^ (-1))) bs).toInt) * iQ (x_ub ic bs we un i7 (ss &&& (un i7 ^^^ (-1)))).toInt + iQ (-x).toInt) wh)) hx hb hr hlocks (by first | exact Or.inl ⟨Or.inl hw_2, rfl⟩ | exact Or.inl ⟨Or.inr (Or.inl hw_12), rfl⟩ | exact Or.inl ⟨Or.inr (Or.inr hw_21), rfl⟩ | exact Or.inr ⟨j, hj, rfl, hbj, hw_12, hw_21, rfl⟩) hS dX3_saves_96
  · refine lv_if_eq (tgt := 27) hx hb dX3_saves_5 (by decide) (fun c_5 => ?_) (fun h => absurd h (by decide))
    refine lv_ldc2 hx hb hown (hT _ kj_X3_96) dX3_saves_27 ?_
    refine W.widen (k := 9) (n := 23) (Nat.le_of_ble_eq_true rfl) (Nat.le_of_ble_eq_true rfl) ?_
    exact retN_l (post := fun r _ => (((¬ ∃ i7, i7 < 6 ∧ v = nI i7 ∧ bt ic i7 = true) ∨ (x < 0 ∨ 1000000 < x) ∨ (wh < 0 ∨ 1 < wh)) ∧ r = (-9223372036854775808)) ∨ (∃ i7, i7 < 6 ∧ v = nI i7 ∧ bt ic i7 = true ∧ ¬ (x < 0 ∨ 1000000 < x) ∧ ¬ (wh < 0 ∨ 1 < wh) ∧ r = tellQ (o_pw (x_E ln cw ic se we) (x_C ln cw ic we un sf (se 0) (ss &&& (un i7 ^^^ (-1)))) (x_dn cw ic we) ((x_op ic we (ss &&& (un i7 ^^^ (-1)))).toInt) ((x_la ic we un (ss &&& (un i7 ^^^ (-1))) bs).toInt) ((x_sh cw ic we un (se 1) (ss &&& (un i7 ^^^ (-1))) bs).toInt) * iQ (x_ub ic bs we un i7 (ss &&& (un i7 ^^^ (-1)))).toInt + iQ (-x).toInt) wh)) hx hb hr hlocks (by first | exact Or.inl ⟨Or.inl hw_2, rfl⟩ | exact Or.inl ⟨Or.inr (Or.inl hw_12), rfl⟩ | exact Or.inl ⟨Or.inr (Or.inr hw_21), rfl⟩ | exact Or.inr ⟨j, hj, rfl, hbj, hw_12, hw_21, rfl⟩) hS dX3_saves_30
set_option maxHeartbeats 4000000 in
set_option maxRecDepth 100000 in
theorem c_X3_misses (sz : Nat) (v wh : Int32) (ho1 : ∀ j, j < 6 → bt ic j = true → x_ok ln cw ic se we un sf (se 0) (se 1) ss (bs ||| x_bit j)) (ho2 : ∀ j, j < 6 → bt ic j = true → x_ok ln cw ic se we un sf (se 0) (se 1) ss (bs &&& (x_bit j ^^^ (-1)))) : Met l yX3_misses (wT yX3_misses cX3_misses 5 (some .long)) ({ frames := 6, cells := 15, slots := 40, locals := 147 }) (pN (dC, dI) (ty3 cI cJ cZ) (xW cI q ln cw ic bs ss se we un sf pa) [.ref (q 0), .int v, .int wh] sz) (va_Ql (S := Unit) (fun r _ => (((¬ ∃ i7, i7 < 6 ∧ v = nI i7 ∧ bt ic i7 = true) ∨ (wh < 0 ∨ 1 < wh)) ∧ r = (-9223372036854775808)) ∨ (∃ i7, i7 < 6 ∧ v = nI i7 ∧ bt ic i7 = true ∧ ¬ (wh < 0 ∨ 1 < wh) ∧ r = tellQ (o_mi (x_E ln cw ic se we) (x_C ln cw ic we un sf (se 0) ss) (x_dn cw ic we) ((x_op ic we ss).toInt) ((x_la ic we un ss (bs ||| x_bit i7)).toInt) ((x_sh cw ic we un (se 1) ss (bs ||| x_bit i7)).toInt) - o_mi (x_E ln cw ic se we) (x_C ln cw ic we un sf (se 0) ss) (x_dn cw ic we) ((x_op ic we ss).toInt) ((x_la ic we un ss (bs &&& (x_bit i7 ^^^ (-1)))).toInt) ((x_sh cw ic we un (se 1) ss (bs &&& (x_bit i7 ^^^ (-1)))).toInt)) wh)) (fun _ _ => True) (fun q : Nat => sz ≤ q)) 15 40 (fun q : Nat => sz ≤ q) := by
  refine Met.ofW (cc := cX3_misses) (maxL := 5) (ret := (some .long)) (by decide) rfl ?_
  intro p e s m args below meth c s₁ B hml hv
  obtain ⟨rfl, hsz, hP0, hK⟩ := hv
  have hx := B.exec
  have hb := B.bytes
  have hr := B.returns
  have hts := atoms_spec (ws := wT yX3_misses cX3_misses 5 (some .long)) B.pre
  have hT := wT_T hts
  have hown : s.vm.findClass RX3 = some m.cls := findClass_of_methodNamed B.named
  have hlocks := B.notSynchronized
  subst hsz
  have hA : ∀ q : Nat, s.heap.size ≤ q → (fun q : Nat => s.heap.size ≤ q) q := fun q h => h
  have hS : va_S (fun q : Nat => s.heap.size ≤ q) s.heap s.heap [] := va_S.rf
  have hP : va_P (dC, dI) vwCl [] s.heap := nilP
  have hD : va_D (fun q : Nat => s.heap.size ≤ q) [] := nilD
  have hl := lv_entry ([.ref (q 0), .int v, .int wh]) (n := 5) (Nat.le_of_ble_eq_true rfl)
  rw [lg_entry_eq]
  generalize (lg_sl ([.ref (q 0), .int v, .int wh]) ++ List.replicate (5 - (lg_sl ([.ref (q 0), .int v, .int wh])).length) Slot.unset).toArray = ls at hl ⊢
  have hl : lv_has ls 5 [(0, .ref (q 0)), (1, .int v), (2, .int wh)] := hl
  refine lv_aload_n hx hb dX3_misses_0 rfl (lv_at hl 0 rfl) ?_
  refine lv_iload_n hx hb dX3_misses_1 rfl (lv_at hl 1 rfl) ?_
  refine vp_callSi (rRV (As := [.int v]) (rest := []) ⟨hx, hb, hml, hown, hT⟩ (c_X3_isKnown (l := l) v) (cwTV 1 hT kc_X3_isKnown km_X3_57 ki_X3_isKnown ks_X3_isKnown kn_X3 rfl rfl md_X3_isKnown ⟨Nat.le_of_ble_eq_true rfl, Nat.le_of_ble_eq_true rfl⟩) (keepP hP0 hS) hK (va_recv hK (keepP hP0 hS) (ci := 3) (q0 := 0) rfl rfl) rfl hl.1 rfl (Nat.le_of_ble_eq_true rfl) dX3_misses_2 ⟨Nat.le_of_ble_eq_true rfl, Nat.le_of_ble_eq_true rfl⟩) (fun r_2 hw_2 => ?_)
  rcases hw_2 with ⟨rfl, hw_2⟩ | ⟨rfl, hw_2⟩
  · obtain ⟨j, hj, rfl, hbj⟩ := hw_2
    refine lv_if_eq (tgt := 17) hx hb dX3_misses_5 (by decide) (fun h => absurd h (by decide)) (fun c_5 => ?_)
    refine lv_iload_n hx hb dX3_misses_8 rfl (lv_at hl 2 rfl) ?_
    refine lv_iconst (v := 0) hx hb dX3_misses_9 (by decide) ?_
    refine lv_iconst (v := 1) hx hb dX3_misses_10 (by decide) ?_
    refine vp_callSi (rRS (As := [.int wh, .int 0, .int 1]) (rest := []) ⟨hx, hb, hml, hown, hT⟩ (c_X3_isOutside (l := l) wh 0 1) (cwTS 3 hT kc_X3_isOutside km_X3_35 kt_X3_isOutside kn_X3 rfl rfl md_X3_isOutside ⟨Nat.le_of_ble_eq_true rfl, Nat.le_of_ble_eq_true rfl⟩) nilP hK  rfl hl.1 rfl (Nat.le_of_ble_eq_true rfl) dX3_misses_11 ⟨Nat.le_of_ble_eq_true rfl, Nat.le_of_ble_eq_true rfl⟩) (fun r_11 hw_11 => ?_)
    rcases hw_11 with ⟨rfl, hw_11⟩ | ⟨rfl, hw_11⟩
    · refine lv_if_eq (tgt := 21) hx hb dX3_misses_14 (by decide) (fun h => absurd h (by decide)) (fun c_14 => ?_)
      refine lv_ldc2 hx hb hown (hT _ kj_X3_96) dX3_misses_17 ?_
      refine W.widen (k := 15) (n := 40) (Nat.le_of_ble_eq_true rfl) (Nat.le_of_ble_eq_true rfl) ?_
      exact retN_l (post := fun r _ => (((¬ ∃ i7, i7 < 6 ∧ (nI j) = nI i7 ∧ bt ic i7 = true) ∨ (wh < 0 ∨ 1 < wh)) ∧ r = (-9223372036854775808)) ∨ (∃ i7, i7 < 6 ∧ (nI j) = nI i7 ∧ bt ic i7 = true ∧ ¬ (wh < 0 ∨ 1 < wh) ∧ r = tellQ (o_mi (x_E ln cw ic se we) (x_C ln cw ic we un sf (se 0) ss) (x_dn cw ic we) ((x_op ic we ss).toInt) ((x_la ic we un ss (bs ||| x_bit i7)).toInt) ((x_sh cw ic we un (se 1) ss (bs ||| x_bit i7)).toInt) - o_mi (x_E ln cw ic se we) (x_C ln cw ic we un sf (se 0) ss) (x_dn cw ic we) ((x_op ic we ss).toInt) ((x_la ic we un ss (bs &&& (x_bit i7 ^^^ (-1)))).toInt) ((x_sh cw ic we un (se 1) ss (bs &&& (x_bit i7 ^^^ (-1)))).toInt)) wh)) hx hb hr hlocks (by first | exact Or.inl ⟨Or.inl hw_2, rfl⟩ | exact Or.inl ⟨Or.inr hw_11, rfl⟩ | exact Or.inr ⟨j, hj, rfl, hbj, hw_11, rfl⟩) hS dX3_misses_20
    · refine lv_if_eq (tgt := 21) hx hb dX3_misses_14 (by decide) (fun c_14 => ?_) (fun h => absurd h (by decide))
      refine lv_aload_n hx hb dX3_misses_21 rfl (lv_at hl 0 rfl) ?_
      refine lv_aload_n hx hb dX3_misses_22 rfl (lv_at hl 0 rfl) ?_
      refine va_get (D := (dC, dI)) (ci := 3) (v := .ref (q 1)) (C := RX3) (T := TX3) (N := 11) hx hb hT hiX3 hown hK (keepP hP0 hS) 0 rfl rfl 2 (by decide) (hT _ kf_X3_9) (fun _ h9 => h9) rfl dX3_misses_23 ?_
      refine lv_iconst (v := 0) hx hb dX3_misses_26 (by decide) ?_
      refine ald_i hx hb hK (keepP hP0 hS) 1 0 rfl rfl (by decide) (w := 0) rfl (by decide) dX3_misses_27 ?_
      refine lv_aload_n hx hb dX3_misses_28 rfl (lv_at hl 0 rfl) ?_
      refine va_get (D := (dC, dI)) (ci := 3) (v := .ref (q 1)) (C := RX3) (T := TX3) (N := 11) hx hb hT hiX3 hown hK (keepP hP0 hS) 0 rfl rfl 2 (by decide) (hT _ kf_X3_9) (fun _ h9 => h9) rfl dX3_misses_29 ?_
      refine lv_iconst (v := 1) hx hb dX3_misses_32 (by decide) ?_
      refine ald_i hx hb hK (keepP hP0 hS) 1 0 rfl rfl (by decide) (w := 1) rfl (by decide) dX3_misses_33 ?_
      refine lv_aload_n hx hb dX3_misses_34 rfl (lv_at hl 0 rfl) ?_
      refine va_get (D := (dC, dI)) (ci := 3) (v := .int ss) (C := RX3) (T := TX3) (N := 11) hx hb hT hiX3 hown hK (keepP hP0 hS) 0 rfl rfl 5 (by decide) (hT _ kf_X3_79) (fun _ h9 => h9) rfl dX3_misses_35 ?_
      refine lv_aload_n hx hb dX3_misses_38 rfl (lv_at hl 0 rfl) ?_
      refine va_get (D := (dC, dI)) (ci := 3) (v := .int bs) (C := RX3) (T := TX3) (N := 11) hx hb hT hiX3 hown hK (keepP hP0 hS) 0 rfl rfl 4 (by decide) (hT _ kf_X3_68) (fun _ h9 => h9) rfl dX3_misses_39 ?_
      refine lv_iload_n hx hb dX3_misses_42 rfl (lv_at hl 1 rfl) ?_
      refine vp_callSi (rRS (As := [.int (nI j)]) (rest := [.int bs, .int ss, .int (se 1), .int (se 0), .ref (q 0)]) ⟨hx, hb, hml, hown, hT⟩ (c_X3_bit (l := l) j) (cwTS 1 hT kc_X3_bit km_X3_53 kt_X3_bit kn_X3 rfl rfl md_X3_bit ⟨Nat.le_of_ble_eq_true rfl, Nat.le_of_ble_eq_true rfl⟩) nilP hK  rfl hl.1 rfl (Nat.le_of_ble_eq_true rfl) dX3_misses_43 ⟨Nat.le_of_ble_eq_true rfl, Nat.le_of_ble_eq_true rfl⟩) (fun r_43 hw_43 => ?_)
      subst hw_43
      refine lv_ior hx hb dX3_misses_46 ?_
      refine fN_r (rNV (As := [.int (se 0), .int (se 1), .int ss, .int (bs ||| (x_bit j))]) (rest := []) ⟨hx, hb, hml, hown, hT⟩ (c_X3_owedIf (l := l) s.heap.size (se 0) (se 1) ss (bs ||| (x_bit j)) (ho1 j hj hbj)) (cwTV 4 hT kc_X3_owedIf km_X3_164 ki_X3_owedIf ks_X3_owedIf kn_X3 rfl rfl md_X3_owedIf ⟨Nat.le_of_ble_eq_true rfl, Nat.le_of_ble_eq_true rfl⟩) (keepP hP0 hS) hK (va_recv hK (keepP hP0 hS) (ci := 3) (q0 := 0) rfl rfl) rfl hl.1 rfl (Nat.le_of_ble_eq_true rfl) dX3_misses_47 ⟨Nat.le_of_ble_eq_true rfl, Nat.le_of_ble_eq_true rfl⟩) hP hD hS hA (fun u_47 b_47 H locs hw_47 hP hD hS => ?_)
      have hP : va_P (dC, dI) vwCl (oW  b_47 u_47 (x_E ln cw ic se we) (x_C ln cw ic we un sf (se 0) ss) (x_dn cw ic we) ((x_op ic we ss).toInt) ((x_la ic we un ss (bs ||| (x_bit j))).toInt) ((x_sh cw ic we un (se 1) ss (bs ||| (x_bit j))).toInt)) H := hP
      have hD : va_D (fun q : Nat => s.heap.size ≤ q) (oW  b_47 u_47 (x_E ln cw ic se we) (x_C ln cw ic we un sf (se 0) ss) (x_dn cw ic we) ((x_op ic we ss).toInt) ((x_la ic we un ss (bs ||| (x_bit j))).toInt) ((x_sh cw ic we un (se 1) ss (bs ||| (x_bit j))).toInt)) := hD
      refine lv_astore_n (lv' := [(3, .ref b_47), (0, .ref (q 0)), (1, .int (nI j)), (2, .int wh)]) hx hb dX3_misses_50 rfl hl (by decide) rfl (fun ls hl => ?_)
      refine lv_aload_n hx hb dX3_misses_51 rfl (lv_at hl 1 rfl) ?_
      refine lv_aload_n hx hb dX3_misses_52 rfl (lv_at hl 1 rfl) ?_
      refine va_get (D := (dC, dI)) (ci := 3) (v := .ref (q 1)) (C := RX3) (T := TX3) (N := 11) hx hb hT hiX3 hown hK (keepP hP0 hS) 0 rfl rfl 2 (by decide) (hT _ kf_X3_9) (fun _ h9 => h9) rfl dX3_misses_53 ?_
      refine lv_iconst (v := 0) hx hb dX3_misses_56 (by decide) ?_
      refine ald_i hx hb hK (keepP hP0 hS) 1 0 rfl rfl (by decide) (w := 0) rfl (by decide) dX3_misses_57 ?_
      refine lv_aload_n hx hb dX3_misses_58 rfl (lv_at hl 1 rfl) ?_
      refine va_get (D := (dC, dI)) (ci := 3) (v := .ref (q 1)) (C := RX3) (T := TX3) (N := 11) hx hb hT hiX3 hown hK (keepP hP0 hS) 0 rfl rfl 2 (by decide) (hT _ kf_X3_9) (fun _ h9 => h9) rfl dX3_misses_59 ?_
      refine lv_iconst (v := 1) hx hb dX3_misses_62 (by decide) ?_
      refine ald_i hx hb hK (keepP hP0 hS) 1 0 rfl rfl (by decide) (w := 1) rfl (by decide) dX3_misses_63 ?_
      refine lv_aload_n hx hb dX3_misses_64 rfl (lv_at hl 1 rfl) ?_
      refine va_get (D := (dC, dI)) (ci := 3) (v := .int ss) (C := RX3) (T := TX3) (N := 11) hx hb hT hiX3 hown hK (keepP hP0 hS) 0 rfl rfl 5 (by decide) (hT _ kf_X3_79) (fun _ h9 => h9) rfl dX3_misses_65 ?_
      refine lv_aload_n hx hb dX3_misses_68 rfl (lv_at hl 1 rfl) ?_
      refine va_get (D := (dC, dI)) (ci := 3) (v := .int bs) (C := RX3) (T := TX3) (N := 11) hx hb hT hiX3 hown hK (keepP hP0 hS) 0 rfl rfl 4 (by decide) (hT _ kf_X3_68) (fun _ h9 => h9) rfl dX3_misses_69 ?_
      refine lv_iload_n hx hb dX3_misses_72 rfl (lv_at hl 2 rfl) ?_
      refine vp_callSi (rRS (As := [.int (nI j)]) (rest := [.int bs, .int ss, .int (se 1), .int (se 0), .ref (q 0)]) ⟨hx, hb, hml, hown, hT⟩ (c_X3_bit (l := l) j) (cwTS 1 hT kc_X3_bit km_X3_53 kt_X3_bit kn_X3 rfl rfl md_X3_bit ⟨Nat.le_of_ble_eq_true rfl, Nat.le_of_ble_eq_true rfl⟩) nilP hK  rfl hl.1 rfl (Nat.le_of_ble_eq_true rfl) dX3_misses_73 ⟨Nat.le_of_ble_eq_true rfl, Nat.le_of_ble_eq_true rfl⟩) (fun r_73 hw_73 => ?_)
      subst hw_73
      refine lv_iconst (v := (-1)) hx hb dX3_misses_76 (by decide) ?_
      refine lv_ixor hx hb dX3_misses_77 ?_
      refine lv_iand hx hb dX3_misses_78 ?_
      refine fN_r (rNV (As := [.int (se 0), .int (se 1), .int ss, .int (bs &&& ((x_bit j) ^^^ (-1)))]) (rest := []) ⟨hx, hb, hml, hown, hT⟩ (c_X3_owedIf (l := l) H.size (se 0) (se 1) ss (bs &&& ((x_bit j) ^^^ (-1))) (ho2 j hj hbj)) (cwTV 4 hT kc_X3_owedIf km_X3_164 ki_X3_owedIf ks_X3_owedIf kn_X3 rfl rfl md_X3_owedIf ⟨Nat.le_of_ble_eq_true rfl, Nat.le_of_ble_eq_true rfl⟩) (keepP hP0 hS) hK (va_recv hK (keepP hP0 hS) (ci := 3) (q0 := 0) rfl rfl) rfl hl.1 rfl (Nat.le_of_ble_eq_true rfl) dX3_misses_79 ⟨Nat.le_of_ble_eq_true rfl, Nat.le_of_ble_eq_true rfl⟩) hP hD hS hA (fun u_79 b_79 H locs hw_79 hP hD hS => ?_)
      have hP : va_P (dC, dI) vwCl ((oW  b_47 u_47 (x_E ln cw ic se we) (x_C ln cw ic we un sf (se 0) ss) (x_dn cw ic we) ((x_op ic we ss).toInt) ((x_la ic we un ss (bs ||| (x_bit j))).toInt) ((x_sh cw ic we un (se 1) ss (bs ||| (x_bit j))).toInt)) ++ (oW  b_79 u_79 (x_E ln cw ic se we) (x_C ln cw ic we un sf (se 0) ss) (x_dn cw ic we) ((x_op ic we ss).toInt) ((x_la ic we un ss (bs &&& ((x_bit j) ^^^ (-1)))).toInt) ((x_sh cw ic we un (se 1) ss (bs &&& ((x_bit j) ^^^ (-1)))).toInt))) H := hP
      have hD : va_D (fun q : Nat => s.heap.size ≤ q) ((oW  b_47 u_47 (x_E ln cw ic se we) (x_C ln cw ic we un sf (se 0) ss) (x_dn cw ic we) ((x_op ic we ss).toInt) ((x_la ic we un ss (bs ||| (x_bit j))).toInt) ((x_sh cw ic we un (se 1) ss (bs ||| (x_bit j))).toInt)) ++ (oW  b_79 u_79 (x_E ln cw ic se we) (x_C ln cw ic we un sf (se 0) ss) (x_dn cw ic we) ((x_op ic we ss).toInt) ((x_la ic we un ss (bs &&& ((x_bit j) ^^^ (-1)))).toInt) ((x_sh cw ic we un (se 1) ss (bs &&& ((x_bit j) ^^^ (-1)))).toInt))) := hD
      refine lv_astore (lv' := [(4, .ref b_79), (3, .ref b_47), (0, .ref (q 0)), (1, .int (nI j)), (2, .int wh)]) hx hb dX3_misses_82 hl (by decide) rfl (fun ls hl => ?_)
      refine lv_aload_n hx hb dX3_misses_84 rfl (lv_at hl 1 rfl) ?_
      refine va_get (D := (dC, dI)) (ci := 1) (v := .ref ((u_47).2.2.2.2.2)) (C := RX1) (T := TX1) (N := 7) hx hb hT hiX1 hown hK hP 0 rfl rfl 5 (by decide) (hT _ kf_X3_120) (fun _ h9 => h9) rfl dX3_misses_85 ?_
      refine lv_aload hx hb dX3_misses_88 (lv_at hl 0 rfl) ?_
      refine va_get (D := (dC, dI)) (ci := 1) (v := .ref ((u_79).2.2.2.2.2)) (C := RX1) (T := TX1) (N := 7) hx hb hT hiX1 hown hK hP 7 rfl rfl 5 (by decide) (hT _ kf_X3_120) (fun _ h9 => h9) rfl dX3_misses_90 ?_
      refine fN_r (rNV (As := [.ref ((u_79).2.2.2.2.2)]) (rest := []) ⟨hx, hb, hml, hown, hT⟩ (c_X2_minus (l := l) H.size (o_D2 (x_dn cw ic we) ((x_op ic we ss).toInt) ((x_sh cw ic we un (se 1) ss (bs ||| x_bit j)).toInt) ((x_sh cw ic we un (se 1) ss (bs &&& (x_bit j ^^^ (-1)))).toInt)) 2000000 2000000 (bd_dvd (o_mi_bd (ho1 j hj hbj)) (o_D2_bd (ho1 j hj hbj) (ho2 j hj hbj)).1 (o_D2_bd (ho1 j hj hbj) (ho2 j hj hbj)).2.2.1) (bd_dvd (o_mi_bd (ho2 j hj hbj)) (o_D2_bd (ho1 j hj hbj) (ho2 j hj hbj)).1 (o_D2_bd (ho1 j hj hbj) (ho2 j hj hbj)).2.2.2) (o_D2_bd (ho1 j hj hbj) (ho2 j hj hbj)).1 (by have := (o_D2_bd (ho1 j hj hbj) (ho2 j hj hbj)).2.1; omega) (by have := (o_D2_bd (ho1 j hj hbj) (ho2 j hj hbj)).2.1; omega)) (cwTV 1 hT kc_X2_minus km_X3_156 ki_X2_minus ks_X2_minus kn_X2 rfl rfl md_X2_minus ⟨Nat.le_of_ble_eq_true rfl, Nat.le_of_ble_eq_true rfl⟩) (va_P.sub (ws' := (shQ  ((u_47).2.2.2.2.2) (o_mi (x_E ln cw ic se we) (x_C ln cw ic we un sf (se 0) ss) (x_dn cw ic we) ((x_op ic we ss).toInt) ((x_la ic we un ss (bs ||| (x_bit j))).toInt) ((x_sh cw ic we un (se 1) ss (bs ||| (x_bit j))).toInt))) ++ (shQ  ((u_79).2.2.2.2.2) (o_mi (x_E ln cw ic se we) (x_C ln cw ic we un sf (se 0) ss) (x_dn cw ic we) ((x_op ic we ss).toInt) ((x_la ic we un ss (bs &&& ((x_bit j) ^^^ (-1)))).toInt) ((x_sh cw ic we un (se 1) ss (bs &&& ((x_bit j) ^^^ (-1)))).toInt)))) hP [6, 13] rfl) hK (va_recv hK hP (ci := 2) (q0 := 6) rfl rfl) rfl hl.1 rfl (Nat.le_of_ble_eq_true rfl) dX3_misses_93 ⟨Nat.le_of_ble_eq_true rfl, Nat.le_of_ble_eq_true rfl⟩) hP hD hS hA (fun u_93 b_93 H locs hw_93 hP hD hS => ?_)
      have hP : va_P (dC, dI) vwCl ((oW  b_47 u_47 (x_E ln cw ic se we) (x_C ln cw ic we un sf (se 0) ss) (x_dn cw ic we) ((x_op ic we ss).toInt) ((x_la ic we un ss (bs ||| (x_bit j))).toInt) ((x_sh cw ic we un (se 1) ss (bs ||| (x_bit j))).toInt)) ++ (oW  b_79 u_79 (x_E ln cw ic se we) (x_C ln cw ic we un sf (se 0) ss) (x_dn cw ic we) ((x_op ic we ss).toInt) ((x_la ic we un ss (bs &&& ((x_bit j) ^^^ (-1)))).toInt) ((x_sh cw ic we un (se 1) ss (bs &&& ((x_bit j) ^^^ (-1)))).toInt)) ++ (shQ  b_93 ((o_mi (x_E ln cw ic se we) (x_C ln cw ic we un sf (se 0) ss) (x_dn cw ic we) ((x_op ic we ss).toInt) ((x_la ic we un ss (bs ||| (x_bit j))).toInt) ((x_sh cw ic we un (se 1) ss (bs ||| (x_bit j))).toInt)) - (o_mi (x_E ln cw ic se we) (x_C ln cw ic we un sf (se 0) ss) (x_dn cw ic we) ((x_op ic we ss).toInt) ((x_la ic we un ss (bs &&& ((x_bit j) ^^^ (-1)))).toInt) ((x_sh cw ic we un (se 1) ss (bs &&& ((x_bit j) ^^^ (-1)))).toInt))))) H := hP
      have hD : va_D (fun q : Nat => s.heap.size ≤ q) ((oW  b_47 u_47 (x_E ln cw ic se we) (x_C ln cw ic we un sf (se 0) ss) (x_dn cw ic we) ((x_op ic we ss).toInt) ((x_la ic we un ss (bs ||| (x_bit j))).toInt) ((x_sh cw ic we un (se 1) ss (bs ||| (x_bit j))).toInt)) ++ (oW  b_79 u_79 (x_E ln cw ic se we) (x_C ln cw ic we un sf (se 0) ss) (x_dn cw ic we) ((x_op ic we ss).toInt) ((x_la ic we un ss (bs &&& ((x_bit j) ^^^ (-1)))).toInt) ((x_sh cw ic we un (se 1) ss (bs &&& ((x_bit j) ^^^ (-1)))).toInt)) ++ (shQ  b_93 ((o_mi (x_E ln cw ic se we) (x_C ln cw ic we un sf (se 0) ss) (x_dn cw ic we) ((x_op ic we ss).toInt) ((x_la ic we un ss (bs ||| (x_bit j))).toInt) ((x_sh cw ic we un (se 1) ss (bs ||| (x_bit j))).toInt)) - (o_mi (x_E ln cw ic se we) (x_C ln cw ic we un sf (se 0) ss) (x_dn cw ic we) ((x_op ic we ss).toInt) ((x_la ic we un ss (bs &&& ((x_bit j) ^^^ (-1)))).toInt) ((x_sh cw ic we un (se 1) ss (bs &&& ((x_bit j) ^^^ (-1)))).toInt))))) := hD
      refine lv_iload_n hx hb dX3_misses_96 rfl (lv_at hl 4 rfl) ?_
      refine vp_callSl (rRV (As := [.int wh]) (rest := []) ⟨hx, hb, hml, hown, hT⟩ (c_X2_told (l := l) wh) (cwTV 1 hT kc_X2_told km_X3_108 ki_X2_told ks_X2_told kn_X2 rfl rfl md_X2_told ⟨Nat.le_of_ble_eq_true rfl, Nat.le_of_ble_eq_true rfl⟩) (va_P.sub (ws' := shQ  b_93 ((o_mi (x_E ln cw ic se we) (x_C ln cw ic we un sf (se 0) ss) (x_dn cw ic we) ((x_op ic we ss).toInt) ((x_la ic we un ss (bs ||| (x_bit j))).toInt) ((x_sh cw ic we un (se 1) ss (bs ||| (x_bit j))).toInt)) - (o_mi (x_E ln cw ic se we) (x_C ln cw ic we un sf (se 0) ss) (x_dn cw ic we) ((x_op ic we ss).toInt) ((x_la ic we un ss (bs &&& ((x_bit j) ^^^ (-1)))).toInt) ((x_sh cw ic we un (se 1) ss (bs &&& ((x_bit j) ^^^ (-1)))).toInt)))) hP [14] rfl) hK (va_recv hK hP (ci := 2) (q0 := 14) rfl rfl) rfl hl.1 rfl (Nat.le_of_ble_eq_true rfl) dX3_misses_97 ⟨Nat.le_of_ble_eq_true rfl, Nat.le_of_ble_eq_true rfl⟩) (fun r_97 hw_97 => ?_)
      subst hw_97
      exact retN_l (post := fun r _ => (((¬ ∃ i7, i7 < 6 ∧ (nI j) = nI i7 ∧ bt ic i7 = true) ∨ (wh < 0 ∨ 1 < wh)) ∧ r = (-9223372036854775808)) ∨ (∃ i7, i7 < 6 ∧ (nI j) = nI i7 ∧ bt ic i7 = true ∧ ¬ (wh < 0 ∨ 1 < wh) ∧ r = tellQ (o_mi (x_E ln cw ic se we) (x_C ln cw ic we un sf (se 0) ss) (x_dn cw ic we) ((x_op ic we ss).toInt) ((x_la ic we un ss (bs ||| x_bit i7)).toInt) ((x_sh cw ic we un (se 1) ss (bs ||| x_bit i7)).toInt) - o_mi (x_E ln cw ic se we) (x_C ln cw ic we un sf (se 0) ss) (x_dn cw ic we) ((x_op ic we ss).toInt) ((x_la ic we un ss (bs &&& (x_bit i7 ^^^ (-1)))).toInt) ((x_sh cw ic we un (se 1) ss (bs &&& (x_bit i7 ^^^ (-1)))).toInt)) wh)) hx hb hr hlocks (by first | exact Or.inl ⟨Or.inl hw_2, rfl⟩ | exact Or.inl ⟨Or.inr hw_11, rfl⟩ | exact Or.inr ⟨j, hj, rfl, hbj, hw_11, rfl⟩) hS dX3_misses_100
  · refine lv_if_eq (tgt := 17) hx hb dX3_misses_5 (by decide) (fun c_5 => ?_) (fun h => absurd h (by decide))
    refine lv_ldc2 hx hb hown (hT _ kj_X3_96) dX3_misses_17 ?_
    refine W.widen (k := 15) (n := 40) (Nat.le_of_ble_eq_true rfl) (Nat.le_of_ble_eq_true rfl) ?_
    exact retN_l (post := fun r _ => (((¬ ∃ i7, i7 < 6 ∧ v = nI i7 ∧ bt ic i7 = true) ∨ (wh < 0 ∨ 1 < wh)) ∧ r = (-9223372036854775808)) ∨ (∃ i7, i7 < 6 ∧ v = nI i7 ∧ bt ic i7 = true ∧ ¬ (wh < 0 ∨ 1 < wh) ∧ r = tellQ (o_mi (x_E ln cw ic se we) (x_C ln cw ic we un sf (se 0) ss) (x_dn cw ic we) ((x_op ic we ss).toInt) ((x_la ic we un ss (bs ||| x_bit i7)).toInt) ((x_sh cw ic we un (se 1) ss (bs ||| x_bit i7)).toInt) - o_mi (x_E ln cw ic se we) (x_C ln cw ic we un sf (se 0) ss) (x_dn cw ic we) ((x_op ic we ss).toInt) ((x_la ic we un ss (bs &&& (x_bit i7 ^^^ (-1)))).toInt) ((x_sh cw ic we un (se 1) ss (bs &&& (x_bit i7 ^^^ (-1)))).toInt)) wh)) hx hb hr hlocks (by first | exact Or.inl ⟨Or.inl hw_2, rfl⟩ | exact Or.inl ⟨Or.inr hw_11, rfl⟩ | exact Or.inr ⟨j, hj, rfl, hbj, hw_11, rfl⟩) hS dX3_misses_20
set_option maxHeartbeats 4000000 in
set_option maxRecDepth 100000 in
theorem c_X3_fair (sz : Nat) (v wh : Int32) (hok : x_ok ln cw ic se we un sf (se 0) (se 1) ss bs) (hfu : ∀ j, j < 6 → rng (x_fairUp ic bs ss we un pa j (iL (o_du (x_E ln cw ic se we) (x_C ln cw ic we un sf (se 0) ss) (x_dn cw ic we) ((x_op ic we ss).toInt) ((x_la ic we un ss bs).toInt) ((x_sh cw ic we un (se 1) ss bs).toInt)).num)).toInt) : Met l yX3_fair (wT yX3_fair cX3_fair 4 (some .long)) ({ frames := 7, cells := 8, slots := 21, locals := 167 }) (pN (dC, dI) (ty3 cI cJ cZ) (xW cI q ln cw ic bs ss se we un sf pa) [.ref (q 0), .int v, .int wh] sz) (va_Ql (S := Unit) (fun r _ => (((¬ ∃ i7, i7 < 6 ∧ v = nI i7 ∧ bt ic i7 = true) ∨ (wh < 0 ∨ 1 < wh)) ∧ r = (-9223372036854775808)) ∨ (∃ i7, i7 < 6 ∧ v = nI i7 ∧ bt ic i7 = true ∧ ¬ (wh < 0 ∨ 1 < wh) ∧ r = tellQ (Rat.divInt (x_fairUp ic bs ss we un pa i7 (iL (o_du (x_E ln cw ic se we) (x_C ln cw ic we un sf (se 0) ss) (x_dn cw ic we) ((x_op ic we ss).toInt) ((x_la ic we un ss bs).toInt) ((x_sh cw ic we un (se 1) ss bs).toInt)).num)).toInt (o_fd (x_E ln cw ic se we) (x_C ln cw ic we un sf (se 0) ss) (x_dn cw ic we) ((x_op ic we ss).toInt) ((x_la ic we un ss bs).toInt) ((x_sh cw ic we un (se 1) ss bs).toInt))) wh)) (fun _ _ => True) (fun q : Nat => sz ≤ q)) 8 21 (fun q : Nat => sz ≤ q) := by
  refine Met.ofW (cc := cX3_fair) (maxL := 4) (ret := (some .long)) (by decide) rfl ?_
  intro p e s m args below meth c s₁ B hml hv
  obtain ⟨rfl, hsz, hP0, hK⟩ := hv
  have hx := B.exec
  have hb := B.bytes
  have hr := B.returns
  have hts := atoms_spec (ws := wT yX3_fair cX3_fair 4 (some .long)) B.pre
  have hT := wT_T hts
  have hown : s.vm.findClass RX3 = some m.cls := findClass_of_methodNamed B.named
  have hlocks := B.notSynchronized
  subst hsz
  have hA : ∀ q : Nat, s.heap.size ≤ q → (fun q : Nat => s.heap.size ≤ q) q := fun q h => h
  have hS : va_S (fun q : Nat => s.heap.size ≤ q) s.heap s.heap [] := va_S.rf
  have hP : va_P (dC, dI) vwCl [] s.heap := nilP
  have hD : va_D (fun q : Nat => s.heap.size ≤ q) [] := nilD
  have hl := lv_entry ([.ref (q 0), .int v, .int wh]) (n := 4) (Nat.le_of_ble_eq_true rfl)
  rw [lg_entry_eq]
  generalize (lg_sl ([.ref (q 0), .int v, .int wh]) ++ List.replicate (4 - (lg_sl ([.ref (q 0), .int v, .int wh])).length) Slot.unset).toArray = ls at hl ⊢
  have hl : lv_has ls 4 [(0, .ref (q 0)), (1, .int v), (2, .int wh)] := hl
  refine lv_aload_n hx hb dX3_fair_0 rfl (lv_at hl 0 rfl) ?_
  refine lv_iload_n hx hb dX3_fair_1 rfl (lv_at hl 1 rfl) ?_
  refine vp_callSi (rRV (As := [.int v]) (rest := []) ⟨hx, hb, hml, hown, hT⟩ (c_X3_isKnown (l := l) v) (cwTV 1 hT kc_X3_isKnown km_X3_57 ki_X3_isKnown ks_X3_isKnown kn_X3 rfl rfl md_X3_isKnown ⟨Nat.le_of_ble_eq_true rfl, Nat.le_of_ble_eq_true rfl⟩) (keepP hP0 hS) hK (va_recv hK (keepP hP0 hS) (ci := 3) (q0 := 0) rfl rfl) rfl hl.1 rfl (Nat.le_of_ble_eq_true rfl) dX3_fair_2 ⟨Nat.le_of_ble_eq_true rfl, Nat.le_of_ble_eq_true rfl⟩) (fun r_2 hw_2 => ?_)
  rcases hw_2 with ⟨rfl, hw_2⟩ | ⟨rfl, hw_2⟩
  · obtain ⟨j, hj, rfl, hbj⟩ := hw_2
    refine lv_if_eq (tgt := 17) hx hb dX3_fair_5 (by decide) (fun h => absurd h (by decide)) (fun c_5 => ?_)
    refine lv_iload_n hx hb dX3_fair_8 rfl (lv_at hl 2 rfl) ?_
    refine lv_iconst (v := 0) hx hb dX3_fair_9 (by decide) ?_
    refine lv_iconst (v := 1) hx hb dX3_fair_10 (by decide) ?_
    refine vp_callSi (rRS (As := [.int wh, .int 0, .int 1]) (rest := []) ⟨hx, hb, hml, hown, hT⟩ (c_X3_isOutside (l := l) wh 0 1) (cwTS 3 hT kc_X3_isOutside km_X3_35 kt_X3_isOutside kn_X3 rfl rfl md_X3_isOutside ⟨Nat.le_of_ble_eq_true rfl, Nat.le_of_ble_eq_true rfl⟩) nilP hK  rfl hl.1 rfl (Nat.le_of_ble_eq_true rfl) dX3_fair_11 ⟨Nat.le_of_ble_eq_true rfl, Nat.le_of_ble_eq_true rfl⟩) (fun r_11 hw_11 => ?_)
    rcases hw_11 with ⟨rfl, hw_11⟩ | ⟨rfl, hw_11⟩
    · refine lv_if_eq (tgt := 21) hx hb dX3_fair_14 (by decide) (fun h => absurd h (by decide)) (fun c_14 => ?_)
      refine lv_ldc2 hx hb hown (hT _ kj_X3_96) dX3_fair_17 ?_
      refine W.widen (k := 8) (n := 21) (Nat.le_of_ble_eq_true rfl) (Nat.le_of_ble_eq_true rfl) ?_
      exact retN_l (post := fun r _ => (((¬ ∃ i7, i7 < 6 ∧ (nI j) = nI i7 ∧ bt ic i7 = true) ∨ (wh < 0 ∨ 1 < wh)) ∧ r = (-9223372036854775808)) ∨ (∃ i7, i7 < 6 ∧ (nI j) = nI i7 ∧ bt ic i7 = true ∧ ¬ (wh < 0 ∨ 1 < wh) ∧ r = tellQ (Rat.divInt (x_fairUp ic bs ss we un pa i7 (iL (o_du (x_E ln cw ic se we) (x_C ln cw ic we un sf (se 0) ss) (x_dn cw ic we) ((x_op ic we ss).toInt) ((x_la ic we un ss bs).toInt) ((x_sh cw ic we un (se 1) ss bs).toInt)).num)).toInt (o_fd (x_E ln cw ic se we) (x_C ln cw ic we un sf (se 0) ss) (x_dn cw ic we) ((x_op ic we ss).toInt) ((x_la ic we un ss bs).toInt) ((x_sh cw ic we un (se 1) ss bs).toInt))) wh)) hx hb hr hlocks (by first | exact Or.inl ⟨Or.inl hw_2, rfl⟩ | exact Or.inl ⟨Or.inr hw_11, rfl⟩ | exact Or.inr ⟨j, hj, rfl, hbj, hw_11, rfl⟩) hS dX3_fair_20
    · refine lv_if_eq (tgt := 21) hx hb dX3_fair_14 (by decide) (fun c_14 => ?_) (fun h => absurd h (by decide))
      refine lv_aload_n hx hb dX3_fair_21 rfl (lv_at hl 0 rfl) ?_
      refine fN_r (rNV (As := []) (rest := []) ⟨hx, hb, hml, hown, hT⟩ (c_X3_owedNow (l := l) s.heap.size hok) (cwTV 0 hT kc_X3_owedNow km_X3_98 ki_X3_owedNow ks_X3_owedNow kn_X3 rfl rfl md_X3_owedNow ⟨Nat.le_of_ble_eq_true rfl, Nat.le_of_ble_eq_true rfl⟩) (keepP hP0 hS) hK (va_recv hK (keepP hP0 hS) (ci := 3) (q0 := 0) rfl rfl) rfl hl.1 rfl (Nat.le_of_ble_eq_true rfl) dX3_fair_22 ⟨Nat.le_of_ble_eq_true rfl, Nat.le_of_ble_eq_true rfl⟩) hP hD hS hA (fun u_22 b_22 H locs hw_22 hP hD hS => ?_)
      have hP : va_P (dC, dI) vwCl (oW  b_22 u_22 (x_E ln cw ic se we) (x_C ln cw ic we un sf (se 0) ss) (x_dn cw ic we) ((x_op ic we ss).toInt) ((x_la ic we un ss bs).toInt) ((x_sh cw ic we un (se 1) ss bs).toInt)) H := hP
      have hD : va_D (fun q : Nat => s.heap.size ≤ q) (oW  b_22 u_22 (x_E ln cw ic se we) (x_C ln cw ic we un sf (se 0) ss) (x_dn cw ic we) ((x_op ic we ss).toInt) ((x_la ic we un ss bs).toInt) ((x_sh cw ic we un (se 1) ss bs).toInt)) := hD
      refine lv_astore_n (lv' := [(3, .ref b_22), (0, .ref (q 0)), (1, .int (nI j)), (2, .int wh)]) hx hb dX3_fair_25 rfl hl (by decide) rfl (fun ls hl => ?_)
      refine lv_aload_n hx hb dX3_fair_26 rfl (lv_at hl 1 rfl) ?_
      refine lv_iload_n hx hb dX3_fair_27 rfl (lv_at hl 2 rfl) ?_
      refine lv_aload_n hx hb dX3_fair_28 rfl (lv_at hl 0 rfl) ?_
      refine vp_callSl (rRV (As := [.int (nI j), .ref b_22]) (rest := []) ⟨hx, hb, hml, hown, hT⟩ (c_X3_fairUp (l := l) j (by first | assumption | omega)) (cwTV 2 hT kc_X3_fairUp km_X3_174 ki_X3_fairUp ks_X3_fairUp kn_X3 rfl rfl md_X3_fairUp ⟨Nat.le_of_ble_eq_true rfl, Nat.le_of_ble_eq_true rfl⟩) (va_P.sub (ws' := (xW cI q ln cw ic bs ss se we un sf pa) ++ (owW  b_22 ((u_22).1) ((u_22).2.1) ((u_22).2.2.1) ((u_22).2.2.2.1) ((u_22).2.2.2.2.1) ((u_22).2.2.2.2.2) (iL (o_fd (x_E ln cw ic se we) (x_C ln cw ic we un sf (se 0) ss) (x_dn cw ic we) ((x_op ic we ss).toInt) ((x_la ic we un ss bs).toInt) ((x_sh cw ic we un (se 1) ss bs).toInt)))) ++ (shW  ((u_22).2.2.2.2.1) (iL ((o_du (x_E ln cw ic se we) (x_C ln cw ic we un sf (se 0) ss) (x_dn cw ic we) ((x_op ic we ss).toInt) ((x_la ic we un ss bs).toInt) ((x_sh cw ic we un (se 1) ss bs).toInt))).num) (iL (((o_du (x_E ln cw ic se we) (x_C ln cw ic we un sf (se 0) ss) (x_dn cw ic we) ((x_op ic we ss).toInt) ((x_la ic we un ss bs).toInt) ((x_sh cw ic we un (se 1) ss bs).toInt))).den : Int)))) (va_P.app (keepP hP0 hS) hP) [0, 1, 2, 3, 4, 5, 6, 11] rfl) hK (va_recv hK (keepP hP0 hS) (ci := 3) (q0 := 0) rfl rfl) rfl hl.1 rfl (Nat.le_of_ble_eq_true rfl) dX3_fair_29 ⟨Nat.le_of_ble_eq_true rfl, Nat.le_of_ble_eq_true rfl⟩) (fun r_29 hw_29 => ?_)
      subst hw_29
      refine topl_eq (y := (iL (x_fairUp ic bs ss we un pa j (iL (o_du (x_E ln cw ic se we) (x_C ln cw ic we un sf (se 0) ss) (x_dn cw ic we) ((x_op ic we ss).toInt) ((x_la ic we un ss bs).toInt) ((x_sh cw ic we un (se 1) ss bs).toInt)).num)).toInt)) (iL_of _) ?_
      refine lv_aload_n hx hb dX3_fair_32 rfl (lv_at hl 0 rfl) ?_
      refine va_get (D := (dC, dI)) (ci := 1) (v := .long (iL (o_fd (x_E ln cw ic se we) (x_C ln cw ic we un sf (se 0) ss) (x_dn cw ic we) ((x_op ic we ss).toInt) ((x_la ic we un ss bs).toInt) ((x_sh cw ic we un (se 1) ss bs).toInt)))) (C := RX1) (T := TX1) (N := 7) hx hb hT hiX1 hown hK hP 0 rfl rfl 6 (by decide) (hT _ kf_X3_178) (fun _ h9 => h9) rfl dX3_fair_33 ?_
      refine fN_r (rNS (As := [.long (iL (x_fairUp ic bs ss we un pa j (iL (o_du (x_E ln cw ic se we) (x_C ln cw ic we un sf (se 0) ss) (x_dn cw ic we) ((x_op ic we ss).toInt) ((x_la ic we un ss bs).toInt) ((x_sh cw ic we un (se 1) ss bs).toInt)).num)).toInt), .long (iL (o_fd (x_E ln cw ic se we) (x_C ln cw ic we un sf (se 0) ss) (x_dn cw ic we) ((x_op ic we ss).toInt) ((x_la ic we un ss bs).toInt) ((x_sh cw ic we un (se 1) ss bs).toInt)))]) (rest := []) ⟨hx, hb, hml, hown, hT⟩ (c_X2_of (l := l) H.size ((x_fairUp ic bs ss we un pa j (iL (o_du (x_E ln cw ic se we) (x_C ln cw ic we un sf (se 0) ss) (x_dn cw ic we) ((x_op ic we ss).toInt) ((x_la ic we un ss bs).toInt) ((x_sh cw ic we un (se 1) ss bs).toInt)).num)).toInt) (o_fd (x_E ln cw ic se we) (x_C ln cw ic we un sf (se 0) ss) (x_dn cw ic we) ((x_op ic we ss).toInt) ((x_la ic we un ss bs).toInt) ((x_sh cw ic we un (se 1) ss bs).toInt)) (hfu j hj) (fd_bd hok).1 (fd_bd hok).2) (cwTS 2 hT kc_X2_of km_X3_134 kt_X2_of kn_X2 rfl rfl md_X2_of ⟨Nat.le_of_ble_eq_true rfl, Nat.le_of_ble_eq_true rfl⟩) nilP hK  rfl hl.1 rfl (Nat.le_of_ble_eq_true rfl) dX3_fair_36 ⟨Nat.le_of_ble_eq_true rfl, Nat.le_of_ble_eq_true rfl⟩) hP hD hS hA (fun u_36 b_36 H locs hw_36 hP hD hS => ?_)
      have hP : va_P (dC, dI) vwCl ((oW  b_22 u_22 (x_E ln cw ic se we) (x_C ln cw ic we un sf (se 0) ss) (x_dn cw ic we) ((x_op ic we ss).toInt) ((x_la ic we un ss bs).toInt) ((x_sh cw ic we un (se 1) ss bs).toInt)) ++ (shQ  b_36 (Rat.divInt ((x_fairUp ic bs ss we un pa j (iL (o_du (x_E ln cw ic se we) (x_C ln cw ic we un sf (se 0) ss) (x_dn cw ic we) ((x_op ic we ss).toInt) ((x_la ic we un ss bs).toInt) ((x_sh cw ic we un (se 1) ss bs).toInt)).num)).toInt) (o_fd (x_E ln cw ic se we) (x_C ln cw ic we un sf (se 0) ss) (x_dn cw ic we) ((x_op ic we ss).toInt) ((x_la ic we un ss bs).toInt) ((x_sh cw ic we un (se 1) ss bs).toInt))))) H := hP
      have hD : va_D (fun q : Nat => s.heap.size ≤ q) ((oW  b_22 u_22 (x_E ln cw ic se we) (x_C ln cw ic we un sf (se 0) ss) (x_dn cw ic we) ((x_op ic we ss).toInt) ((x_la ic we un ss bs).toInt) ((x_sh cw ic we un (se 1) ss bs).toInt)) ++ (shQ  b_36 (Rat.divInt ((x_fairUp ic bs ss we un pa j (iL (o_du (x_E ln cw ic se we) (x_C ln cw ic we un sf (se 0) ss) (x_dn cw ic we) ((x_op ic we ss).toInt) ((x_la ic we un ss bs).toInt) ((x_sh cw ic we un (se 1) ss bs).toInt)).num)).toInt) (o_fd (x_E ln cw ic se we) (x_C ln cw ic we un sf (se 0) ss) (x_dn cw ic we) ((x_op ic we ss).toInt) ((x_la ic we un ss bs).toInt) ((x_sh cw ic we un (se 1) ss bs).toInt))))) := hD
      refine lv_iload_n hx hb dX3_fair_39 rfl (lv_at hl 3 rfl) ?_
      refine vp_callSl (rRV (As := [.int wh]) (rest := []) ⟨hx, hb, hml, hown, hT⟩ (c_X2_told (l := l) wh) (cwTV 1 hT kc_X2_told km_X3_108 ki_X2_told ks_X2_told kn_X2 rfl rfl md_X2_told ⟨Nat.le_of_ble_eq_true rfl, Nat.le_of_ble_eq_true rfl⟩) (va_P.sub (ws' := shQ  b_36 (Rat.divInt ((x_fairUp ic bs ss we un pa j (iL (o_du (x_E ln cw ic se we) (x_C ln cw ic we un sf (se 0) ss) (x_dn cw ic we) ((x_op ic we ss).toInt) ((x_la ic we un ss bs).toInt) ((x_sh cw ic we un (se 1) ss bs).toInt)).num)).toInt) (o_fd (x_E ln cw ic se we) (x_C ln cw ic we un sf (se 0) ss) (x_dn cw ic we) ((x_op ic we ss).toInt) ((x_la ic we un ss bs).toInt) ((x_sh cw ic we un (se 1) ss bs).toInt)))) hP [7] rfl) hK (va_recv hK hP (ci := 2) (q0 := 7) rfl rfl) rfl hl.1 rfl (Nat.le_of_ble_eq_true rfl) dX3_fair_40 ⟨Nat.le_of_ble_eq_true rfl, Nat.le_of_ble_eq_true rfl⟩) (fun r_40 hw_40 => ?_)
      subst hw_40
      exact retN_l (post := fun r _ => (((¬ ∃ i7, i7 < 6 ∧ (nI j) = nI i7 ∧ bt ic i7 = true) ∨ (wh < 0 ∨ 1 < wh)) ∧ r = (-9223372036854775808)) ∨ (∃ i7, i7 < 6 ∧ (nI j) = nI i7 ∧ bt ic i7 = true ∧ ¬ (wh < 0 ∨ 1 < wh) ∧ r = tellQ (Rat.divInt (x_fairUp ic bs ss we un pa i7 (iL (o_du (x_E ln cw ic se we) (x_C ln cw ic we un sf (se 0) ss) (x_dn cw ic we) ((x_op ic we ss).toInt) ((x_la ic we un ss bs).toInt) ((x_sh cw ic we un (se 1) ss bs).toInt)).num)).toInt (o_fd (x_E ln cw ic se we) (x_C ln cw ic we un sf (se 0) ss) (x_dn cw ic we) ((x_op ic we ss).toInt) ((x_la ic we un ss bs).toInt) ((x_sh cw ic we un (se 1) ss bs).toInt))) wh)) hx hb hr hlocks (by first | exact Or.inl ⟨Or.inl hw_2, rfl⟩ | exact Or.inl ⟨Or.inr hw_11, rfl⟩ | exact Or.inr ⟨j, hj, rfl, hbj, hw_11, rfl⟩) hS dX3_fair_43
  · refine lv_if_eq (tgt := 17) hx hb dX3_fair_5 (by decide) (fun c_5 => ?_) (fun h => absurd h (by decide))
    refine lv_ldc2 hx hb hown (hT _ kj_X3_96) dX3_fair_17 ?_
    refine W.widen (k := 8) (n := 21) (Nat.le_of_ble_eq_true rfl) (Nat.le_of_ble_eq_true rfl) ?_
    exact retN_l (post := fun r _ => (((¬ ∃ i7, i7 < 6 ∧ v = nI i7 ∧ bt ic i7 = true) ∨ (wh < 0 ∨ 1 < wh)) ∧ r = (-9223372036854775808)) ∨ (∃ i7, i7 < 6 ∧ v = nI i7 ∧ bt ic i7 = true ∧ ¬ (wh < 0 ∨ 1 < wh) ∧ r = tellQ (Rat.divInt (x_fairUp ic bs ss we un pa i7 (iL (o_du (x_E ln cw ic se we) (x_C ln cw ic we un sf (se 0) ss) (x_dn cw ic we) ((x_op ic we ss).toInt) ((x_la ic we un ss bs).toInt) ((x_sh cw ic we un (se 1) ss bs).toInt)).num)).toInt (o_fd (x_E ln cw ic se we) (x_C ln cw ic we un sf (se 0) ss) (x_dn cw ic we) ((x_op ic we ss).toInt) ((x_la ic we un ss bs).toInt) ((x_sh cw ic we un (se 1) ss bs).toInt))) wh)) hx hb hr hlocks (by first | exact Or.inl ⟨Or.inl hw_2, rfl⟩ | exact Or.inl ⟨Or.inr hw_11, rfl⟩ | exact Or.inr ⟨j, hj, rfl, hbj, hw_11, rfl⟩) hS dX3_fair_20
set_option maxHeartbeats 4000000 in
set_option maxRecDepth 100000 in
theorem c_X3_over (sz : Nat) (v wh : Int32) (hok : x_ok ln cw ic se we un sf (se 0) (se 1) ss bs) (hov : ∀ j, j < 6 → rng (x_overUp ic bs ss we un pa j (iL (o_du (x_E ln cw ic se we) (x_C ln cw ic we un sf (se 0) ss) (x_dn cw ic we) ((x_op ic we ss).toInt) ((x_la ic we un ss bs).toInt) ((x_sh cw ic we un (se 1) ss bs).toInt)).num) (iL (o_fd (x_E ln cw ic se we) (x_C ln cw ic we un sf (se 0) ss) (x_dn cw ic we) ((x_op ic we ss).toInt) ((x_la ic we un ss bs).toInt) ((x_sh cw ic we un (se 1) ss bs).toInt)))).toInt) : Met l yX3_over (wT yX3_over cX3_over 4 (some .long)) ({ frames := 7, cells := 8, slots := 21, locals := 167 }) (pN (dC, dI) (ty3 cI cJ cZ) (xW cI q ln cw ic bs ss se we un sf pa) [.ref (q 0), .int v, .int wh] sz) (va_Ql (S := Unit) (fun r _ => (((¬ ∃ i7, i7 < 6 ∧ v = nI i7 ∧ bt ic i7 = true) ∨ (wh < 0 ∨ 1 < wh)) ∧ r = (-9223372036854775808)) ∨ (∃ i7, i7 < 6 ∧ v = nI i7 ∧ bt ic i7 = true ∧ ¬ (wh < 0 ∨ 1 < wh) ∧ r = tellQ (Rat.divInt (x_overUp ic bs ss we un pa i7 (iL (o_du (x_E ln cw ic se we) (x_C ln cw ic we un sf (se 0) ss) (x_dn cw ic we) ((x_op ic we ss).toInt) ((x_la ic we un ss bs).toInt) ((x_sh cw ic we un (se 1) ss bs).toInt)).num) (iL (o_fd (x_E ln cw ic se we) (x_C ln cw ic we un sf (se 0) ss) (x_dn cw ic we) ((x_op ic we ss).toInt) ((x_la ic we un ss bs).toInt) ((x_sh cw ic we un (se 1) ss bs).toInt)))).toInt (o_fd (x_E ln cw ic se we) (x_C ln cw ic we un sf (se 0) ss) (x_dn cw ic we) ((x_op ic we ss).toInt) ((x_la ic we un ss bs).toInt) ((x_sh cw ic we un (se 1) ss bs).toInt))) wh)) (fun _ _ => True) (fun q : Nat => sz ≤ q)) 8 21 (fun q : Nat => sz ≤ q) := by
  refine Met.ofW (cc := cX3_over) (maxL := 4) (ret := (some .long)) (by decide) rfl ?_
  intro p e s m args below meth c s₁ B hml hv
  obtain ⟨rfl, hsz, hP0, hK⟩ := hv
  have hx := B.exec
  have hb := B.bytes
  have hr := B.returns
  have hts := atoms_spec (ws := wT yX3_over cX3_over 4 (some .long)) B.pre
  have hT := wT_T hts
  have hown : s.vm.findClass RX3 = some m.cls := findClass_of_methodNamed B.named
  have hlocks := B.notSynchronized
  subst hsz
  have hA : ∀ q : Nat, s.heap.size ≤ q → (fun q : Nat => s.heap.size ≤ q) q := fun q h => h
  have hS : va_S (fun q : Nat => s.heap.size ≤ q) s.heap s.heap [] := va_S.rf
  have hP : va_P (dC, dI) vwCl [] s.heap := nilP
  have hD : va_D (fun q : Nat => s.heap.size ≤ q) [] := nilD
  have hl := lv_entry ([.ref (q 0), .int v, .int wh]) (n := 4) (Nat.le_of_ble_eq_true rfl)
  rw [lg_entry_eq]
  generalize (lg_sl ([.ref (q 0), .int v, .int wh]) ++ List.replicate (4 - (lg_sl ([.ref (q 0), .int v, .int wh])).length) Slot.unset).toArray = ls at hl ⊢
  have hl : lv_has ls 4 [(0, .ref (q 0)), (1, .int v), (2, .int wh)] := hl
  refine lv_aload_n hx hb dX3_over_0 rfl (lv_at hl 0 rfl) ?_
  refine lv_iload_n hx hb dX3_over_1 rfl (lv_at hl 1 rfl) ?_
  refine vp_callSi (rRV (As := [.int v]) (rest := []) ⟨hx, hb, hml, hown, hT⟩ (c_X3_isKnown (l := l) v) (cwTV 1 hT kc_X3_isKnown km_X3_57 ki_X3_isKnown ks_X3_isKnown kn_X3 rfl rfl md_X3_isKnown ⟨Nat.le_of_ble_eq_true rfl, Nat.le_of_ble_eq_true rfl⟩) (keepP hP0 hS) hK (va_recv hK (keepP hP0 hS) (ci := 3) (q0 := 0) rfl rfl) rfl hl.1 rfl (Nat.le_of_ble_eq_true rfl) dX3_over_2 ⟨Nat.le_of_ble_eq_true rfl, Nat.le_of_ble_eq_true rfl⟩) (fun r_2 hw_2 => ?_)
  rcases hw_2 with ⟨rfl, hw_2⟩ | ⟨rfl, hw_2⟩
  · obtain ⟨j, hj, rfl, hbj⟩ := hw_2
    refine lv_if_eq (tgt := 17) hx hb dX3_over_5 (by decide) (fun h => absurd h (by decide)) (fun c_5 => ?_)
    refine lv_iload_n hx hb dX3_over_8 rfl (lv_at hl 2 rfl) ?_
    refine lv_iconst (v := 0) hx hb dX3_over_9 (by decide) ?_
    refine lv_iconst (v := 1) hx hb dX3_over_10 (by decide) ?_
    refine vp_callSi (rRS (As := [.int wh, .int 0, .int 1]) (rest := []) ⟨hx, hb, hml, hown, hT⟩ (c_X3_isOutside (l := l) wh 0 1) (cwTS 3 hT kc_X3_isOutside km_X3_35 kt_X3_isOutside kn_X3 rfl rfl md_X3_isOutside ⟨Nat.le_of_ble_eq_true rfl, Nat.le_of_ble_eq_true rfl⟩) nilP hK  rfl hl.1 rfl (Nat.le_of_ble_eq_true rfl) dX3_over_11 ⟨Nat.le_of_ble_eq_true rfl, Nat.le_of_ble_eq_true rfl⟩) (fun r_11 hw_11 => ?_)
    rcases hw_11 with ⟨rfl, hw_11⟩ | ⟨rfl, hw_11⟩
    · refine lv_if_eq (tgt := 21) hx hb dX3_over_14 (by decide) (fun h => absurd h (by decide)) (fun c_14 => ?_)
      refine lv_ldc2 hx hb hown (hT _ kj_X3_96) dX3_over_17 ?_
      refine W.widen (k := 8) (n := 21) (Nat.le_of_ble_eq_true rfl) (Nat.le_of_ble_eq_true rfl) ?_
      exact retN_l (post := fun r _ => (((¬ ∃ i7, i7 < 6 ∧ (nI j) = nI i7 ∧ bt ic i7 = true) ∨ (wh < 0 ∨ 1 < wh)) ∧ r = (-9223372036854775808)) ∨ (∃ i7, i7 < 6 ∧ (nI j) = nI i7 ∧ bt ic i7 = true ∧ ¬ (wh < 0 ∨ 1 < wh) ∧ r = tellQ (Rat.divInt (x_overUp ic bs ss we un pa i7 (iL (o_du (x_E ln cw ic se we) (x_C ln cw ic we un sf (se 0) ss) (x_dn cw ic we) ((x_op ic we ss).toInt) ((x_la ic we un ss bs).toInt) ((x_sh cw ic we un (se 1) ss bs).toInt)).num) (iL (o_fd (x_E ln cw ic se we) (x_C ln cw ic we un sf (se 0) ss) (x_dn cw ic we) ((x_op ic we ss).toInt) ((x_la ic we un ss bs).toInt) ((x_sh cw ic we un (se 1) ss bs).toInt)))).toInt (o_fd (x_E ln cw ic se we) (x_C ln cw ic we un sf (se 0) ss) (x_dn cw ic we) ((x_op ic we ss).toInt) ((x_la ic we un ss bs).toInt) ((x_sh cw ic we un (se 1) ss bs).toInt))) wh)) hx hb hr hlocks (by first | exact Or.inl ⟨Or.inl hw_2, rfl⟩ | exact Or.inl ⟨Or.inr hw_11, rfl⟩ | exact Or.inr ⟨j, hj, rfl, hbj, hw_11, rfl⟩) hS dX3_over_20
    · refine lv_if_eq (tgt := 21) hx hb dX3_over_14 (by decide) (fun c_14 => ?_) (fun h => absurd h (by decide))
      refine lv_aload_n hx hb dX3_over_21 rfl (lv_at hl 0 rfl) ?_
      refine fN_r (rNV (As := []) (rest := []) ⟨hx, hb, hml, hown, hT⟩ (c_X3_owedNow (l := l) s.heap.size hok) (cwTV 0 hT kc_X3_owedNow km_X3_98 ki_X3_owedNow ks_X3_owedNow kn_X3 rfl rfl md_X3_owedNow ⟨Nat.le_of_ble_eq_true rfl, Nat.le_of_ble_eq_true rfl⟩) (keepP hP0 hS) hK (va_recv hK (keepP hP0 hS) (ci := 3) (q0 := 0) rfl rfl) rfl hl.1 rfl (Nat.le_of_ble_eq_true rfl) dX3_over_22 ⟨Nat.le_of_ble_eq_true rfl, Nat.le_of_ble_eq_true rfl⟩) hP hD hS hA (fun u_22 b_22 H locs hw_22 hP hD hS => ?_)
      have hP : va_P (dC, dI) vwCl (oW  b_22 u_22 (x_E ln cw ic se we) (x_C ln cw ic we un sf (se 0) ss) (x_dn cw ic we) ((x_op ic we ss).toInt) ((x_la ic we un ss bs).toInt) ((x_sh cw ic we un (se 1) ss bs).toInt)) H := hP
      have hD : va_D (fun q : Nat => s.heap.size ≤ q) (oW  b_22 u_22 (x_E ln cw ic se we) (x_C ln cw ic we un sf (se 0) ss) (x_dn cw ic we) ((x_op ic we ss).toInt) ((x_la ic we un ss bs).toInt) ((x_sh cw ic we un (se 1) ss bs).toInt)) := hD
      refine lv_astore_n (lv' := [(3, .ref b_22), (0, .ref (q 0)), (1, .int (nI j)), (2, .int wh)]) hx hb dX3_over_25 rfl hl (by decide) rfl (fun ls hl => ?_)
      refine lv_aload_n hx hb dX3_over_26 rfl (lv_at hl 1 rfl) ?_
      refine lv_iload_n hx hb dX3_over_27 rfl (lv_at hl 2 rfl) ?_
      refine lv_aload_n hx hb dX3_over_28 rfl (lv_at hl 0 rfl) ?_
      refine vp_callSl (rRV (As := [.int (nI j), .ref b_22]) (rest := []) ⟨hx, hb, hml, hown, hT⟩ (c_X3_overUp (l := l) j (by first | assumption | omega)) (cwTV 2 hT kc_X3_overUp km_X3_181 ki_X3_overUp ks_X3_overUp kn_X3 rfl rfl md_X3_overUp ⟨Nat.le_of_ble_eq_true rfl, Nat.le_of_ble_eq_true rfl⟩) (va_P.sub (ws' := (xW cI q ln cw ic bs ss se we un sf pa) ++ (owW  b_22 ((u_22).1) ((u_22).2.1) ((u_22).2.2.1) ((u_22).2.2.2.1) ((u_22).2.2.2.2.1) ((u_22).2.2.2.2.2) (iL (o_fd (x_E ln cw ic se we) (x_C ln cw ic we un sf (se 0) ss) (x_dn cw ic we) ((x_op ic we ss).toInt) ((x_la ic we un ss bs).toInt) ((x_sh cw ic we un (se 1) ss bs).toInt)))) ++ (shW  ((u_22).2.2.2.2.1) (iL ((o_du (x_E ln cw ic se we) (x_C ln cw ic we un sf (se 0) ss) (x_dn cw ic we) ((x_op ic we ss).toInt) ((x_la ic we un ss bs).toInt) ((x_sh cw ic we un (se 1) ss bs).toInt))).num) (iL (((o_du (x_E ln cw ic se we) (x_C ln cw ic we un sf (se 0) ss) (x_dn cw ic we) ((x_op ic we ss).toInt) ((x_la ic we un ss bs).toInt) ((x_sh cw ic we un (se 1) ss bs).toInt))).den : Int)))) (va_P.app (keepP hP0 hS) hP) [0, 1, 2, 3, 4, 5, 6, 11] rfl) hK (va_recv hK (keepP hP0 hS) (ci := 3) (q0 := 0) rfl rfl) rfl hl.1 rfl (Nat.le_of_ble_eq_true rfl) dX3_over_29 ⟨Nat.le_of_ble_eq_true rfl, Nat.le_of_ble_eq_true rfl⟩) (fun r_29 hw_29 => ?_)
      subst hw_29
      refine topl_eq (y := (iL (x_overUp ic bs ss we un pa j (iL (o_du (x_E ln cw ic se we) (x_C ln cw ic we un sf (se 0) ss) (x_dn cw ic we) ((x_op ic we ss).toInt) ((x_la ic we un ss bs).toInt) ((x_sh cw ic we un (se 1) ss bs).toInt)).num) (iL (o_fd (x_E ln cw ic se we) (x_C ln cw ic we un sf (se 0) ss) (x_dn cw ic we) ((x_op ic we ss).toInt) ((x_la ic we un ss bs).toInt) ((x_sh cw ic we un (se 1) ss bs).toInt)))).toInt)) (iL_of _) ?_
      refine lv_aload_n hx hb dX3_over_32 rfl (lv_at hl 0 rfl) ?_
      refine va_get (D := (dC, dI)) (ci := 1) (v := .long (iL (o_fd (x_E ln cw ic se we) (x_C ln cw ic we un sf (se 0) ss) (x_dn cw ic we) ((x_op ic we ss).toInt) ((x_la ic we un ss bs).toInt) ((x_sh cw ic we un (se 1) ss bs).toInt)))) (C := RX1) (T := TX1) (N := 7) hx hb hT hiX1 hown hK hP 0 rfl rfl 6 (by decide) (hT _ kf_X3_178) (fun _ h9 => h9) rfl dX3_over_33 ?_
      refine fN_r (rNS (As := [.long (iL (x_overUp ic bs ss we un pa j (iL (o_du (x_E ln cw ic se we) (x_C ln cw ic we un sf (se 0) ss) (x_dn cw ic we) ((x_op ic we ss).toInt) ((x_la ic we un ss bs).toInt) ((x_sh cw ic we un (se 1) ss bs).toInt)).num) (iL (o_fd (x_E ln cw ic se we) (x_C ln cw ic we un sf (se 0) ss) (x_dn cw ic we) ((x_op ic we ss).toInt) ((x_la ic we un ss bs).toInt) ((x_sh cw ic we un (se 1) ss bs).toInt)))).toInt), .long (iL (o_fd (x_E ln cw ic se we) (x_C ln cw ic we un sf (se 0) ss) (x_dn cw ic we) ((x_op ic we ss).toInt) ((x_la ic we un ss bs).toInt) ((x_sh cw ic we un (se 1) ss bs).toInt)))]) (rest := []) ⟨hx, hb, hml, hown, hT⟩ (c_X2_of (l := l) H.size ((x_overUp ic bs ss we un pa j (iL (o_du (x_E ln cw ic se we) (x_C ln cw ic we un sf (se 0) ss) (x_dn cw ic we) ((x_op ic we ss).toInt) ((x_la ic we un ss bs).toInt) ((x_sh cw ic we un (se 1) ss bs).toInt)).num) (iL (o_fd (x_E ln cw ic se we) (x_C ln cw ic we un sf (se 0) ss) (x_dn cw ic we) ((x_op ic we ss).toInt) ((x_la ic we un ss bs).toInt) ((x_sh cw ic we un (se 1) ss bs).toInt)))).toInt) (o_fd (x_E ln cw ic se we) (x_C ln cw ic we un sf (se 0) ss) (x_dn cw ic we) ((x_op ic we ss).toInt) ((x_la ic we un ss bs).toInt) ((x_sh cw ic we un (se 1) ss bs).toInt)) (hov j hj) (fd_bd hok).1 (fd_bd hok).2) (cwTS 2 hT kc_X2_of km_X3_134 kt_X2_of kn_X2 rfl rfl md_X2_of ⟨Nat.le_of_ble_eq_true rfl, Nat.le_of_ble_eq_true rfl⟩) nilP hK  rfl hl.1 rfl (Nat.le_of_ble_eq_true rfl) dX3_over_36 ⟨Nat.le_of_ble_eq_true rfl, Nat.le_of_ble_eq_true rfl⟩) hP hD hS hA (fun u_36 b_36 H locs hw_36 hP hD hS => ?_)
      have hP : va_P (dC, dI) vwCl ((oW  b_22 u_22 (x_E ln cw ic se we) (x_C ln cw ic we un sf (se 0) ss) (x_dn cw ic we) ((x_op ic we ss).toInt) ((x_la ic we un ss bs).toInt) ((x_sh cw ic we un (se 1) ss bs).toInt)) ++ (shQ  b_36 (Rat.divInt ((x_overUp ic bs ss we un pa j (iL (o_du (x_E ln cw ic se we) (x_C ln cw ic we un sf (se 0) ss) (x_dn cw ic we) ((x_op ic we ss).toInt) ((x_la ic we un ss bs).toInt) ((x_sh cw ic we un (se 1) ss bs).toInt)).num) (iL (o_fd (x_E ln cw ic se we) (x_C ln cw ic we un sf (se 0) ss) (x_dn cw ic we) ((x_op ic we ss).toInt) ((x_la ic we un ss bs).toInt) ((x_sh cw ic we un (se 1) ss bs).toInt)))).toInt) (o_fd (x_E ln cw ic se we) (x_C ln cw ic we un sf (se 0) ss) (x_dn cw ic we) ((x_op ic we ss).toInt) ((x_la ic we un ss bs).toInt) ((x_sh cw ic we un (se 1) ss bs).toInt))))) H := hP
      have hD : va_D (fun q : Nat => s.heap.size ≤ q) ((oW  b_22 u_22 (x_E ln cw ic se we) (x_C ln cw ic we un sf (se 0) ss) (x_dn cw ic we) ((x_op ic we ss).toInt) ((x_la ic we un ss bs).toInt) ((x_sh cw ic we un (se 1) ss bs).toInt)) ++ (shQ  b_36 (Rat.divInt ((x_overUp ic bs ss we un pa j (iL (o_du (x_E ln cw ic se we) (x_C ln cw ic we un sf (se 0) ss) (x_dn cw ic we) ((x_op ic we ss).toInt) ((x_la ic we un ss bs).toInt) ((x_sh cw ic we un (se 1) ss bs).toInt)).num) (iL (o_fd (x_E ln cw ic se we) (x_C ln cw ic we un sf (se 0) ss) (x_dn cw ic we) ((x_op ic we ss).toInt) ((x_la ic we un ss bs).toInt) ((x_sh cw ic we un (se 1) ss bs).toInt)))).toInt) (o_fd (x_E ln cw ic se we) (x_C ln cw ic we un sf (se 0) ss) (x_dn cw ic we) ((x_op ic we ss).toInt) ((x_la ic we un ss bs).toInt) ((x_sh cw ic we un (se 1) ss bs).toInt))))) := hD
      refine lv_iload_n hx hb dX3_over_39 rfl (lv_at hl 3 rfl) ?_
      refine vp_callSl (rRV (As := [.int wh]) (rest := []) ⟨hx, hb, hml, hown, hT⟩ (c_X2_told (l := l) wh) (cwTV 1 hT kc_X2_told km_X3_108 ki_X2_told ks_X2_told kn_X2 rfl rfl md_X2_told ⟨Nat.le_of_ble_eq_true rfl, Nat.le_of_ble_eq_true rfl⟩) (va_P.sub (ws' := shQ  b_36 (Rat.divInt ((x_overUp ic bs ss we un pa j (iL (o_du (x_E ln cw ic se we) (x_C ln cw ic we un sf (se 0) ss) (x_dn cw ic we) ((x_op ic we ss).toInt) ((x_la ic we un ss bs).toInt) ((x_sh cw ic we un (se 1) ss bs).toInt)).num) (iL (o_fd (x_E ln cw ic se we) (x_C ln cw ic we un sf (se 0) ss) (x_dn cw ic we) ((x_op ic we ss).toInt) ((x_la ic we un ss bs).toInt) ((x_sh cw ic we un (se 1) ss bs).toInt)))).toInt) (o_fd (x_E ln cw ic se we) (x_C ln cw ic we un sf (se 0) ss) (x_dn cw ic we) ((x_op ic we ss).toInt) ((x_la ic we un ss bs).toInt) ((x_sh cw ic we un (se 1) ss bs).toInt)))) hP [7] rfl) hK (va_recv hK hP (ci := 2) (q0 := 7) rfl rfl) rfl hl.1 rfl (Nat.le_of_ble_eq_true rfl) dX3_over_40 ⟨Nat.le_of_ble_eq_true rfl, Nat.le_of_ble_eq_true rfl⟩) (fun r_40 hw_40 => ?_)
      subst hw_40
      exact retN_l (post := fun r _ => (((¬ ∃ i7, i7 < 6 ∧ (nI j) = nI i7 ∧ bt ic i7 = true) ∨ (wh < 0 ∨ 1 < wh)) ∧ r = (-9223372036854775808)) ∨ (∃ i7, i7 < 6 ∧ (nI j) = nI i7 ∧ bt ic i7 = true ∧ ¬ (wh < 0 ∨ 1 < wh) ∧ r = tellQ (Rat.divInt (x_overUp ic bs ss we un pa i7 (iL (o_du (x_E ln cw ic se we) (x_C ln cw ic we un sf (se 0) ss) (x_dn cw ic we) ((x_op ic we ss).toInt) ((x_la ic we un ss bs).toInt) ((x_sh cw ic we un (se 1) ss bs).toInt)).num) (iL (o_fd (x_E ln cw ic se we) (x_C ln cw ic we un sf (se 0) ss) (x_dn cw ic we) ((x_op ic we ss).toInt) ((x_la ic we un ss bs).toInt) ((x_sh cw ic we un (se 1) ss bs).toInt)))).toInt (o_fd (x_E ln cw ic se we) (x_C ln cw ic we un sf (se 0) ss) (x_dn cw ic we) ((x_op ic we ss).toInt) ((x_la ic we un ss bs).toInt) ((x_sh cw ic we un (se 1) ss bs).toInt))) wh)) hx hb hr hlocks (by first | exact Or.inl ⟨Or.inl hw_2, rfl⟩ | exact Or.inl ⟨Or.inr hw_11, rfl⟩ | exact Or.inr ⟨j, hj, rfl, hbj, hw_11, rfl⟩) hS dX3_over_43
  · refine lv_if_eq (tgt := 17) hx hb dX3_over_5 (by decide) (fun c_5 => ?_) (fun h => absurd h (by decide))
    refine lv_ldc2 hx hb hown (hT _ kj_X3_96) dX3_over_17 ?_
    refine W.widen (k := 8) (n := 21) (Nat.le_of_ble_eq_true rfl) (Nat.le_of_ble_eq_true rfl) ?_
    exact retN_l (post := fun r _ => (((¬ ∃ i7, i7 < 6 ∧ v = nI i7 ∧ bt ic i7 = true) ∨ (wh < 0 ∨ 1 < wh)) ∧ r = (-9223372036854775808)) ∨ (∃ i7, i7 < 6 ∧ v = nI i7 ∧ bt ic i7 = true ∧ ¬ (wh < 0 ∨ 1 < wh) ∧ r = tellQ (Rat.divInt (x_overUp ic bs ss we un pa i7 (iL (o_du (x_E ln cw ic se we) (x_C ln cw ic we un sf (se 0) ss) (x_dn cw ic we) ((x_op ic we ss).toInt) ((x_la ic we un ss bs).toInt) ((x_sh cw ic we un (se 1) ss bs).toInt)).num) (iL (o_fd (x_E ln cw ic se we) (x_C ln cw ic we un sf (se 0) ss) (x_dn cw ic we) ((x_op ic we ss).toInt) ((x_la ic we un ss bs).toInt) ((x_sh cw ic we un (se 1) ss bs).toInt)))).toInt (o_fd (x_E ln cw ic se we) (x_C ln cw ic we un sf (se 0) ss) (x_dn cw ic we) ((x_op ic we ss).toInt) ((x_la ic we un ss bs).toInt) ((x_sh cw ic we un (se 1) ss bs).toInt))) wh)) hx hb hr hlocks (by first | exact Or.inl ⟨Or.inl hw_2, rfl⟩ | exact Or.inl ⟨Or.inr hw_11, rfl⟩ | exact Or.inr ⟨j, hj, rfl, hbj, hw_11, rfl⟩) hS dX3_over_20
set_option maxHeartbeats 4000000 in
set_option maxRecDepth 100000 in
theorem c_X3_owe (sz : Nat) (hok : x_ok ln cw ic se we un sf (se 0) (se 1) ss bs) : Met l yX3_owe (wT yX3_owe cX3_owe 3 (some .int)) ({ frames := 7, cells := 7, slots := 19, locals := 167 }) (pN (dC, dI) (ty3 cI cJ cZ) (xW cI q ln cw ic bs ss se we un sf pa) [.ref (q 0)] sz) (va_Qi (S := Unit) (fun r _ => ((o_pw (x_E ln cw ic se we) (x_C ln cw ic we un sf (se 0) ss) (x_dn cw ic we) ((x_op ic we ss).toInt) ((x_la ic we un ss bs).toInt) ((x_sh cw ic we un (se 1) ss bs).toInt)).num = 0 ∧ r = 0) ∨ (¬ (o_pw (x_E ln cw ic se we) (x_C ln cw ic we un sf (se 0) ss) (x_dn cw ic we) ((x_op ic we ss).toInt) ((x_la ic we un ss bs).toInt) ((x_sh cw ic we un (se 1) ss bs).toInt)).num = 0 ∧ r = x_oweN ic bs ss we un 6)) (fun _ _ => True) (fun q : Nat => sz ≤ q)) 7 19 (fun q : Nat => sz ≤ q) := by
  refine Met.ofW (cc := cX3_owe) (maxL := 3) (ret := (some .int)) (by decide) rfl ?_
  intro p e s m args below meth c s₁ B hml hv
  obtain ⟨rfl, hsz, hP0, hK⟩ := hv
  have hx := B.exec
  have hb := B.bytes
  have hr := B.returns
  have hts := atoms_spec (ws := wT yX3_owe cX3_owe 3 (some .int)) B.pre
  have hT := wT_T hts
  have hown : s.vm.findClass RX3 = some m.cls := findClass_of_methodNamed B.named
  have hlocks := B.notSynchronized
  subst hsz
  have hA : ∀ q : Nat, s.heap.size ≤ q → (fun q : Nat => s.heap.size ≤ q) q := fun q h => h
  have hS : va_S (fun q : Nat => s.heap.size ≤ q) s.heap s.heap [] := va_S.rf
  have hP : va_P (dC, dI) vwCl [] s.heap := nilP
  have hD : va_D (fun q : Nat => s.heap.size ≤ q) [] := nilD
  have hl := lv_entry ([.ref (q 0)]) (n := 3) (Nat.le_of_ble_eq_true rfl)
  rw [lg_entry_eq]
  generalize (lg_sl ([.ref (q 0)]) ++ List.replicate (3 - (lg_sl ([.ref (q 0)])).length) Slot.unset).toArray = ls at hl ⊢
  have hl : lv_has ls 3 [(0, .ref (q 0))] := hl
  refine lv_aload_n hx hb dX3_owe_0 rfl (lv_at hl 0 rfl) ?_
  refine fN_r (rNV (As := []) (rest := []) ⟨hx, hb, hml, hown, hT⟩ (c_X3_owedNow (l := l) s.heap.size hok) (cwTV 0 hT kc_X3_owedNow km_X3_98 ki_X3_owedNow ks_X3_owedNow kn_X3 rfl rfl md_X3_owedNow ⟨Nat.le_of_ble_eq_true rfl, Nat.le_of_ble_eq_true rfl⟩) (keepP hP0 hS) hK (va_recv hK (keepP hP0 hS) (ci := 3) (q0 := 0) rfl rfl) rfl hl.1 rfl (Nat.le_of_ble_eq_true rfl) dX3_owe_1 ⟨Nat.le_of_ble_eq_true rfl, Nat.le_of_ble_eq_true rfl⟩) hP hD hS hA (fun u_1 b_1 H locs hw_1 hP hD hS => ?_)
  have hP : va_P (dC, dI) vwCl (oW  b_1 u_1 (x_E ln cw ic se we) (x_C ln cw ic we un sf (se 0) ss) (x_dn cw ic we) ((x_op ic we ss).toInt) ((x_la ic we un ss bs).toInt) ((x_sh cw ic we un (se 1) ss bs).toInt)) H := hP
  have hD : va_D (fun q : Nat => s.heap.size ≤ q) (oW  b_1 u_1 (x_E ln cw ic se we) (x_C ln cw ic we un sf (se 0) ss) (x_dn cw ic we) ((x_op ic we ss).toInt) ((x_la ic we un ss bs).toInt) ((x_sh cw ic we un (se 1) ss bs).toInt)) := hD
  have hpr : rng (o_pw (x_E ln cw ic se we) (x_C ln cw ic we un sf (se 0) ss) (x_dn cw ic we) ((x_op ic we ss).toInt) ((x_la ic we un ss bs).toInt) ((x_sh cw ic we un (se 1) ss bs).toInt)).num := by have := o_pw_bd hok; unfold rng; omega
  refine va_get (D := (dC, dI)) (ci := 1) (v := .ref ((u_1).2.2.2.1)) (C := RX1) (T := TX1) (N := 7) hx hb hT hiX1 hown hK hP 0 rfl rfl 3 (by decide) (hT _ kf_X3_138) (fun _ h9 => h9) rfl dX3_owe_4 ?_
  refine va_get (D := (dC, dI)) (ci := 2) (v := .long (iL ((o_pw (x_E ln cw ic se we) (x_C ln cw ic we un sf (se 0) ss) (x_dn cw ic we) ((x_op ic we ss).toInt) ((x_la ic we un ss bs).toInt) ((x_sh cw ic we un (se 1) ss bs).toInt))).num)) (C := RX2) (T := TX2) (N := 2) hx hb hT hiX2 hown hK hP 4 rfl rfl 0 (by decide) (hT _ kf_X3_160) (fun _ h9 => h9) rfl dX3_owe_7 ?_
  refine lv_lconst (v := iL 0) hx hb dX3_owe_10 rfl ?_
  refine lc_ne (tgt := 17) hx hb dX3_owe_11 dX3_owe_12 (by decide) (fun c_11 => ?_) (fun c_11 => ?_)
  · have hz : ¬ (o_pw (x_E ln cw ic se we) (x_C ln cw ic we un sf (se 0) ss) (x_dn cw ic we) ((x_op ic we ss).toInt) ((x_la ic we un ss bs).toInt) ((x_sh cw ic we un (se 1) ss bs).toInt)).num = 0 := fun h => c_11 (by rw [h])
    refine lv_iconst (v := 0) hx hb dX3_owe_17 (by decide) ?_
    refine lv_istore_n (lv' := [(1, .int 0), (0, .ref (q 0))]) hx hb dX3_owe_18 rfl hl (by decide) rfl (fun ls hl => ?_)
    refine lv_iconst (v := 0) hx hb dX3_owe_19 (by decide) ?_
    refine lv_istore_n (lv' := [(2, .int 0), (1, .int 0), (0, .ref (q 0))]) hx hb dX3_owe_20 rfl hl (by decide) rfl (fun ls hl => ?_)
    refine loopR 6 (fun i ls => lv_has ls 3 [(2, .int (nI i)), (1, .int (x_oweN ic bs ss we un i)), (0, .ref (q 0))]) (i0 := 0) (Nat.zero_le _) (lv_sub hl [0, 1, 2] rfl) (fun i ls hi hl ih => ?_) (fun ls hl => ?_)
    · refine lv_iload_n hx hb dX3_owe_21 rfl (lv_at hl 0 rfl) ?_
      refine lv_bipush (v := 6) hx hb dX3_owe_22 (by decide) ?_
      refine lv_icmp_ge (tgt := 56) hx hb dX3_owe_24 (by decide) (fun h => absurd h (nI_ge (b := 6) hi (by decide))) (fun c_24 => ?_)
      refine lv_aload_n hx hb dX3_owe_27 rfl (lv_at hl 2 rfl) ?_
      refine lv_iload_n hx hb dX3_owe_28 rfl (lv_at hl 0 rfl) ?_
      refine vp_callSi (rRV (As := [.int (nI i)]) (rest := []) ⟨hx, hb, hml, hown, hT⟩ (c_X3_isKnown (l := l) (nI i)) (cwTV 1 hT kc_X3_isKnown km_X3_57 ki_X3_isKnown ks_X3_isKnown kn_X3 rfl rfl md_X3_isKnown ⟨Nat.le_of_ble_eq_true rfl, Nat.le_of_ble_eq_true rfl⟩) (keepP hP0 hS) hK (va_recv hK (keepP hP0 hS) (ci := 3) (q0 := 0) rfl rfl) rfl hl.1 rfl (Nat.le_of_ble_eq_true rfl) dX3_owe_29 ⟨Nat.le_of_ble_eq_true rfl, Nat.le_of_ble_eq_true rfl⟩) (fun r_29 hw_29 => ?_)
      rcases hw_29 with ⟨rfl, hw_29⟩ | ⟨rfl, hw_29⟩
      · have hki : bt ic i = true := kn_at hi hw_29
        refine lv_if_eq (tgt := 50) hx hb dX3_owe_32 (by decide) (fun h => absurd h (by decide)) (fun c_32 => ?_)
        refine lv_aload_n hx hb dX3_owe_35 rfl (lv_at hl 2 rfl) ?_
        refine lv_iload_n hx hb dX3_owe_36 rfl (lv_at hl 0 rfl) ?_
        refine vp_callSi (rRV (As := [.int (nI i)]) (rest := []) ⟨hx, hb, hml, hown, hT⟩ (c_X3_bears (l := l) i (by first | assumption | omega)) (cwTV 1 hT kc_X3_bears km_X3_149 ki_X3_bears ks_X3_bears kn_X3 rfl rfl md_X3_bears ⟨Nat.le_of_ble_eq_true rfl, Nat.le_of_ble_eq_true rfl⟩) (keepP hP0 hS) hK (va_recv hK (keepP hP0 hS) (ci := 3) (q0 := 0) rfl rfl) rfl hl.1 rfl (Nat.le_of_ble_eq_true rfl) dX3_owe_37 ⟨Nat.le_of_ble_eq_true rfl, Nat.le_of_ble_eq_true rfl⟩) (fun r_37 hw_37 => ?_)
        subst hw_37
        refine lv_if_le (tgt := 50) hx hb dX3_owe_40 (by decide) (fun c_40 => ?_) (fun c_40 => ?_)
        · refine lv_iinc (v := (nI (i + 1))) (lv' := [(2, .int (nI (i + 1))), (1, .int (x_oweN ic bs ss we un i)), (0, .ref (q 0))]) hx hb dX3_owe_50 hl (k := 0) rfl (nI_1 i) (by decide) rfl (fun ls hl => ?_)
          refine lv_goto (tgt := 21) hx hb dX3_owe_53 (by decide) ?_
          have es0 : (x_oweN ic bs ss we un i : Int32) = (x_oweN ic bs ss we un (i + 1)) := by simp only [x_oweN, hki, c_11, hw_29, c_40, ↓reduceIte, Bool.false_eq_true, i10]
          exact ih _ (by rw [← es0]; exact lv_sub hl [0, 1, 2] rfl)
        · refine lv_iload_n hx hb dX3_owe_43 rfl (lv_at hl 1 rfl) ?_
          refine lv_iload_n hx hb dX3_owe_44 rfl (lv_at hl 0 rfl) ?_
          refine vp_callSi (rRS (As := [.int (nI i)]) (rest := [.int (x_oweN ic bs ss we un i)]) ⟨hx, hb, hml, hown, hT⟩ (c_X3_bit (l := l) i) (cwTS 1 hT kc_X3_bit km_X3_53 kt_X3_bit kn_X3 rfl rfl md_X3_bit ⟨Nat.le_of_ble_eq_true rfl, Nat.le_of_ble_eq_true rfl⟩) nilP hK  rfl hl.1 rfl (Nat.le_of_ble_eq_true rfl) dX3_owe_45 ⟨Nat.le_of_ble_eq_true rfl, Nat.le_of_ble_eq_true rfl⟩) (fun r_45 hw_45 => ?_)
          subst hw_45
          refine lv_ior hx hb dX3_owe_48 ?_
          refine lv_istore_n (lv' := [(1, .int ((x_oweN ic bs ss we un i) ||| (x_bit i))), (2, .int (nI i)), (0, .ref (q 0))]) hx hb dX3_owe_49 rfl hl (by decide) rfl (fun ls hl => ?_)
          refine lv_iinc (v := (nI (i + 1))) (lv' := [(2, .int (nI (i + 1))), (1, .int ((x_oweN ic bs ss we un i) ||| (x_bit i))), (0, .ref (q 0))]) hx hb dX3_owe_50 hl (k := 1) rfl (nI_1 i) (by decide) rfl (fun ls hl => ?_)
          refine lv_goto (tgt := 21) hx hb dX3_owe_53 (by decide) ?_
          have es0 : ((x_oweN ic bs ss we un i) ||| (x_bit i) : Int32) = (x_oweN ic bs ss we un (i + 1)) := by simp only [x_oweN, hki, c_11, hw_29, c_40, ↓reduceIte, Bool.false_eq_true, i10]
          exact ih _ (by rw [← es0]; exact lv_sub hl [0, 1, 2] rfl)
      · have hki : ¬ bt ic i = true := fun h => hw_29 ⟨i, hi, rfl, h⟩
        refine lv_if_eq (tgt := 50) hx hb dX3_owe_32 (by decide) (fun c_32 => ?_) (fun h => absurd h (by decide))
        refine lv_iinc (v := (nI (i + 1))) (lv' := [(2, .int (nI (i + 1))), (1, .int (x_oweN ic bs ss we un i)), (0, .ref (q 0))]) hx hb dX3_owe_50 hl (k := 0) rfl (nI_1 i) (by decide) rfl (fun ls hl => ?_)
        refine lv_goto (tgt := 21) hx hb dX3_owe_53 (by decide) ?_
        have es0 : (x_oweN ic bs ss we un i : Int32) = (x_oweN ic bs ss we un (i + 1)) := by simp only [x_oweN, hki, c_11, hw_29, ↓reduceIte, Bool.false_eq_true, i10]
        exact ih _ (by rw [← es0]; exact lv_sub hl [0, 1, 2] rfl)
    · refine lv_iload_n hx hb dX3_owe_21 rfl (lv_at hl 0 rfl) ?_
      refine lv_bipush (v := 6) hx hb dX3_owe_22 (by decide) ?_
      refine lv_icmp_ge (tgt := 56) hx hb dX3_owe_24 (by decide) (fun c_24 => ?_) (fun h => absurd h (by decide))
      refine lv_iload_n hx hb dX3_owe_56 rfl (lv_at hl 1 rfl) ?_
      exact retN_i (post := fun r _ => ((o_pw (x_E ln cw ic se we) (x_C ln cw ic we un sf (se 0) ss) (x_dn cw ic we) ((x_op ic we ss).toInt) ((x_la ic we un ss bs).toInt) ((x_sh cw ic we un (se 1) ss bs).toInt)).num = 0 ∧ r = 0) ∨ (¬ (o_pw (x_E ln cw ic se we) (x_C ln cw ic we un sf (se 0) ss) (x_dn cw ic we) ((x_op ic we ss).toInt) ((x_la ic we un ss bs).toInt) ((x_sh cw ic we un (se 1) ss bs).toInt)).num = 0 ∧ r = x_oweN ic bs ss we un 6)) hx hb hr hlocks (by first | exact Or.inl ⟨hz, rfl⟩ | exact Or.inr ⟨hz, rfl⟩) hS dX3_owe_57
  · have hz : (o_pw (x_E ln cw ic se we) (x_C ln cw ic we un sf (se 0) ss) (x_dn cw ic we) ((x_op ic we ss).toInt) ((x_la ic we un ss bs).toInt) ((x_sh cw ic we un (se 1) ss bs).toInt)).num = 0 := (iL_eq hpr rng_0).mp c_11
    refine lv_iconst (v := 0) hx hb dX3_owe_15 (by decide) ?_
    exact retN_i (post := fun r _ => ((o_pw (x_E ln cw ic se we) (x_C ln cw ic we un sf (se 0) ss) (x_dn cw ic we) ((x_op ic we ss).toInt) ((x_la ic we un ss bs).toInt) ((x_sh cw ic we un (se 1) ss bs).toInt)).num = 0 ∧ r = 0) ∨ (¬ (o_pw (x_E ln cw ic se we) (x_C ln cw ic we un sf (se 0) ss) (x_dn cw ic we) ((x_op ic we ss).toInt) ((x_la ic we un ss bs).toInt) ((x_sh cw ic we un (se 1) ss bs).toInt)).num = 0 ∧ r = x_oweN ic bs ss we un 6)) hx hb hr hlocks (by first | exact Or.inl ⟨hz, rfl⟩ | exact Or.inr ⟨hz, rfl⟩) hS dX3_owe_16
set_option maxHeartbeats 4000000 in
set_option maxRecDepth 100000 in
theorem c_X3_pay (sz : Nat) (v x : Int32) (hok : x_ok ln cw ic se we un sf (se 0) (se 1) ss bs) (hpa : 0 ≤ (x_sumN ic pa 6).toInt ∧ (x_sumN ic pa 6).toInt ≤ 10000000) : Met l yX3_pay (wT yX3_pay cX3_pay 3 (some .int)) ({ frames := 7, cells := 8, slots := 21, locals := 167 }) (pM (dC, dI) (ty3 cI cJ cZ) (xW cI q ln cw ic bs ss se we un sf pa) [.ref (q 0), .int v, .int x] sz) (va_Qi (S := XS) (fun r u => xk (fun j => bt ic j = true) v (r = -1 ∧ u = (ln, cw, ic, bs, ss, se, we, un, sf, pa)) (fun j => ((x < 1 ∨ 1000000 < x) ∧ r = -2 ∧ u = (ln, cw, ic, bs, ss, se, we, un, sf, pa)) ∨ (¬ (x < 1 ∨ 1000000 < x) ∧ (((bt bs j = true ∨ bt ss j = true ∨ ¬ 0 ≤ (o_du (x_E ln cw ic se we) (x_C ln cw ic we un sf (se 0) ss) (x_dn cw ic we) ((x_op ic we ss).toInt) ((x_la ic we un ss bs).toInt) ((x_sh cw ic we un (se 1) ss bs).toInt) + iQ (-(x_sumN ic pa 6).toInt - x.toInt)).num) ∧ r = -3 ∧ u = (ln, cw, ic, bs, ss, se, we, un, sf, pa)) ∨ (¬ (bt bs j = true ∨ bt ss j = true ∨ ¬ 0 ≤ (o_du (x_E ln cw ic se we) (x_C ln cw ic we un sf (se 0) ss) (x_dn cw ic we) ((x_op ic we ss).toInt) ((x_la ic we un ss bs).toInt) ((x_sh cw ic we un (se 1) ss bs).toInt) + iQ (-(x_sumN ic pa 6).toInt - x.toInt)).num) ∧ r = upd pa j (pa j + x) j ∧ u = (ln, cw, ic, bs, ss, se, we, un, sf, (upd pa j (pa j + x)))))))) (fun u t9 => bM (dC, dI) (ty3 cI cJ cZ) (va_A (xW cI q ln cw ic bs ss se we un sf pa) sz) (xWt cI q u) t9) (va_A (xW cI q ln cw ic bs ss se we un sf pa) sz)) 8 21 (va_A (xW cI q ln cw ic bs ss se we un sf pa) sz) := by
  refine Met.ofW (cc := cX3_pay) (maxL := 3) (ret := (some .int)) (by decide) rfl ?_
  intro p e s m args below meth c s₁ B hml hv
  obtain ⟨rfl, hsz, hP, hK, hD0⟩ := hv
  have hx := B.exec
  have hb := B.bytes
  have hr := B.returns
  have hts := atoms_spec (ws := wT yX3_pay cX3_pay 3 (some .int)) B.pre
  have hT := wT_T hts
  have hown : s.vm.findClass RX3 = some m.cls := findClass_of_methodNamed B.named
  have hlocks := B.notSynchronized
  subst hsz
  have hD := hD0.self (sz := s.heap.size)
  generalize hAe : va_A (xW cI q ln cw ic bs ss se we un sf pa) s.heap.size = A at hD ⊢
  have hA : ∀ q : Nat, s.heap.size ≤ q → A q := fun q h => by rw [← hAe]; exact Or.inr h
  have hS : va_S A s.heap s.heap [] := va_S.rf
  have hl := lv_entry ([.ref (q 0), .int v, .int x]) (n := 3) (Nat.le_of_ble_eq_true rfl)
  rw [lg_entry_eq]
  generalize (lg_sl ([.ref (q 0), .int v, .int x]) ++ List.replicate (3 - (lg_sl ([.ref (q 0), .int v, .int x])).length) Slot.unset).toArray = ls at hl ⊢
  have hl : lv_has ls 3 [(0, .ref (q 0)), (1, .int v), (2, .int x)] := hl
  refine lv_aload_n hx hb dX3_pay_0 rfl (lv_at hl 0 rfl) ?_
  refine lv_iload_n hx hb dX3_pay_1 rfl (lv_at hl 1 rfl) ?_
  refine vp_callSi (rRV (As := [.int v]) (rest := []) ⟨hx, hb, hml, hown, hT⟩ (c_X3_isKnown (l := l) v) (cwTV 1 hT kc_X3_isKnown km_X3_57 ki_X3_isKnown ks_X3_isKnown kn_X3 rfl rfl md_X3_isKnown ⟨Nat.le_of_ble_eq_true rfl, Nat.le_of_ble_eq_true rfl⟩) hP hK (va_recv hK hP (ci := 3) (q0 := 0) rfl rfl) rfl hl.1 rfl (Nat.le_of_ble_eq_true rfl) dX3_pay_2 ⟨Nat.le_of_ble_eq_true rfl, Nat.le_of_ble_eq_true rfl⟩) (fun r_2 hw_2 => ?_)
  rcases hw_2 with ⟨rfl, hw_2⟩ | ⟨rfl, hw_2⟩
  · obtain ⟨j, hj, rfl, hbj⟩ := hw_2
    refine lv_if_ne (tgt := 10) hx hb dX3_pay_5 (by decide) (fun c_5 => ?_) (fun h => absurd h (by decide))
    refine lv_iload_n hx hb dX3_pay_10 rfl (lv_at hl 2 rfl) ?_
    refine lv_iconst (v := 1) hx hb dX3_pay_11 (by decide) ?_
    refine lv_ldc hx hb hown (hT _ kk_X3_34) dX3_pay_12 ?_
    refine vp_callSi (rRS (As := [.int x, .int 1, .int 1000000]) (rest := []) ⟨hx, hb, hml, hown, hT⟩ (c_X3_isOutside (l := l) x 1 1000000) (cwTS 3 hT kc_X3_isOutside km_X3_35 kt_X3_isOutside kn_X3 rfl rfl md_X3_isOutside ⟨Nat.le_of_ble_eq_true rfl, Nat.le_of_ble_eq_true rfl⟩) nilP hK  rfl hl.1 rfl (Nat.le_of_ble_eq_true rfl) dX3_pay_14 ⟨Nat.le_of_ble_eq_true rfl, Nat.le_of_ble_eq_true rfl⟩) (fun r_14 hw_14 => ?_)
    rcases hw_14 with ⟨rfl, hw_14⟩ | ⟨rfl, hw_14⟩
    · refine lv_if_eq (tgt := 23) hx hb dX3_pay_17 (by decide) (fun h => absurd h (by decide)) (fun c_17 => ?_)
      refine lv_bipush (v := (-2)) hx hb dX3_pay_20 (by decide) ?_
      refine W.widen (k := 8) (n := 21) (Nat.le_of_ble_eq_true rfl) (Nat.le_of_ble_eq_true rfl) ?_
      exact retM_i (S := XS) (post := fun r u => xk (fun j => bt ic j = true) (nI j) (r = -1 ∧ u = (ln, cw, ic, bs, ss, se, we, un, sf, pa)) (fun j => ((x < 1 ∨ 1000000 < x) ∧ r = -2 ∧ u = (ln, cw, ic, bs, ss, se, we, un, sf, pa)) ∨ (¬ (x < 1 ∨ 1000000 < x) ∧ (((bt bs j = true ∨ bt ss j = true ∨ ¬ 0 ≤ (o_du (x_E ln cw ic se we) (x_C ln cw ic we un sf (se 0) ss) (x_dn cw ic we) ((x_op ic we ss).toInt) ((x_la ic we un ss bs).toInt) ((x_sh cw ic we un (se 1) ss bs).toInt) + iQ (-(x_sumN ic pa 6).toInt - x.toInt)).num) ∧ r = -3 ∧ u = (ln, cw, ic, bs, ss, se, we, un, sf, pa)) ∨ (¬ (bt bs j = true ∨ bt ss j = true ∨ ¬ 0 ≤ (o_du (x_E ln cw ic se we) (x_C ln cw ic we un sf (se 0) ss) (x_dn cw ic we) ((x_op ic we ss).toInt) ((x_la ic we un ss bs).toInt) ((x_sh cw ic we un (se 1) ss bs).toInt) + iQ (-(x_sumN ic pa 6).toInt - x.toInt)).num) ∧ r = upd pa j (pa j + x) j ∧ u = (ln, cw, ic, bs, ss, se, we, un, sf, (upd pa j (pa j + x)))))))) (w2 := fun u => xWt cI q u) (ln, cw, ic, bs, ss, se, we, un, sf, pa) hx hb hr hlocks (by first | exact Or.inr ⟨hw_2, rfl, rfl⟩ | (refine Or.inl ⟨j, hj, rfl, hbj, ?_⟩; first | exact Or.inl ⟨hw_14, rfl, rfl⟩ | exact Or.inr ⟨hw_14, Or.inl ⟨Or.inl hw_28, rfl, rfl⟩⟩ | exact Or.inr ⟨hw_14, Or.inl ⟨Or.inr (Or.inl hw_39), rfl, rfl⟩⟩ | exact Or.inr ⟨hw_14, Or.inl ⟨Or.inr (Or.inr hz), rfl, rfl⟩⟩ | exact Or.inr ⟨hw_14, Or.inr ⟨fun h => by rcases h with h | h | h; exact hw_28 h; exact hw_39 h; exact h hz, rfl, rfl⟩⟩)) hP hK hD hS dX3_pay_22
    · refine lv_if_eq (tgt := 23) hx hb dX3_pay_17 (by decide) (fun c_17 => ?_) (fun h => absurd h (by decide))
      refine lv_aload_n hx hb dX3_pay_23 rfl (lv_at hl 0 rfl) ?_
      refine va_get (D := (dC, dI)) (ci := 3) (v := .int bs) (C := RX3) (T := TX3) (N := 11) hx hb hT hiX3 hown hK hP 0 rfl rfl 4 (by decide) (hT _ kf_X3_68) (fun _ h9 => h9) rfl dX3_pay_24 ?_
      refine lv_iload_n hx hb dX3_pay_27 rfl (lv_at hl 1 rfl) ?_
      refine vp_callSi (rRS (As := [.int bs, .int (nI j)]) (rest := []) ⟨hx, hb, hml, hown, hT⟩ (c_X3_has (l := l) bs j (by first | assumption | omega)) (cwTS 2 hT kc_X3_has km_X3_49 kt_X3_has kn_X3 rfl rfl md_X3_has ⟨Nat.le_of_ble_eq_true rfl, Nat.le_of_ble_eq_true rfl⟩) nilP hK  rfl hl.1 rfl (Nat.le_of_ble_eq_true rfl) dX3_pay_28 ⟨Nat.le_of_ble_eq_true rfl, Nat.le_of_ble_eq_true rfl⟩) (fun r_28 hw_28 => ?_)
      rcases hw_28 with ⟨rfl, hw_28⟩ | ⟨rfl, hw_28⟩
      · refine lv_if_ne (tgt := 45) hx hb dX3_pay_31 (by decide) (fun c_31 => ?_) (fun h => absurd h (by decide))
        refine lv_bipush (v := (-3)) hx hb dX3_pay_45 (by decide) ?_
        refine W.widen (k := 8) (n := 21) (Nat.le_of_ble_eq_true rfl) (Nat.le_of_ble_eq_true rfl) ?_
        exact retM_i (S := XS) (post := fun r u => xk (fun j => bt ic j = true) (nI j) (r = -1 ∧ u = (ln, cw, ic, bs, ss, se, we, un, sf, pa)) (fun j => ((x < 1 ∨ 1000000 < x) ∧ r = -2 ∧ u = (ln, cw, ic, bs, ss, se, we, un, sf, pa)) ∨ (¬ (x < 1 ∨ 1000000 < x) ∧ (((bt bs j = true ∨ bt ss j = true ∨ ¬ 0 ≤ (o_du (x_E ln cw ic se we) (x_C ln cw ic we un sf (se 0) ss) (x_dn cw ic we) ((x_op ic we ss).toInt) ((x_la ic we un ss bs).toInt) ((x_sh cw ic we un (se 1) ss bs).toInt) + iQ (-(x_sumN ic pa 6).toInt - x.toInt)).num) ∧ r = -3 ∧ u = (ln, cw, ic, bs, ss, se, we, un, sf, pa)) ∨ (¬ (bt bs j = true ∨ bt ss j = true ∨ ¬ 0 ≤ (o_du (x_E ln cw ic se we) (x_C ln cw ic we un sf (se 0) ss) (x_dn cw ic we) ((x_op ic we ss).toInt) ((x_la ic we un ss bs).toInt) ((x_sh cw ic we un (se 1) ss bs).toInt) + iQ (-(x_sumN ic pa 6).toInt - x.toInt)).num) ∧ r = upd pa j (pa j + x) j ∧ u = (ln, cw, ic, bs, ss, se, we, un, sf, (upd pa j (pa j + x)))))))) (w2 := fun u => xWt cI q u) (ln, cw, ic, bs, ss, se, we, un, sf, pa) hx hb hr hlocks (by first | exact Or.inr ⟨hw_2, rfl, rfl⟩ | (refine Or.inl ⟨j, hj, rfl, hbj, ?_⟩; first | exact Or.inl ⟨hw_14, rfl, rfl⟩ | exact Or.inr ⟨hw_14, Or.inl ⟨Or.inl hw_28, rfl, rfl⟩⟩ | exact Or.inr ⟨hw_14, Or.inl ⟨Or.inr (Or.inl hw_39), rfl, rfl⟩⟩ | exact Or.inr ⟨hw_14, Or.inl ⟨Or.inr (Or.inr hz), rfl, rfl⟩⟩ | exact Or.inr ⟨hw_14, Or.inr ⟨fun h => by rcases h with h | h | h; exact hw_28 h; exact hw_39 h; exact h hz, rfl, rfl⟩⟩)) hP hK hD hS dX3_pay_47
      · refine lv_if_ne (tgt := 45) hx hb dX3_pay_31 (by decide) (fun h => absurd h (by decide)) (fun c_31 => ?_)
        refine lv_aload_n hx hb dX3_pay_34 rfl (lv_at hl 0 rfl) ?_
        refine va_get (D := (dC, dI)) (ci := 3) (v := .int ss) (C := RX3) (T := TX3) (N := 11) hx hb hT hiX3 hown hK hP 0 rfl rfl 5 (by decide) (hT _ kf_X3_79) (fun _ h9 => h9) rfl dX3_pay_35 ?_
        refine lv_iload_n hx hb dX3_pay_38 rfl (lv_at hl 1 rfl) ?_
        refine vp_callSi (rRS (As := [.int ss, .int (nI j)]) (rest := []) ⟨hx, hb, hml, hown, hT⟩ (c_X3_has (l := l) ss j (by first | assumption | omega)) (cwTS 2 hT kc_X3_has km_X3_49 kt_X3_has kn_X3 rfl rfl md_X3_has ⟨Nat.le_of_ble_eq_true rfl, Nat.le_of_ble_eq_true rfl⟩) nilP hK  rfl hl.1 rfl (Nat.le_of_ble_eq_true rfl) dX3_pay_39 ⟨Nat.le_of_ble_eq_true rfl, Nat.le_of_ble_eq_true rfl⟩) (fun r_39 hw_39 => ?_)
        rcases hw_39 with ⟨rfl, hw_39⟩ | ⟨rfl, hw_39⟩
        · refine lv_if_eq (tgt := 48) hx hb dX3_pay_42 (by decide) (fun h => absurd h (by decide)) (fun c_42 => ?_)
          refine lv_bipush (v := (-3)) hx hb dX3_pay_45 (by decide) ?_
          refine W.widen (k := 8) (n := 21) (Nat.le_of_ble_eq_true rfl) (Nat.le_of_ble_eq_true rfl) ?_
          exact retM_i (S := XS) (post := fun r u => xk (fun j => bt ic j = true) (nI j) (r = -1 ∧ u = (ln, cw, ic, bs, ss, se, we, un, sf, pa)) (fun j => ((x < 1 ∨ 1000000 < x) ∧ r = -2 ∧ u = (ln, cw, ic, bs, ss, se, we, un, sf, pa)) ∨ (¬ (x < 1 ∨ 1000000 < x) ∧ (((bt bs j = true ∨ bt ss j = true ∨ ¬ 0 ≤ (o_du (x_E ln cw ic se we) (x_C ln cw ic we un sf (se 0) ss) (x_dn cw ic we) ((x_op ic we ss).toInt) ((x_la ic we un ss bs).toInt) ((x_sh cw ic we un (se 1) ss bs).toInt) + iQ (-(x_sumN ic pa 6).toInt - x.toInt)).num) ∧ r = -3 ∧ u = (ln, cw, ic, bs, ss, se, we, un, sf, pa)) ∨ (¬ (bt bs j = true ∨ bt ss j = true ∨ ¬ 0 ≤ (o_du (x_E ln cw ic se we) (x_C ln cw ic we un sf (se 0) ss) (x_dn cw ic we) ((x_op ic we ss).toInt) ((x_la ic we un ss bs).toInt) ((x_sh cw ic we un (se 1) ss bs).toInt) + iQ (-(x_sumN ic pa 6).toInt - x.toInt)).num) ∧ r = upd pa j (pa j + x) j ∧ u = (ln, cw, ic, bs, ss, se, we, un, sf, (upd pa j (pa j + x)))))))) (w2 := fun u => xWt cI q u) (ln, cw, ic, bs, ss, se, we, un, sf, pa) hx hb hr hlocks (by first | exact Or.inr ⟨hw_2, rfl, rfl⟩ | (refine Or.inl ⟨j, hj, rfl, hbj, ?_⟩; first | exact Or.inl ⟨hw_14, rfl, rfl⟩ | exact Or.inr ⟨hw_14, Or.inl ⟨Or.inl hw_28, rfl, rfl⟩⟩ | exact Or.inr ⟨hw_14, Or.inl ⟨Or.inr (Or.inl hw_39), rfl, rfl⟩⟩ | exact Or.inr ⟨hw_14, Or.inl ⟨Or.inr (Or.inr hz), rfl, rfl⟩⟩ | exact Or.inr ⟨hw_14, Or.inr ⟨fun h => by rcases h with h | h | h; exact hw_28 h; exact hw_39 h; exact h hz, rfl, rfl⟩⟩)) hP hK hD hS dX3_pay_47
        · refine lv_if_eq (tgt := 48) hx hb dX3_pay_42 (by decide) (fun c_42 => ?_) (fun h => absurd h (by decide))
          refine lv_aload_n hx hb dX3_pay_48 rfl (lv_at hl 0 rfl) ?_
          refine fN_r (rNV (As := []) (rest := []) ⟨hx, hb, hml, hown, hT⟩ (c_X3_owedNow (l := l) s.heap.size hok) (cwTV 0 hT kc_X3_owedNow km_X3_98 ki_X3_owedNow ks_X3_owedNow kn_X3 rfl rfl md_X3_owedNow ⟨Nat.le_of_ble_eq_true rfl, Nat.le_of_ble_eq_true rfl⟩) hP hK (va_recv hK hP (ci := 3) (q0 := 0) rfl rfl) rfl hl.1 rfl (Nat.le_of_ble_eq_true rfl) dX3_pay_49 ⟨Nat.le_of_ble_eq_true rfl, Nat.le_of_ble_eq_true rfl⟩) hP hD hS hA (fun u_49 b_49 H locs hw_49 hP hD hS => ?_)
          have hP : va_P (dC, dI) vwCl ((xW cI q ln cw ic bs ss se we un sf pa) ++ (oW  b_49 u_49 (x_E ln cw ic se we) (x_C ln cw ic we un sf (se 0) ss) (x_dn cw ic we) ((x_op ic we ss).toInt) ((x_la ic we un ss bs).toInt) ((x_sh cw ic we un (se 1) ss bs).toInt))) H := hP
          have hD : va_D A ((xW cI q ln cw ic bs ss se we un sf pa) ++ (oW  b_49 u_49 (x_E ln cw ic se we) (x_C ln cw ic we un sf (se 0) ss) (x_dn cw ic we) ((x_op ic we ss).toInt) ((x_la ic we un ss bs).toInt) ((x_sh cw ic we un (se 1) ss bs).toInt))) := hD
          refine va_get (D := (dC, dI)) (ci := 1) (v := .ref ((u_49).2.2.2.2.1)) (C := RX1) (T := TX1) (N := 7) hx hb hT hiX1 hown hK hP 6 rfl rfl 4 (by decide) (hT _ kf_X3_123) (fun _ h9 => h9) rfl dX3_pay_52 ?_
          refine lv_aload_n hx hb dX3_pay_55 rfl (lv_at hl 0 rfl) ?_
          refine vp_callSi (rRV (As := []) (rest := [.ref ((u_49).2.2.2.2.1)]) ⟨hx, hb, hml, hown, hT⟩ (c_X3_allPaid (l := l) ) (cwTV 0 hT kc_X3_allPaid km_X3_171 ki_X3_allPaid ks_X3_allPaid kn_X3 rfl rfl md_X3_allPaid ⟨Nat.le_of_ble_eq_true rfl, Nat.le_of_ble_eq_true rfl⟩) (va_P.sub (ws' := xW cI q ln cw ic bs ss se we un sf pa) hP [0, 1, 2, 3, 4, 5] rfl) hK (va_recv hK hP (ci := 3) (q0 := 0) rfl rfl) rfl hl.1 rfl (Nat.le_of_ble_eq_true rfl) dX3_pay_56 ⟨Nat.le_of_ble_eq_true rfl, Nat.le_of_ble_eq_true rfl⟩) (fun r_56 hw_56 => ?_)
          subst hw_56
          refine lv_i2l (v := iL (x_sumN ic pa 6 : Int32).toInt) hx hb dX3_pay_59 rfl ?_
          refine li_neg hx hb (a := ((x_sumN ic pa 6 : Int32).toInt)) dX3_pay_60 ?_
          refine lv_iload_n hx hb dX3_pay_61 rfl (lv_at hl 2 rfl) ?_
          refine lv_i2l (v := iL (x : Int32).toInt) hx hb dX3_pay_62 rfl ?_
          refine li_sub hx hb (a := (-((x_sumN ic pa 6 : Int32).toInt))) (b := ((x : Int32).toInt)) dX3_pay_63 ?_
          have hdd := o_D_bd hok
          have hdu := o_du_bd hok
          have hb1 := bd_num_le hdd.1 hdu
          have hb2 := bd_den_le hdd.1 hdu
          have hx1 := x.toInt_lt
          have hx2 := x.le_toInt
          have h5 := Nat.mul_le_mul (show (-(x_sumN ic pa 6).toInt - x.toInt).natAbs ≤ 2200000000 by omega) hb2
          have h6 : ((-(x_sumN ic pa 6).toInt - x.toInt) * ((o_du (x_E ln cw ic se we) (x_C ln cw ic we un sf (se 0) ss) (x_dn cw ic we) ((x_op ic we ss).toInt) ((x_la ic we un ss bs).toInt) ((x_sh cw ic we un (se 1) ss bs).toInt)).den : Int)).natAbs ≤ 2200000000 * 294000000 := by rw [Int.natAbs_mul, Int.natAbs_natCast]; exact Nat.le_trans h5 (Nat.mul_le_mul_left _ hdd.2.1)
          refine fN_r (rNV (As := [.long (iL ((-((x_sumN ic pa 6 : Int32).toInt)) - ((x : Int32).toInt)))]) (rest := []) ⟨hx, hb, hml, hown, hT⟩ (c_X2_plusWhole (l := l) H.size ((-((x_sumN ic pa 6 : Int32).toInt)) - ((x : Int32).toInt)) (by unfold rng; omega) (by omega)) (cwTV 1 hT kc_X2_plusWhole km_X3_168 ki_X2_plusWhole ks_X2_plusWhole kn_X2 rfl rfl md_X2_plusWhole ⟨Nat.le_of_ble_eq_true rfl, Nat.le_of_ble_eq_true rfl⟩) (va_P.sub (ws' := shQ  ((u_49).2.2.2.2.1) (o_du (x_E ln cw ic se we) (x_C ln cw ic we un sf (se 0) ss) (x_dn cw ic we) ((x_op ic we ss).toInt) ((x_la ic we un ss bs).toInt) ((x_sh cw ic we un (se 1) ss bs).toInt))) hP [11] rfl) hK (va_recv hK hP (ci := 2) (q0 := 11) rfl rfl) rfl hl.1 rfl (Nat.le_of_ble_eq_true rfl) dX3_pay_64 ⟨Nat.le_of_ble_eq_true rfl, Nat.le_of_ble_eq_true rfl⟩) hP hD hS hA (fun u_64 b_64 H locs hw_64 hP hD hS => ?_)
          have hP : va_P (dC, dI) vwCl ((xW cI q ln cw ic bs ss se we un sf pa) ++ (oW  b_49 u_49 (x_E ln cw ic se we) (x_C ln cw ic we un sf (se 0) ss) (x_dn cw ic we) ((x_op ic we ss).toInt) ((x_la ic we un ss bs).toInt) ((x_sh cw ic we un (se 1) ss bs).toInt)) ++ (shQ  b_64 ((o_du (x_E ln cw ic se we) (x_C ln cw ic we un sf (se 0) ss) (x_dn cw ic we) ((x_op ic we ss).toInt) ((x_la ic we un ss bs).toInt) ((x_sh cw ic we un (se 1) ss bs).toInt)) + (iQ ((-((x_sumN ic pa 6 : Int32).toInt)) - ((x : Int32).toInt)))))) H := hP
          have hD : va_D A ((xW cI q ln cw ic bs ss se we un sf pa) ++ (oW  b_49 u_49 (x_E ln cw ic se we) (x_C ln cw ic we un sf (se 0) ss) (x_dn cw ic we) ((x_op ic we ss).toInt) ((x_la ic we un ss bs).toInt) ((x_sh cw ic we un (se 1) ss bs).toInt)) ++ (shQ  b_64 ((o_du (x_E ln cw ic se we) (x_C ln cw ic we un sf (se 0) ss) (x_dn cw ic we) ((x_op ic we ss).toInt) ((x_la ic we un ss bs).toInt) ((x_sh cw ic we un (se 1) ss bs).toInt)) + (iQ ((-((x_sumN ic pa 6 : Int32).toInt)) - ((x : Int32).toInt)))))) := hD
          have hpr : rng (o_du (x_E ln cw ic se we) (x_C ln cw ic we un sf (se 0) ss) (x_dn cw ic we) ((x_op ic we ss).toInt) ((x_la ic we un ss bs).toInt) ((x_sh cw ic we un (se 1) ss bs).toInt) + iQ (-(x_sumN ic pa 6).toInt - x.toInt)).num := by have := dq_le ((o_du (x_E ln cw ic se we) (x_C ln cw ic we un sf (se 0) ss) (x_dn cw ic we) ((x_op ic we ss).toInt) ((x_la ic we un ss bs).toInt) ((x_sh cw ic we un (se 1) ss bs).toInt)).num + (-(x_sumN ic pa 6).toInt - x.toInt) * ((o_du (x_E ln cw ic se we) (x_C ln cw ic we un sf (se 0) ss) (x_dn cw ic we) ((x_op ic we ss).toInt) ((x_la ic we un ss bs).toInt) ((x_sh cw ic we un (se 1) ss bs).toInt)).den : Int)) (o_du (x_E ln cw ic se we) (x_C ln cw ic we un sf (se 0) ss) (x_dn cw ic we) ((x_op ic we ss).toInt) ((x_la ic we un ss bs).toInt) ((x_sh cw ic we un (se 1) ss bs).toInt)).den (by omega); rw [t_add] at this; unfold rng; omega
          refine va_get (D := (dC, dI)) (ci := 2) (v := .long (iL (((o_du (x_E ln cw ic se we) (x_C ln cw ic we un sf (se 0) ss) (x_dn cw ic we) ((x_op ic we ss).toInt) ((x_la ic we un ss bs).toInt) ((x_sh cw ic we un (se 1) ss bs).toInt)) + (iQ ((-((x_sumN ic pa 6 : Int32).toInt)) - ((x : Int32).toInt))))).num)) (C := RX2) (T := TX2) (N := 2) hx hb hT hiX2 hown hK hP 13 rfl rfl 0 (by decide) (hT _ kf_X3_160) (fun _ h9 => h9) rfl dX3_pay_67 ?_
          refine lv_lconst (v := iL 0) hx hb dX3_pay_70 rfl ?_
          refine lc_ge (tgt := 78) hx hb dX3_pay_71 dX3_pay_72 (by decide) (fun c_71 => ?_) (fun c_71 => ?_)
          · have hz : 0 ≤ (o_du (x_E ln cw ic se we) (x_C ln cw ic we un sf (se 0) ss) (x_dn cw ic we) ((x_op ic we ss).toInt) ((x_la ic we un ss bs).toInt) ((x_sh cw ic we un (se 1) ss bs).toInt) + iQ (-(x_sumN ic pa 6).toInt - x.toInt)).num := (iL_le rng_0 hpr).mp c_71
            refine lv_aload_n hx hb dX3_pay_78 rfl (lv_at hl 0 rfl) ?_
            refine va_get (D := (dC, dI)) (ci := 3) (v := .ref (q 5)) (C := RX3) (T := TX3) (N := 11) hx hb hT hiX3 hown hK hP 0 rfl rfl 9 (by decide) (hT _ kf_X3_24) (fun _ h9 => h9) rfl dX3_pay_79 ?_
            refine lv_iload_n hx hb dX3_pay_82 rfl (lv_at hl 1 rfl) ?_
            refine lv_dup2_11 hx hb dX3_pay_83 rfl rfl ?_
            refine ald_i hx hb hK hP 5 0 rfl rfl (by decide) (w := j) rfl (by omega) dX3_pay_84 ?_
            refine lv_iload_n hx hb dX3_pay_85 rfl (lv_at hl 2 rfl) ?_
            refine lv_iadd hx hb dX3_pay_86 ?_
            refine ast_i hx hb hK hP hD hS 5 0 rfl rfl (by decide) (w := j) rfl (by omega) dX3_pay_87 (fun H locs hP hD hS => ?_)
            have hP : va_P (dC, dI) vwCl ((xW cI q ln cw ic bs ss se we un sf (upd pa j ((pa j) + x))) ++ (oW  b_49 u_49 (x_E ln cw ic se we) (x_C ln cw ic we un sf (se 0) ss) (x_dn cw ic we) ((x_op ic we ss).toInt) ((x_la ic we un ss bs).toInt) ((x_sh cw ic we un (se 1) ss bs).toInt)) ++ (shQ  b_64 ((o_du (x_E ln cw ic se we) (x_C ln cw ic we un sf (se 0) ss) (x_dn cw ic we) ((x_op ic we ss).toInt) ((x_la ic we un ss bs).toInt) ((x_sh cw ic we un (se 1) ss bs).toInt)) + (iQ ((-((x_sumN ic pa 6 : Int32).toInt)) - ((x : Int32).toInt)))))) H := hP
            have hD : va_D A ((xW cI q ln cw ic bs ss se we un sf (upd pa j ((pa j) + x))) ++ (oW  b_49 u_49 (x_E ln cw ic se we) (x_C ln cw ic we un sf (se 0) ss) (x_dn cw ic we) ((x_op ic we ss).toInt) ((x_la ic we un ss bs).toInt) ((x_sh cw ic we un (se 1) ss bs).toInt)) ++ (shQ  b_64 ((o_du (x_E ln cw ic se we) (x_C ln cw ic we un sf (se 0) ss) (x_dn cw ic we) ((x_op ic we ss).toInt) ((x_la ic we un ss bs).toInt) ((x_sh cw ic we un (se 1) ss bs).toInt)) + (iQ ((-((x_sumN ic pa 6 : Int32).toInt)) - ((x : Int32).toInt)))))) := hD
            refine lv_aload_n hx hb dX3_pay_88 rfl (lv_at hl 0 rfl) ?_
            refine va_get (D := (dC, dI)) (ci := 3) (v := .ref (q 5)) (C := RX3) (T := TX3) (N := 11) hx hb hT hiX3 hown hK hP 0 rfl rfl 9 (by decide) (hT _ kf_X3_24) (fun _ h9 => h9) rfl dX3_pay_89 ?_
            refine lv_iload_n hx hb dX3_pay_92 rfl (lv_at hl 1 rfl) ?_
            refine ald_i hx hb hK hP 5 0 rfl rfl (by decide) (w := j) rfl (by omega) dX3_pay_93 ?_
            exact retM_i (S := XS) (post := fun r u => xk (fun j => bt ic j = true) (nI j) (r = -1 ∧ u = (ln, cw, ic, bs, ss, se, we, un, sf, pa)) (fun j => ((x < 1 ∨ 1000000 < x) ∧ r = -2 ∧ u = (ln, cw, ic, bs, ss, se, we, un, sf, pa)) ∨ (¬ (x < 1 ∨ 1000000 < x) ∧ (((bt bs j = true ∨ bt ss j = true ∨ ¬ 0 ≤ (o_du (x_E ln cw ic se we) (x_C ln cw ic we un sf (se 0) ss) (x_dn cw ic we) ((x_op ic we ss).toInt) ((x_la ic we un ss bs).toInt) ((x_sh cw ic we un (se 1) ss bs).toInt) + iQ (-(x_sumN ic pa 6).toInt - x.toInt)).num) ∧ r = -3 ∧ u = (ln, cw, ic, bs, ss, se, we, un, sf, pa)) ∨ (¬ (bt bs j = true ∨ bt ss j = true ∨ ¬ 0 ≤ (o_du (x_E ln cw ic se we) (x_C ln cw ic we un sf (se 0) ss) (x_dn cw ic we) ((x_op ic we ss).toInt) ((x_la ic we un ss bs).toInt) ((x_sh cw ic we un (se 1) ss bs).toInt) + iQ (-(x_sumN ic pa 6).toInt - x.toInt)).num) ∧ r = upd pa j (pa j + x) j ∧ u = (ln, cw, ic, bs, ss, se, we, un, sf, (upd pa j (pa j + x)))))))) (w2 := fun u => xWt cI q u) (ln, cw, ic, bs, ss, se, we, un, sf, (upd pa j ((pa j) + x))) hx hb hr hlocks (by first | exact Or.inr ⟨hw_2, rfl, rfl⟩ | (refine Or.inl ⟨j, hj, rfl, hbj, ?_⟩; first | exact Or.inl ⟨hw_14, rfl, rfl⟩ | exact Or.inr ⟨hw_14, Or.inl ⟨Or.inl hw_28, rfl, rfl⟩⟩ | exact Or.inr ⟨hw_14, Or.inl ⟨Or.inr (Or.inl hw_39), rfl, rfl⟩⟩ | exact Or.inr ⟨hw_14, Or.inl ⟨Or.inr (Or.inr hz), rfl, rfl⟩⟩ | exact Or.inr ⟨hw_14, Or.inr ⟨fun h => by rcases h with h | h | h; exact hw_28 h; exact hw_39 h; exact h hz, rfl, rfl⟩⟩)) (va_P.sub (ws' := xW cI q ln cw ic bs ss se we un sf (upd pa j ((pa j) + x))) hP [0, 1, 2, 3, 4, 5] rfl) hK (va_D.sub (ws' := xW cI q ln cw ic bs ss se we un sf (upd pa j ((pa j) + x))) hD [0, 1, 2, 3, 4, 5] (by decide) rfl) hS dX3_pay_94
          · have hz : ¬ 0 ≤ (o_du (x_E ln cw ic se we) (x_C ln cw ic we un sf (se 0) ss) (x_dn cw ic we) ((x_op ic we ss).toInt) ((x_la ic we un ss bs).toInt) ((x_sh cw ic we un (se 1) ss bs).toInt) + iQ (-(x_sumN ic pa 6).toInt - x.toInt)).num := fun h => c_71 ((iL_le rng_0 hpr).mpr h)
            refine lv_bipush (v := (-3)) hx hb dX3_pay_75 (by decide) ?_
            exact retM_i (S := XS) (post := fun r u => xk (fun j => bt ic j = true) (nI j) (r = -1 ∧ u = (ln, cw, ic, bs, ss, se, we, un, sf, pa)) (fun j => ((x < 1 ∨ 1000000 < x) ∧ r = -2 ∧ u = (ln, cw, ic, bs, ss, se, we, un, sf, pa)) ∨ (¬ (x < 1 ∨ 1000000 < x) ∧ (((bt bs j = true ∨ bt ss j = true ∨ ¬ 0 ≤ (o_du (x_E ln cw ic se we) (x_C ln cw ic we un sf (se 0) ss) (x_dn cw ic we) ((x_op ic we ss).toInt) ((x_la ic we un ss bs).toInt) ((x_sh cw ic we un (se 1) ss bs).toInt) + iQ (-(x_sumN ic pa 6).toInt - x.toInt)).num) ∧ r = -3 ∧ u = (ln, cw, ic, bs, ss, se, we, un, sf, pa)) ∨ (¬ (bt bs j = true ∨ bt ss j = true ∨ ¬ 0 ≤ (o_du (x_E ln cw ic se we) (x_C ln cw ic we un sf (se 0) ss) (x_dn cw ic we) ((x_op ic we ss).toInt) ((x_la ic we un ss bs).toInt) ((x_sh cw ic we un (se 1) ss bs).toInt) + iQ (-(x_sumN ic pa 6).toInt - x.toInt)).num) ∧ r = upd pa j (pa j + x) j ∧ u = (ln, cw, ic, bs, ss, se, we, un, sf, (upd pa j (pa j + x)))))))) (w2 := fun u => xWt cI q u) (ln, cw, ic, bs, ss, se, we, un, sf, pa) hx hb hr hlocks (by first | exact Or.inr ⟨hw_2, rfl, rfl⟩ | (refine Or.inl ⟨j, hj, rfl, hbj, ?_⟩; first | exact Or.inl ⟨hw_14, rfl, rfl⟩ | exact Or.inr ⟨hw_14, Or.inl ⟨Or.inl hw_28, rfl, rfl⟩⟩ | exact Or.inr ⟨hw_14, Or.inl ⟨Or.inr (Or.inl hw_39), rfl, rfl⟩⟩ | exact Or.inr ⟨hw_14, Or.inl ⟨Or.inr (Or.inr hz), rfl, rfl⟩⟩ | exact Or.inr ⟨hw_14, Or.inr ⟨fun h => by rcases h with h | h | h; exact hw_28 h; exact hw_39 h; exact h hz, rfl, rfl⟩⟩)) (va_P.sub (ws' := xW cI q ln cw ic bs ss se we un sf pa) hP [0, 1, 2, 3, 4, 5] rfl) hK (va_D.sub (ws' := xW cI q ln cw ic bs ss se we un sf pa) hD [0, 1, 2, 3, 4, 5] (by decide) rfl) hS dX3_pay_77
  · refine lv_if_ne (tgt := 10) hx hb dX3_pay_5 (by decide) (fun h => absurd h (by decide)) (fun c_5 => ?_)
    refine lv_iconst (v := (-1)) hx hb dX3_pay_8 (by decide) ?_
    refine W.widen (k := 8) (n := 21) (Nat.le_of_ble_eq_true rfl) (Nat.le_of_ble_eq_true rfl) ?_
    exact retM_i (S := XS) (post := fun r u => xk (fun j => bt ic j = true) v (r = -1 ∧ u = (ln, cw, ic, bs, ss, se, we, un, sf, pa)) (fun j => ((x < 1 ∨ 1000000 < x) ∧ r = -2 ∧ u = (ln, cw, ic, bs, ss, se, we, un, sf, pa)) ∨ (¬ (x < 1 ∨ 1000000 < x) ∧ (((bt bs j = true ∨ bt ss j = true ∨ ¬ 0 ≤ (o_du (x_E ln cw ic se we) (x_C ln cw ic we un sf (se 0) ss) (x_dn cw ic we) ((x_op ic we ss).toInt) ((x_la ic we un ss bs).toInt) ((x_sh cw ic we un (se 1) ss bs).toInt) + iQ (-(x_sumN ic pa 6).toInt - x.toInt)).num) ∧ r = -3 ∧ u = (ln, cw, ic, bs, ss, se, we, un, sf, pa)) ∨ (¬ (bt bs j = true ∨ bt ss j = true ∨ ¬ 0 ≤ (o_du (x_E ln cw ic se we) (x_C ln cw ic we un sf (se 0) ss) (x_dn cw ic we) ((x_op ic we ss).toInt) ((x_la ic we un ss bs).toInt) ((x_sh cw ic we un (se 1) ss bs).toInt) + iQ (-(x_sumN ic pa 6).toInt - x.toInt)).num) ∧ r = upd pa j (pa j + x) j ∧ u = (ln, cw, ic, bs, ss, se, we, un, sf, (upd pa j (pa j + x)))))))) (w2 := fun u => xWt cI q u) (ln, cw, ic, bs, ss, se, we, un, sf, pa) hx hb hr hlocks (by first | exact Or.inr ⟨hw_2, rfl, rfl⟩ | (refine Or.inl ⟨j, hj, rfl, hbj, ?_⟩; first | exact Or.inl ⟨hw_14, rfl, rfl⟩ | exact Or.inr ⟨hw_14, Or.inl ⟨Or.inl hw_28, rfl, rfl⟩⟩ | exact Or.inr ⟨hw_14, Or.inl ⟨Or.inr (Or.inl hw_39), rfl, rfl⟩⟩ | exact Or.inr ⟨hw_14, Or.inl ⟨Or.inr (Or.inr hz), rfl, rfl⟩⟩ | exact Or.inr ⟨hw_14, Or.inr ⟨fun h => by rcases h with h | h | h; exact hw_28 h; exact hw_39 h; exact h hz, rfl, rfl⟩⟩)) hP hK hD hS dX3_pay_9
