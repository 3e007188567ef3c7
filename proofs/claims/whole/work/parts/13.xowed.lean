variable {l : Launch} {dC : Nat → ClassId} {dI : Nat → Nat → Nat} {cI cJ cZ : ClassId}
variable {q : Nat → Nat} {ln cw ic bs ss : Int32} {se we un sf pa : Nat → Int32}
variable {ct : Int32} {ov gf : Nat → Int64} {gi ta : Nat → Int32}
variable {k : Nat → Nat} {up lo : Int64} {cn tm : Int32} {isI br ma : Nat → Int32} {aU aL uU uL oU oL gU gL : Nat → Int64}

abbrev owG (a : Nat) (v1 v2 v3 v4 v5 v6 : Value) (fd : Int64) : va_W := [(a, .inr (1, [v1, v2, v3, v4, v5, v6, .long fd]))]
def o_R (E C : Int) : Int := if 0 < E - C then E - C else 0
def o_pw (E C dn op la sh : Int) : Rat := if sh = 0 then Rat.divInt (o_R E C) (dn * op) else Rat.divInt (o_R E C * (sh + la)) (dn * op * sh)
def o_du (E C dn op la sh : Int) : Rat := o_pw E C dn op la sh * ((op - la : Int) : Rat)
def o_re (E C dn : Int) : Rat := Rat.divInt (o_R E C) dn
def o_mi (E C dn op la sh : Int) : Rat := o_re E C dn - o_du E C dn op la sh
def o_fd (E C dn op la sh : Int) : Int := if o_du E C dn op la sh = 0 then 1 else op - la
/-- what may be asked of what is owed -/
def o_ok (E C dn op la sh : Int) : Prop := 0 ≤ E ∧ E ≤ 1000000 * dn ∧ 0 ≤ C ∧ C ≤ 10000000000 ∧ 1 ≤ dn ∧ dn ≤ 700 ∧ 0 ≤ la ∧ la ≤ op ∧ op ≤ 600 ∧ 0 ≤ sh ∧ sh ≤ 700 ∧ (sh = 0 ∨ (sh + la) * (op - la) ≤ op * sh)
theorem o_R_bd {E C dn op la sh : Int} (h : o_ok E C dn op la sh) : 0 ≤ o_R E C ∧ o_R E C ≤ 1000000 * dn := by
  unfold o_ok at h
  unfold o_R
  split <;> omega
theorem mul_bd {a b x y : Int} (h0 : 0 ≤ a) (h1 : a ≤ x) (h2 : 0 ≤ b) (h3 : b ≤ y) : 0 ≤ a * b ∧ a * b ≤ x * y := ⟨Int.mul_nonneg h0 h2, Int.mul_le_mul h1 h3 h2 (by omega)⟩
theorem dq_le (n d : Int) (h : 0 ≤ d) : (Rat.divInt n d).num.natAbs ≤ n.natAbs ∧ ((Rat.divInt n d).den : Int) ≤ d + 1 := by
  by_cases h0 : d = 0
  · subst h0
    rw [Rat.divInt_zero]
    exact ⟨by simp, by simp⟩
  · have hp : 0 < d := by omega
    rw [rq_num n d hp, rq_den n d hp]
    constructor
    · rw [Int.natAbs_tdiv, Int.natAbs_natCast]; exact Nat.div_le_self _ _
    · rw [Int.tdiv_eq_ediv_of_nonneg h]
      have := Int.ediv_le_self ((Nat.gcd n.natAbs d.natAbs : Nat) : Int) h
      omega
/-- all the lower number that is needed -/
def o_D (dn op sh : Int) : Nat := (dn * (if op = 0 then 1 else op) * (if sh = 0 then 1 else sh)).natAbs
theorem o_D_bd {E C dn op la sh : Int} (h : o_ok E C dn op la sh) : 0 < o_D dn op sh ∧ o_D dn op sh ≤ 294000000 ∧ dn.natAbs ∣ o_D dn op sh := by
  obtain ⟨h1, h2, h3, h4, h5, h6, h7, h8, h9, h10, h11, h12⟩ := h
  unfold o_D
  have e1 : 1 ≤ (if op = 0 then 1 else op) ∧ (if op = 0 then 1 else op) ≤ 600 := by split <;> omega
  have e2 : 1 ≤ (if sh = 0 then 1 else sh) ∧ (if sh = 0 then 1 else sh) ≤ 700 := by split <;> omega
  generalize (if op = 0 then 1 else op) = x at e1 ⊢
  generalize (if sh = 0 then 1 else sh) = y at e2 ⊢
  have g1 := mul_bd (a := dn) (b := x) (x := 700) (y := 600) (by omega) (by omega) (by omega) (by omega)
  have g2 := mul_bd (a := dn * x) (b := y) (x := 420000) (y := 700) (by omega) (by omega) (by omega) (by omega)
  have g3 : 0 < dn * x * y := Int.mul_pos (Int.mul_pos (by omega) (by omega)) (by omega)
  refine ⟨by omega, by omega, ?_⟩
  rw [Int.mul_assoc, Int.natAbs_mul]
  exact Nat.dvd_mul_right _ _
theorem o_re_bd {E C dn op la sh : Int} (h : o_ok E C dn op la sh) : bd (o_re E C dn) (o_D dn op sh) 1000000 := by
  have h1 := o_R_bd h
  have h2 := o_D_bd h
  unfold o_re
  rw [rq_eq]
  have h5 : 1 ≤ dn := h.2.2.2.2.1
  exact bd_q (by omega) h2.1 h2.2.2 (by omega)
theorem o_du_bd {E C dn op la sh : Int} (h : o_ok E C dn op la sh) : bd (o_du E C dn op la sh) (o_D dn op sh) 1000000 := by
  have h1 := o_R_bd h
  have h2 := o_D_bd h
  obtain ⟨-, -, -, -, h5, h6, h7, h8, h9, h10, h11, h12⟩ := h
  unfold o_du o_pw
  by_cases hs : sh = 0
  · rw [if_pos hs]
    by_cases ho : op = 0
    · rw [ho, Int.mul_zero, Rat.divInt_zero, Rat.zero_mul]; exact bd_zero _ _
    · have e : (Rat.divInt (o_R E C) (dn * op)) * ((op - la : Int) : Rat) = ((o_R E C * (op - la) : Int) : Rat) / ((dn * op : Int) : Rat) := by
        rw [rq_eq, Rat.intCast_mul]; grind
      rw [e]
      have hp : 0 < dn * op := Int.mul_pos (by omega) (by omega)
      refine bd_q hp h2.1 ?_ ?_
      · unfold o_D; rw [if_neg ho, if_pos hs, Int.mul_one]; exact Nat.dvd_refl _
      · have g := mul_bd h1.1 h1.2 (b := op - la) (y := op) (by omega) (by omega)
        rw [Int.mul_assoc] at g
        omega
  · rw [if_neg hs]
    by_cases ho : op = 0
    · rw [ho, Int.mul_zero, Int.zero_mul, Rat.divInt_zero, Rat.zero_mul]; exact bd_zero _ _
    · have e : (Rat.divInt (o_R E C * (sh + la)) (dn * op * sh)) * ((op - la : Int) : Rat) = ((o_R E C * ((sh + la) * (op - la)) : Int) : Rat) / ((dn * op * sh : Int) : Rat) := by
        rw [rq_eq, Rat.intCast_mul, Rat.intCast_mul, Rat.intCast_mul]; grind
      rw [e]
      have hp : 0 < dn * op * sh := Int.mul_pos (Int.mul_pos (by omega) (by omega)) (by omega)
      refine bd_q hp h2.1 ?_ ?_
      · unfold o_D; rw [if_neg ho, if_neg hs]; exact Nat.dvd_refl _
      · have h13 : (sh + la) * (op - la) ≤ op * sh := by omega
        have g := mul_bd h1.1 h1.2 (Int.mul_nonneg (by omega) (by omega) : 0 ≤ (sh + la) * (op - la)) h13
        have e2 : 1000000 * dn * (op * sh) = 1000000 * (dn * op * sh) := by rw [Int.mul_assoc 1000000, ← Int.mul_assoc dn]
        rw [e2] at g
        omega
theorem o_pw_bd {E C dn op la sh : Int} (h : o_ok E C dn op la sh) : (o_pw E C dn op la sh).num.natAbs ≤ 910000000000 ∧ ((o_pw E C dn op la sh).den : Int) ≤ 294000001 := by
  have h1 := o_R_bd h
  obtain ⟨-, -, -, -, h5, h6, h7, h8, h9, h10, h11, h12⟩ := h
  unfold o_pw
  have g1 := mul_bd (a := dn) (b := op) (x := 700) (y := 600) (by omega) (by omega) (by omega) (by omega)
  have g2 := mul_bd (a := dn * op) (b := sh) (x := 420000) (y := 700) (by omega) (by omega) (by omega) (by omega)
  split
  · have := dq_le (o_R E C) (dn * op) (by omega)
    omega
  · have g3 := mul_bd (a := o_R E C) (b := sh + la) (x := 700000000) (y := 1300) (by omega) (by omega) (by omega) (by omega)
    have := dq_le (o_R E C * (sh + la)) (dn * op * sh) (by omega)
    omega
abbrev oW (a : Nat) (u : Nat × Nat × Nat × Nat × Nat × Nat) (E C dn op la sh : Int) : va_W := [(a, .inr (1, [.ref u.1, .ref u.2.1, .ref u.2.2.1, .ref u.2.2.2.1, .ref u.2.2.2.2.1, .ref u.2.2.2.2.2, .long (iL (o_fd E C dn op la sh))])), (u.1, .inr (2, [.long (iL (Rat.divInt E dn).num), .long (iL ((Rat.divInt E dn).den : Int))])), (u.2.1, .inr (2, [.long (iL (Rat.divInt C dn).num), .long (iL ((Rat.divInt C dn).den : Int))])), (u.2.2.1, .inr (2, [.long (iL (o_re E C dn).num), .long (iL ((o_re E C dn).den : Int))])), (u.2.2.2.1, .inr (2, [.long (iL (o_pw E C dn op la sh).num), .long (iL ((o_pw E C dn op la sh).den : Int))])), (u.2.2.2.2.1, .inr (2, [.long (iL (o_du E C dn op la sh).num), .long (iL ((o_du E C dn op la sh).den : Int))])), (u.2.2.2.2.2, .inr (2, [.long (iL (o_mi E C dn op la sh).num), .long (iL ((o_mi E C dn op la sh).den : Int))]))]
theorem i32_add {x y : Int32} (h1 : -2147483648 ≤ x.toInt + y.toInt) (h2 : x.toInt + y.toInt < 2147483648) : (x + y).toInt = x.toInt + y.toInt := by
  rw [Int32.toInt_add]
  exact Int.bmod_eq_of_le (by omega) (by omega)
theorem i32_sub {x y : Int32} (h1 : -2147483648 ≤ x.toInt - y.toInt) (h2 : x.toInt - y.toInt < 2147483648) : (x - y).toInt = x.toInt - y.toInt := by
  rw [Int32.toInt_sub]
  exact Int.bmod_eq_of_le (by omega) (by omega)
theorem i32_mul {x y : Int32} (h1 : -2147483648 ≤ x.toInt * y.toInt) (h2 : x.toInt * y.toInt < 2147483648) : (x * y).toInt = x.toInt * y.toInt := by
  rw [Int32.toInt_mul]
  exact Int.bmod_eq_of_le (by omega) (by omega)
theorem i32_0 {x : Int32} : x = 0 ↔ x.toInt = 0 := by rw [← Int32.toInt_inj]; rfl
/-! what the class takes for what is owed -/
def x_E (ln cw ic : Int32) (se we : Nat → Int32) : Int := (x_ent ln cw ic se we).toInt
def x_dn (cw ic : Int32) (we : Nat → Int32) : Int := (x_bd cw ic we).toInt
def x_C (ln cw ic : Int32) (we un sf : Nat → Int32) (mn st : Int32) : Int := (x_credsN ln ic we un sf mn st (x_bd cw ic we) 6).toInt
def x_op (ic : Int32) (we : Nat → Int32) (st : Int32) : Int32 := x_sumN (ic &&& (st ^^^ (-1))) we 6
def x_la (ic : Int32) (we un : Nat → Int32) (st br : Int32) : Int32 := x_sumN (x_obN ic un st br 6) we 6
def x_sh (cw ic : Int32) (we un : Nat → Int32) (sp st br : Int32) : Int32 := if sp = 0 then x_op ic we st - x_la ic we un st br else if sp = 1 then x_op ic we st - x_la ic we un st br + cw else 0
def x_ok (ln cw ic : Int32) (se we un sf : Nat → Int32) (mn sp st br : Int32) : Prop := o_ok (x_E ln cw ic se we) (x_C ln cw ic we un sf mn st) (x_dn cw ic we) (x_op ic we st).toInt (x_la ic we un st br).toInt (x_sh cw ic we un sp st br).toInt
set_option maxHeartbeats 4000000 in
set_option maxRecDepth 100000 in
theorem c_X1_init (sz : Nat) {a : Nat} (E C dn : Int) (op la sh : Int32) (hok : o_ok E C dn op.toInt la.toInt sh.toInt) : Met l yX1_init (wT yX1_init cX1_init 12 none) ({ frames := 4, cells := 6, slots := 12, locals := 88 }) (pM (dC, dI) (ty3 cI cJ cZ) (owG  a .null .null .null .null .null .null 0) [.ref a, .long (iL E), .long (iL C), .long (iL dn), .int op, .int la, .int sh] sz) (va_Qv (S := Nat × Nat × Nat × Nat × Nat × Nat) (fun _ => True) (fun u t9 => bM (dC, dI) (ty3 cI cJ cZ) (va_A (owG  a .null .null .null .null .null .null 0) sz) (oW a u E C dn op.toInt la.toInt sh.toInt) t9) (va_A (owG  a .null .null .null .null .null .null 0) sz)) 6 12 (va_A (owG  a .null .null .null .null .null .null 0) sz) := by
  refine Met.ofW (cc := cX1_init) (maxL := 12) (ret := none) (by decide) rfl ?_
  intro p e s m args below meth c s₁ B hml hv
  obtain ⟨rfl, hsz, hP, hK, hD0⟩ := hv
  have hx := B.exec
  have hb := B.bytes
  have hr := B.returns
  have hts := atoms_spec (ws := wT yX1_init cX1_init 12 none) B.pre
  have hT := wT_T hts
  have hown : s.vm.findClass RX1 = some m.cls := findClass_of_methodNamed B.named
  have hlocks := B.notSynchronized
  have hin : meth.name = "<init>" := (name_of_methodNamed B.named B.method).1
  subst hsz
  have hD := hD0.self (sz := s.heap.size)
  generalize hAe : va_A (owG  a .null .null .null .null .null .null 0) s.heap.size = A at hD ⊢
  have hA : ∀ q : Nat, s.heap.size ≤ q → A q := fun q h => by rw [← hAe]; exact Or.inr h
  have hS : va_S A s.heap s.heap [] := va_S.rf
  have hl := lv_entry ([.ref a, .long (iL E), .long (iL C), .long (iL dn), .int op, .int la, .int sh]) (n := 12) (Nat.le_of_ble_eq_true rfl)
  rw [lg_entry_eq]
  generalize (lg_sl ([.ref a, .long (iL E), .long (iL C), .long (iL dn), .int op, .int la, .int sh]) ++ List.replicate (12 - (lg_sl ([.ref a, .long (iL E), .long (iL C), .long (iL dn), .int op, .int la, .int sh])).length) Slot.unset).toArray = ls at hl ⊢
  have hl : lv_has ls 12 [(0, .ref a), (1, .long (iL E)), (3, .long (iL C)), (5, .long (iL dn)), (7, .int op), (8, .int la), (9, .int sh)] := hl
  have hR := o_R_bd hok
  have hpw := o_pw_bd hok
  have hre := o_re_bd hok
  have hdu := o_du_bd hok
  have hDD := o_D_bd hok
  obtain ⟨k1, k2, k3, k4, k5, k6, k7, k8, k9, k10, k11, k12⟩ := id hok
  have e1 : (sh + la).toInt = sh.toInt + la.toInt := i32_add (by omega) (by omega)
  have e2 : (op - la).toInt = op.toInt - la.toInt := i32_sub (by omega) (by omega)
  have g1 := mul_bd (a := dn) (b := op.toInt) (x := 700) (y := 600) (by omega) (by omega) (by omega) (by omega)
  have g2 := mul_bd (a := dn * op.toInt) (b := sh.toInt) (x := 420000) (y := 700) (by omega) (by omega) (by omega) (by omega)
  have g3 := mul_bd (a := o_R E C) (b := sh.toInt + la.toInt) (x := 700000000) (y := 1300) (by omega) (by omega) (by omega) (by omega)
  refine lv_aload_n hx hb dX1_init_0 rfl (lv_at hl 0 rfl) ?_
  refine W.objInit hx hb hown (hT _ km_X1_1) (hT _ ki_obj) (hT _ kc_obj) rfl (by rw [hml]; exact hl.1) rfl dX1_init_1 (Nat.le_of_ble_eq_true rfl) (Nat.le_of_ble_eq_true rfl) ?_
  refine W.eq (g2 := F0 m 4 ls []) rfl ?_
  refine lv_lload_n hx hb dX1_init_4 rfl (lv_at hl 1 rfl) ?_
  refine lv_lload_n hx hb dX1_init_5 rfl (lv_at hl 2 rfl) ?_
  refine li_sub hx hb (a := E) (b := C) dX1_init_6 ?_
  refine lv_lconst (v := iL 0) hx hb dX1_init_7 rfl ?_
  refine va_mmax_long hx hb (by rw [hml]; exact hl.1.symm) hown (hT _ km_X1_7) (hT _ kt_maxl) (hT _ kn_J9) (hT _ kc_maxl) (Nat.le_of_ble_eq_true rfl) (Nat.le_of_ble_eq_true rfl) (Nat.le_of_ble_eq_true rfl) (Nat.le_of_ble_eq_true rfl) dX1_init_8 ?_
  refine topl_eq (y := (iL (o_R E C))) (iL_max0 (by unfold rng; omega)) ?_
  refine lv_lstore (lv' := [(10, .long (iL (o_R E C))), (0, .ref a), (1, .long (iL E)), (3, .long (iL C)), (5, .long (iL dn)), (7, .int op), (8, .int la), (9, .int sh)]) hx hb dX1_init_11 hl (by decide) rfl (fun ls hl => ?_)
  refine lv_aload_n hx hb dX1_init_13 rfl (lv_at hl 1 rfl) ?_
  refine lv_lload_n hx hb dX1_init_14 rfl (lv_at hl 2 rfl) ?_
  refine lv_lload hx hb dX1_init_15 (lv_at hl 4 rfl) ?_
  refine fN_r (rNS (As := [.long (iL E), .long (iL dn)]) (rest := [.ref a]) ⟨hx, hb, hml, hown, hT⟩ (c_X2_of (l := l) s.heap.size E dn (by unfold rng; omega) (by omega) (by omega)) (cwTS 2 hT kc_X2_of km_X1_13 kt_X2_of kn_X2 rfl rfl md_X2_of ⟨Nat.le_of_ble_eq_true rfl, Nat.le_of_ble_eq_true rfl⟩) nilP hK  rfl hl.1 rfl (Nat.le_of_ble_eq_true rfl) dX1_init_17 ⟨Nat.le_of_ble_eq_true rfl, Nat.le_of_ble_eq_true rfl⟩) hP hD hS hA (fun u_17 b_17 H locs hw_17 hP hD hS => ?_)
  have hP : va_P (dC, dI) vwCl ((owG  a .null .null .null .null .null .null 0) ++ (shQ  b_17 (Rat.divInt E dn))) H := hP
  have hD : va_D A ((owG  a .null .null .null .null .null .null 0) ++ (shQ  b_17 (Rat.divInt E dn))) := hD
  refine va_putF (D := (dC, dI)) (ci := 1) (v := .ref b_17) (ty := .object "SharedFault$Share") (C := RX1) (T := TX1) (N := 7) hx hb hT hiX1 tyX1 tyX1_ok nmX1 hown hK hP hD hS 0 rfl rfl 0 (by decide) (hT _ kf_X1_19) (fun _ h9 => h9) rfl hin rfl (by decide +kernel) rfl rfl (Nat.le_of_ble_eq_true rfl) dX1_init_20 (fun H locs hP hD hS => ?_)
  have hP : va_P (dC, dI) vwCl ((owG  a (.ref b_17) .null .null .null .null .null 0) ++ (shQ  b_17 (Rat.divInt E dn))) H := hP
  have hD : va_D A ((owG  a (.ref b_17) .null .null .null .null .null 0) ++ (shQ  b_17 (Rat.divInt E dn))) := hD
  refine lv_aload_n hx hb dX1_init_23 rfl (lv_at hl 1 rfl) ?_
  refine lv_lload_n hx hb dX1_init_24 rfl (lv_at hl 3 rfl) ?_
  refine lv_lload hx hb dX1_init_25 (lv_at hl 4 rfl) ?_
  refine fN_r (rNS (As := [.long (iL C), .long (iL dn)]) (rest := [.ref a]) ⟨hx, hb, hml, hown, hT⟩ (c_X2_of (l := l) H.size C dn (by unfold rng; omega) (by omega) (by omega)) (cwTS 2 hT kc_X2_of km_X1_13 kt_X2_of kn_X2 rfl rfl md_X2_of ⟨Nat.le_of_ble_eq_true rfl, Nat.le_of_ble_eq_true rfl⟩) nilP hK  rfl hl.1 rfl (Nat.le_of_ble_eq_true rfl) dX1_init_27 ⟨Nat.le_of_ble_eq_true rfl, Nat.le_of_ble_eq_true rfl⟩) hP hD hS hA (fun u_27 b_27 H locs hw_27 hP hD hS => ?_)
  have hP : va_P (dC, dI) vwCl ((owG  a (.ref b_17) .null .null .null .null .null 0) ++ (shQ  b_17 (Rat.divInt E dn)) ++ (shQ  b_27 (Rat.divInt C dn))) H := hP
  have hD : va_D A ((owG  a (.ref b_17) .null .null .null .null .null 0) ++ (shQ  b_17 (Rat.divInt E dn)) ++ (shQ  b_27 (Rat.divInt C dn))) := hD
  refine va_putF (D := (dC, dI)) (ci := 1) (v := .ref b_27) (ty := .object "SharedFault$Share") (C := RX1) (T := TX1) (N := 7) hx hb hT hiX1 tyX1 tyX1_ok nmX1 hown hK hP hD hS 0 rfl rfl 1 (by decide) (hT _ kf_X1_25) (fun _ h9 => h9) rfl hin rfl (by decide +kernel) rfl rfl (Nat.le_of_ble_eq_true rfl) dX1_init_30 (fun H locs hP hD hS => ?_)
  have hP : va_P (dC, dI) vwCl ((owG  a (.ref b_17) (.ref b_27) .null .null .null .null 0) ++ (shQ  b_17 (Rat.divInt E dn)) ++ (shQ  b_27 (Rat.divInt C dn))) H := hP
  have hD : va_D A ((owG  a (.ref b_17) (.ref b_27) .null .null .null .null 0) ++ (shQ  b_17 (Rat.divInt E dn)) ++ (shQ  b_27 (Rat.divInt C dn))) := hD
  refine lv_aload_n hx hb dX1_init_33 rfl (lv_at hl 1 rfl) ?_
  refine lv_lload hx hb dX1_init_34 (lv_at hl 0 rfl) ?_
  refine lv_lload hx hb dX1_init_36 (lv_at hl 4 rfl) ?_
  refine fN_r (rNS (As := [.long (iL (o_R E C)), .long (iL dn)]) (rest := [.ref a]) ⟨hx, hb, hml, hown, hT⟩ (c_X2_of (l := l) H.size (o_R E C) dn (by unfold rng; omega) (by omega) (by omega)) (cwTS 2 hT kc_X2_of km_X1_13 kt_X2_of kn_X2 rfl rfl md_X2_of ⟨Nat.le_of_ble_eq_true rfl, Nat.le_of_ble_eq_true rfl⟩) nilP hK  rfl hl.1 rfl (Nat.le_of_ble_eq_true rfl) dX1_init_38 ⟨Nat.le_of_ble_eq_true rfl, Nat.le_of_ble_eq_true rfl⟩) hP hD hS hA (fun u_38 b_38 H locs hw_38 hP hD hS => ?_)
  have hP : va_P (dC, dI) vwCl ((owG  a (.ref b_17) (.ref b_27) .null .null .null .null 0) ++ (shQ  b_17 (Rat.divInt E dn)) ++ (shQ  b_27 (Rat.divInt C dn)) ++ (shQ  b_38 (Rat.divInt (o_R E C) dn))) H := hP
  have hD : va_D A ((owG  a (.ref b_17) (.ref b_27) .null .null .null .null 0) ++ (shQ  b_17 (Rat.divInt E dn)) ++ (shQ  b_27 (Rat.divInt C dn)) ++ (shQ  b_38 (Rat.divInt (o_R E C) dn))) := hD
  rw [show (Rat.divInt (o_R E C) dn) = (o_re E C dn) from rfl] at hP hD
  have hP : va_P (dC, dI) vwCl ((owG  a (.ref b_17) (.ref b_27) .null .null .null .null 0) ++ (shQ  b_17 (Rat.divInt E dn)) ++ (shQ  b_27 (Rat.divInt C dn)) ++ (shQ  b_38 (o_re E C dn))) H := hP
  have hD : va_D A ((owG  a (.ref b_17) (.ref b_27) .null .null .null .null 0) ++ (shQ  b_17 (Rat.divInt E dn)) ++ (shQ  b_27 (Rat.divInt C dn)) ++ (shQ  b_38 (o_re E C dn))) := hD
  refine va_putF (D := (dC, dI)) (ci := 1) (v := .ref b_38) (ty := .object "SharedFault$Share") (C := RX1) (T := TX1) (N := 7) hx hb hT hiX1 tyX1 tyX1_ok nmX1 hown hK hP hD hS 0 rfl rfl 2 (by decide) (hT _ kf_X1_28) (fun _ h9 => h9) rfl hin rfl (by decide +kernel) rfl rfl (Nat.le_of_ble_eq_true rfl) dX1_init_41 (fun H locs hP hD hS => ?_)
  have hP : va_P (dC, dI) vwCl ((owG  a (.ref b_17) (.ref b_27) (.ref b_38) .null .null .null 0) ++ (shQ  b_17 (Rat.divInt E dn)) ++ (shQ  b_27 (Rat.divInt C dn)) ++ (shQ  b_38 (o_re E C dn))) H := hP
  have hD : va_D A ((owG  a (.ref b_17) (.ref b_27) (.ref b_38) .null .null .null 0) ++ (shQ  b_17 (Rat.divInt E dn)) ++ (shQ  b_27 (Rat.divInt C dn)) ++ (shQ  b_38 (o_re E C dn))) := hD
  refine lv_iload hx hb dX1_init_44 (lv_at hl 7 rfl) ?_
  refine lv_if_ne (tgt := 67) hx hb dX1_init_46 (by decide) (fun c_46 => ?_) (fun c_46 => ?_)
  · refine lv_aload_n hx hb dX1_init_67 rfl (lv_at hl 1 rfl) ?_
    refine lv_lload hx hb dX1_init_68 (lv_at hl 0 rfl) ?_
    refine lv_iload hx hb dX1_init_70 (lv_at hl 7 rfl) ?_
    refine lv_iload hx hb dX1_init_72 (lv_at hl 6 rfl) ?_
    refine lv_iadd hx hb dX1_init_74 ?_
    refine lv_i2l (v := iL (sh + la : Int32).toInt) hx hb dX1_init_75 rfl ?_
    refine topl_eq (y := (iL (sh.toInt + la.toInt))) (by rw [e1]) ?_
    refine li_mul hx hb (a := (o_R E C)) (b := (sh.toInt + la.toInt)) dX1_init_76 ?_
    refine lv_lload hx hb dX1_init_77 (lv_at hl 4 rfl) ?_
    refine lv_iload hx hb dX1_init_79 (lv_at hl 5 rfl) ?_
    refine lv_i2l (v := iL (op : Int32).toInt) hx hb dX1_init_81 rfl ?_
    refine li_mul hx hb (a := dn) (b := ((op : Int32).toInt)) dX1_init_82 ?_
    refine lv_iload hx hb dX1_init_83 (lv_at hl 7 rfl) ?_
    refine lv_i2l (v := iL (sh : Int32).toInt) hx hb dX1_init_85 rfl ?_
    refine li_mul hx hb (a := (dn * ((op : Int32).toInt))) (b := ((sh : Int32).toInt)) dX1_init_86 ?_
    refine fN_r (rNS (As := [.long (iL ((o_R E C) * (sh.toInt + la.toInt))), .long (iL ((dn * ((op : Int32).toInt)) * ((sh : Int32).toInt)))]) (rest := [.ref a]) ⟨hx, hb, hml, hown, hT⟩ (c_X2_of (l := l) H.size ((o_R E C) * (sh.toInt + la.toInt)) ((dn * ((op : Int32).toInt)) * ((sh : Int32).toInt)) (by unfold rng; omega) (by omega) (by omega)) (cwTS 2 hT kc_X2_of km_X1_13 kt_X2_of kn_X2 rfl rfl md_X2_of ⟨Nat.le_of_ble_eq_true rfl, Nat.le_of_ble_eq_true rfl⟩) nilP hK  rfl hl.1 rfl (Nat.le_of_ble_eq_true rfl) dX1_init_87 ⟨Nat.le_of_ble_eq_true rfl, Nat.le_of_ble_eq_true rfl⟩) hP hD hS hA (fun u_87 b_87 H locs hw_87 hP hD hS => ?_)
    have hP : va_P (dC, dI) vwCl ((owG  a (.ref b_17) (.ref b_27) (.ref b_38) .null .null .null 0) ++ (shQ  b_17 (Rat.divInt E dn)) ++ (shQ  b_27 (Rat.divInt C dn)) ++ (shQ  b_38 (o_re E C dn)) ++ (shQ  b_87 (Rat.divInt ((o_R E C) * (sh.toInt + la.toInt)) ((dn * ((op : Int32).toInt)) * ((sh : Int32).toInt))))) H := hP
    have hD : va_D A ((owG  a (.ref b_17) (.ref b_27) (.ref b_38) .null .null .null 0) ++ (shQ  b_17 (Rat.divInt E dn)) ++ (shQ  b_27 (Rat.divInt C dn)) ++ (shQ  b_38 (o_re E C dn)) ++ (shQ  b_87 (Rat.divInt ((o_R E C) * (sh.toInt + la.toInt)) ((dn * ((op : Int32).toInt)) * ((sh : Int32).toInt))))) := hD
    rw [show (Rat.divInt ((o_R E C) * (sh.toInt + la.toInt)) ((dn * ((op : Int32).toInt)) * ((sh : Int32).toInt))) = (o_pw E C dn op.toInt la.toInt sh.toInt) from (by unfold o_pw; rw [if_neg (fun h => c_46 (i32_0.mpr h))])] at hP hD
    have hP : va_P (dC, dI) vwCl ((owG  a (.ref b_17) (.ref b_27) (.ref b_38) .null .null .null 0) ++ (shQ  b_17 (Rat.divInt E dn)) ++ (shQ  b_27 (Rat.divInt C dn)) ++ (shQ  b_38 (o_re E C dn)) ++ (shQ  b_87 (o_pw E C dn op.toInt la.toInt sh.toInt))) H := hP
    have hD : va_D A ((owG  a (.ref b_17) (.ref b_27) (.ref b_38) .null .null .null 0) ++ (shQ  b_17 (Rat.divInt E dn)) ++ (shQ  b_27 (Rat.divInt C dn)) ++ (shQ  b_38 (o_re E C dn)) ++ (shQ  b_87 (o_pw E C dn op.toInt la.toInt sh.toInt))) := hD
    refine va_putF (D := (dC, dI)) (ci := 1) (v := .ref b_87) (ty := .object "SharedFault$Share") (C := RX1) (T := TX1) (N := 7) hx hb hT hiX1 tyX1 tyX1_ok nmX1 hown hK hP hD hS 0 rfl rfl 3 (by decide) (hT _ kf_X1_31) (fun _ h9 => h9) rfl hin rfl (by decide +kernel) rfl rfl (Nat.le_of_ble_eq_true rfl) dX1_init_90 (fun H locs hP hD hS => ?_)
    have hP : va_P (dC, dI) vwCl ((owG  a (.ref b_17) (.ref b_27) (.ref b_38) (.ref b_87) .null .null 0) ++ (shQ  b_17 (Rat.divInt E dn)) ++ (shQ  b_27 (Rat.divInt C dn)) ++ (shQ  b_38 (o_re E C dn)) ++ (shQ  b_87 (o_pw E C dn op.toInt la.toInt sh.toInt))) H := hP
    have hD : va_D A ((owG  a (.ref b_17) (.ref b_27) (.ref b_38) (.ref b_87) .null .null 0) ++ (shQ  b_17 (Rat.divInt E dn)) ++ (shQ  b_27 (Rat.divInt C dn)) ++ (shQ  b_38 (o_re E C dn)) ++ (shQ  b_87 (o_pw E C dn op.toInt la.toInt sh.toInt))) := hD
    refine lv_aload_n hx hb dX1_init_93 rfl (lv_at hl 1 rfl) ?_
    refine lv_aload_n hx hb dX1_init_94 rfl (lv_at hl 1 rfl) ?_
    refine va_get (D := (dC, dI)) (ci := 1) (v := .ref b_87) (C := RX1) (T := TX1) (N := 7) hx hb hT hiX1 hown hK hP 0 rfl rfl 3 (by decide) (hT _ kf_X1_31) (fun _ h9 => h9) rfl dX1_init_95 ?_
    refine lv_iload hx hb dX1_init_98 (lv_at hl 5 rfl) ?_
    refine lv_iload hx hb dX1_init_100 (lv_at hl 6 rfl) ?_
    refine lv_isub hx hb dX1_init_102 ?_
    refine lv_i2l (v := iL (op - la : Int32).toInt) hx hb dX1_init_103 rfl ?_
    refine topl_eq (y := (iL (op.toInt - la.toInt))) (by rw [e2]) ?_
    refine fN_r (rNV (As := [.long (iL (op.toInt - la.toInt))]) (rest := [.ref a]) ⟨hx, hb, hml, hown, hT⟩ (c_X2_times (l := l) H.size (op.toInt - la.toInt) (by have := Nat.mul_le_mul hpw.1 (show (op.toInt - la.toInt).natAbs ≤ 600 by omega); rw [← Int.natAbs_mul] at this; unfold rng; omega) (by omega)) (cwTV 1 hT kc_X2_times km_X1_34 ki_X2_times ks_X2_times kn_X2 rfl rfl md_X2_times ⟨Nat.le_of_ble_eq_true rfl, Nat.le_of_ble_eq_true rfl⟩) (va_P.sub (ws' := shQ  b_87 (o_pw E C dn op.toInt la.toInt sh.toInt)) hP [4] rfl) hK (va_recv hK hP (ci := 2) (q0 := 4) rfl rfl) rfl hl.1 rfl (Nat.le_of_ble_eq_true rfl) dX1_init_104 ⟨Nat.le_of_ble_eq_true rfl, Nat.le_of_ble_eq_true rfl⟩) hP hD hS hA (fun u_104 b_104 H locs hw_104 hP hD hS => ?_)
    have hP : va_P (dC, dI) vwCl ((owG  a (.ref b_17) (.ref b_27) (.ref b_38) (.ref b_87) .null .null 0) ++ (shQ  b_17 (Rat.divInt E dn)) ++ (shQ  b_27 (Rat.divInt C dn)) ++ (shQ  b_38 (o_re E C dn)) ++ (shQ  b_87 (o_pw E C dn op.toInt la.toInt sh.toInt)) ++ (shQ  b_104 ((o_pw E C dn op.toInt la.toInt sh.toInt) * (iQ (op.toInt - la.toInt))))) H := hP
    have hD : va_D A ((owG  a (.ref b_17) (.ref b_27) (.ref b_38) (.ref b_87) .null .null 0) ++ (shQ  b_17 (Rat.divInt E dn)) ++ (shQ  b_27 (Rat.divInt C dn)) ++ (shQ  b_38 (o_re E C dn)) ++ (shQ  b_87 (o_pw E C dn op.toInt la.toInt sh.toInt)) ++ (shQ  b_104 ((o_pw E C dn op.toInt la.toInt sh.toInt) * (iQ (op.toInt - la.toInt))))) := hD
    rw [show ((o_pw E C dn op.toInt la.toInt sh.toInt) * (iQ (op.toInt - la.toInt))) = (o_du E C dn op.toInt la.toInt sh.toInt) from rfl] at hP hD
    have hP : va_P (dC, dI) vwCl ((owG  a (.ref b_17) (.ref b_27) (.ref b_38) (.ref b_87) .null .null 0) ++ (shQ  b_17 (Rat.divInt E dn)) ++ (shQ  b_27 (Rat.divInt C dn)) ++ (shQ  b_38 (o_re E C dn)) ++ (shQ  b_87 (o_pw E C dn op.toInt la.toInt sh.toInt)) ++ (shQ  b_104 (o_du E C dn op.toInt la.toInt sh.toInt))) H := hP
    have hD : va_D A ((owG  a (.ref b_17) (.ref b_27) (.ref b_38) (.ref b_87) .null .null 0) ++ (shQ  b_17 (Rat.divInt E dn)) ++ (shQ  b_27 (Rat.divInt C dn)) ++ (shQ  b_38 (o_re E C dn)) ++ (shQ  b_87 (o_pw E C dn op.toInt la.toInt sh.toInt)) ++ (shQ  b_104 (o_du E C dn op.toInt la.toInt sh.toInt))) := hD
    refine va_putF (D := (dC, dI)) (ci := 1) (v := .ref b_104) (ty := .object "SharedFault$Share") (C := RX1) (T := TX1) (N := 7) hx hb hT hiX1 tyX1 tyX1_ok nmX1 hown hK hP hD hS 0 rfl rfl 4 (by decide) (hT _ kf_X1_38) (fun _ h9 => h9) rfl hin rfl (by decide +kernel) rfl rfl (Nat.le_of_ble_eq_true rfl) dX1_init_107 (fun H locs hP hD hS => ?_)
    have hP : va_P (dC, dI) vwCl ((owG  a (.ref b_17) (.ref b_27) (.ref b_38) (.ref b_87) (.ref b_104) .null 0) ++ (shQ  b_17 (Rat.divInt E dn)) ++ (shQ  b_27 (Rat.divInt C dn)) ++ (shQ  b_38 (o_re E C dn)) ++ (shQ  b_87 (o_pw E C dn op.toInt la.toInt sh.toInt)) ++ (shQ  b_104 (o_du E C dn op.toInt la.toInt sh.toInt))) H := hP
    have hD : va_D A ((owG  a (.ref b_17) (.ref b_27) (.ref b_38) (.ref b_87) (.ref b_104) .null 0) ++ (shQ  b_17 (Rat.divInt E dn)) ++ (shQ  b_27 (Rat.divInt C dn)) ++ (shQ  b_38 (o_re E C dn)) ++ (shQ  b_87 (o_pw E C dn op.toInt la.toInt sh.toInt)) ++ (shQ  b_104 (o_du E C dn op.toInt la.toInt sh.toInt))) := hD
    refine lv_aload_n hx hb dX1_init_110 rfl (lv_at hl 1 rfl) ?_
    refine lv_aload_n hx hb dX1_init_111 rfl (lv_at hl 1 rfl) ?_
    refine va_get (D := (dC, dI)) (ci := 1) (v := .ref b_38) (C := RX1) (T := TX1) (N := 7) hx hb hT hiX1 hown hK hP 0 rfl rfl 2 (by decide) (hT _ kf_X1_28) (fun _ h9 => h9) rfl dX1_init_112 ?_
    refine lv_aload_n hx hb dX1_init_115 rfl (lv_at hl 1 rfl) ?_
    refine va_get (D := (dC, dI)) (ci := 1) (v := .ref b_104) (C := RX1) (T := TX1) (N := 7) hx hb hT hiX1 hown hK hP 0 rfl rfl 4 (by decide) (hT _ kf_X1_38) (fun _ h9 => h9) rfl dX1_init_116 ?_
    refine fN_r (rNV (As := [.ref b_104]) (rest := [.ref a]) ⟨hx, hb, hml, hown, hT⟩ (c_X2_minus (l := l) H.size (o_D dn op.toInt sh.toInt) 1000000 1000000 hre hdu hDD.1 (by omega) (by omega)) (cwTV 1 hT kc_X2_minus km_X1_41 ki_X2_minus ks_X2_minus kn_X2 rfl rfl md_X2_minus ⟨Nat.le_of_ble_eq_true rfl, Nat.le_of_ble_eq_true rfl⟩) (va_P.sub (ws' := (shQ  b_38 (o_re E C dn)) ++ (shQ  b_104 (o_du E C dn op.toInt la.toInt sh.toInt))) hP [3, 5] rfl) hK (va_recv hK hP (ci := 2) (q0 := 3) rfl rfl) rfl hl.1 rfl (Nat.le_of_ble_eq_true rfl) dX1_init_119 ⟨Nat.le_of_ble_eq_true rfl, Nat.le_of_ble_eq_true rfl⟩) hP hD hS hA (fun u_119 b_119 H locs hw_119 hP hD hS => ?_)
    have hP : va_P (dC, dI) vwCl ((owG  a (.ref b_17) (.ref b_27) (.ref b_38) (.ref b_87) (.ref b_104) .null 0) ++ (shQ  b_17 (Rat.divInt E dn)) ++ (shQ  b_27 (Rat.divInt C dn)) ++ (shQ  b_38 (o_re E C dn)) ++ (shQ  b_87 (o_pw E C dn op.toInt la.toInt sh.toInt)) ++ (shQ  b_104 (o_du E C dn op.toInt la.toInt sh.toInt)) ++ (shQ  b_119 ((o_re E C dn) - (o_du E C dn op.toInt la.toInt sh.toInt)))) H := hP
    have hD : va_D A ((owG  a (.ref b_17) (.ref b_27) (.ref b_38) (.ref b_87) (.ref b_104) .null 0) ++ (shQ  b_17 (Rat.divInt E dn)) ++ (shQ  b_27 (Rat.divInt C dn)) ++ (shQ  b_38 (o_re E C dn)) ++ (shQ  b_87 (o_pw E C dn op.toInt la.toInt sh.toInt)) ++ (shQ  b_104 (o_du E C dn op.toInt la.toInt sh.toInt)) ++ (shQ  b_119 ((o_re E C dn) - (o_du E C dn op.toInt la.toInt sh.toInt)))) := hD
    rw [show ((o_re E C dn) - (o_du E C dn op.toInt la.toInt sh.toInt)) = (o_mi E C dn op.toInt la.toInt sh.toInt) from rfl] at hP hD
    have hP : va_P (dC, dI) vwCl ((owG  a (.ref b_17) (.ref b_27) (.ref b_38) (.ref b_87) (.ref b_104) .null 0) ++ (shQ  b_17 (Rat.divInt E dn)) ++ (shQ  b_27 (Rat.divInt C dn)) ++ (shQ  b_38 (o_re E C dn)) ++ (shQ  b_87 (o_pw E C dn op.toInt la.toInt sh.toInt)) ++ (shQ  b_104 (o_du E C dn op.toInt la.toInt sh.toInt)) ++ (shQ  b_119 (o_mi E C dn op.toInt la.toInt sh.toInt))) H := hP
    have hD : va_D A ((owG  a (.ref b_17) (.ref b_27) (.ref b_38) (.ref b_87) (.ref b_104) .null 0) ++ (shQ  b_17 (Rat.divInt E dn)) ++ (shQ  b_27 (Rat.divInt C dn)) ++ (shQ  b_38 (o_re E C dn)) ++ (shQ  b_87 (o_pw E C dn op.toInt la.toInt sh.toInt)) ++ (shQ  b_104 (o_du E C dn op.toInt la.toInt sh.toInt)) ++ (shQ  b_119 (o_mi E C dn op.toInt la.toInt sh.toInt))) := hD
    refine va_putF (D := (dC, dI)) (ci := 1) (v := .ref b_119) (ty := .object "SharedFault$Share") (C := RX1) (T := TX1) (N := 7) hx hb hT hiX1 tyX1 tyX1_ok nmX1 hown hK hP hD hS 0 rfl rfl 5 (by decide) (hT _ kf_X1_45) (fun _ h9 => h9) rfl hin rfl (by decide +kernel) rfl rfl (Nat.le_of_ble_eq_true rfl) dX1_init_122 (fun H locs hP hD hS => ?_)
    have hP : va_P (dC, dI) vwCl ((owG  a (.ref b_17) (.ref b_27) (.ref b_38) (.ref b_87) (.ref b_104) (.ref b_119) 0) ++ (shQ  b_17 (Rat.divInt E dn)) ++ (shQ  b_27 (Rat.divInt C dn)) ++ (shQ  b_38 (o_re E C dn)) ++ (shQ  b_87 (o_pw E C dn op.toInt la.toInt sh.toInt)) ++ (shQ  b_104 (o_du E C dn op.toInt la.toInt sh.toInt)) ++ (shQ  b_119 (o_mi E C dn op.toInt la.toInt sh.toInt))) H := hP
    have hD : va_D A ((owG  a (.ref b_17) (.ref b_27) (.ref b_38) (.ref b_87) (.ref b_104) (.ref b_119) 0) ++ (shQ  b_17 (Rat.divInt E dn)) ++ (shQ  b_27 (Rat.divInt C dn)) ++ (shQ  b_38 (o_re E C dn)) ++ (shQ  b_87 (o_pw E C dn op.toInt la.toInt sh.toInt)) ++ (shQ  b_104 (o_du E C dn op.toInt la.toInt sh.toInt)) ++ (shQ  b_119 (o_mi E C dn op.toInt la.toInt sh.toInt))) := hD
    refine lv_aload_n hx hb dX1_init_125 rfl (lv_at hl 1 rfl) ?_
    refine lv_aload_n hx hb dX1_init_126 rfl (lv_at hl 1 rfl) ?_
    refine va_get (D := (dC, dI)) (ci := 1) (v := .ref b_104) (C := RX1) (T := TX1) (N := 7) hx hb hT hiX1 hown hK hP 0 rfl rfl 4 (by decide) (hT _ kf_X1_38) (fun _ h9 => h9) rfl dX1_init_127 ?_
    refine va_get (D := (dC, dI)) (ci := 2) (v := .long (iL ((o_du E C dn op.toInt la.toInt sh.toInt)).num)) (C := RX2) (T := TX2) (N := 2) hx hb hT hiX2 hown hK hP 5 rfl rfl 0 (by decide) (hT _ kf_X1_48) (fun _ h9 => h9) rfl dX1_init_130 ?_
    refine lv_lconst (v := iL 0) hx hb dX1_init_133 rfl ?_
    refine lc_ne (tgt := 142) hx hb dX1_init_134 dX1_init_135 (by decide) (fun c_134 => ?_) (fun c_134 => ?_)
    · have hz : ¬ o_du E C dn op.toInt la.toInt sh.toInt = 0 := fun h => c_134 (by rw [h]; rfl)
      refine lv_iload hx hb dX1_init_142 (lv_at hl 5 rfl) ?_
      refine lv_iload hx hb dX1_init_144 (lv_at hl 6 rfl) ?_
      refine lv_isub hx hb dX1_init_146 ?_
      refine lv_i2l (v := iL (op - la : Int32).toInt) hx hb dX1_init_147 rfl ?_
      refine topl_eq (y := (iL (o_fd E C dn op.toInt la.toInt sh.toInt))) (by unfold o_fd; rw [if_neg hz, e2]) ?_
      refine va_putF (D := (dC, dI)) (ci := 1) (v := .long (iL (o_fd E C dn op.toInt la.toInt sh.toInt))) (ty := .long) (C := RX1) (T := TX1) (N := 7) hx hb hT hiX1 tyX1 tyX1_ok nmX1 hown hK hP hD hS 0 rfl rfl 6 (by decide) (hT _ kf_X1_52) (fun _ h9 => h9) rfl hin rfl (by decide +kernel) rfl rfl (Nat.le_of_ble_eq_true rfl) dX1_init_148 (fun H locs hP hD hS => ?_)
      have hP : va_P (dC, dI) vwCl ((owG  a (.ref b_17) (.ref b_27) (.ref b_38) (.ref b_87) (.ref b_104) (.ref b_119) (iL (o_fd E C dn op.toInt la.toInt sh.toInt))) ++ (shQ  b_17 (Rat.divInt E dn)) ++ (shQ  b_27 (Rat.divInt C dn)) ++ (shQ  b_38 (o_re E C dn)) ++ (shQ  b_87 (o_pw E C dn op.toInt la.toInt sh.toInt)) ++ (shQ  b_104 (o_du E C dn op.toInt la.toInt sh.toInt)) ++ (shQ  b_119 (o_mi E C dn op.toInt la.toInt sh.toInt))) H := hP
      have hD : va_D A ((owG  a (.ref b_17) (.ref b_27) (.ref b_38) (.ref b_87) (.ref b_104) (.ref b_119) (iL (o_fd E C dn op.toInt la.toInt sh.toInt))) ++ (shQ  b_17 (Rat.divInt E dn)) ++ (shQ  b_27 (Rat.divInt C dn)) ++ (shQ  b_38 (o_re E C dn)) ++ (shQ  b_87 (o_pw E C dn op.toInt la.toInt sh.toInt)) ++ (shQ  b_104 (o_du E C dn op.toInt la.toInt sh.toInt)) ++ (shQ  b_119 (o_mi E C dn op.toInt la.toInt sh.toInt))) := hD
      exact retM_v (S := Nat × Nat × Nat × Nat × Nat × Nat) (post := fun _ => True) (w2 := fun u => oW a u E C dn op.toInt la.toInt sh.toInt) (b_17, b_27, b_38, b_87, b_104, b_119) hx hb hr hlocks trivial hP hK hD hS dX1_init_151
    · have hz : o_du E C dn op.toInt la.toInt sh.toInt = 0 := Rat.num_eq_zero.mp ((iL_eq (by have := bd_num_le hDD.1 hdu; unfold rng; omega) rng_0).mp c_134)
      refine lv_lconst (v := iL 1) hx hb dX1_init_138 rfl ?_
      refine topl_eq (y := (iL (o_fd E C dn op.toInt la.toInt sh.toInt))) (by unfold o_fd; rw [if_pos hz]) ?_
      refine lv_goto (tgt := 148) hx hb dX1_init_139 (by decide) ?_
      refine va_putF (D := (dC, dI)) (ci := 1) (v := .long (iL (o_fd E C dn op.toInt la.toInt sh.toInt))) (ty := .long) (C := RX1) (T := TX1) (N := 7) hx hb hT hiX1 tyX1 tyX1_ok nmX1 hown hK hP hD hS 0 rfl rfl 6 (by decide) (hT _ kf_X1_52) (fun _ h9 => h9) rfl hin rfl (by decide +kernel) rfl rfl (Nat.le_of_ble_eq_true rfl) dX1_init_148 (fun H locs hP hD hS => ?_)
      have hP : va_P (dC, dI) vwCl ((owG  a (.ref b_17) (.ref b_27) (.ref b_38) (.ref b_87) (.ref b_104) (.ref b_119) (iL (o_fd E C dn op.toInt la.toInt sh.toInt))) ++ (shQ  b_17 (Rat.divInt E dn)) ++ (shQ  b_27 (Rat.divInt C dn)) ++ (shQ  b_38 (o_re E C dn)) ++ (shQ  b_87 (o_pw E C dn op.toInt la.toInt sh.toInt)) ++ (shQ  b_104 (o_du E C dn op.toInt la.toInt sh.toInt)) ++ (shQ  b_119 (o_mi E C dn op.toInt la.toInt sh.toInt))) H := hP
      have hD : va_D A ((owG  a (.ref b_17) (.ref b_27) (.ref b_38) (.ref b_87) (.ref b_104) (.ref b_119) (iL (o_fd E C dn op.toInt la.toInt sh.toInt))) ++ (shQ  b_17 (Rat.divInt E dn)) ++ (shQ  b_27 (Rat.divInt C dn)) ++ (shQ  b_38 (o_re E C dn)) ++ (shQ  b_87 (o_pw E C dn op.toInt la.toInt sh.toInt)) ++ (shQ  b_104 (o_du E C dn op.toInt la.toInt sh.toInt)) ++ (shQ  b_119 (o_mi E C dn op.toInt la.toInt sh.toInt))) := hD
      exact retM_v (S := Nat × Nat × Nat × Nat × Nat × Nat) (post := fun _ => True) (w2 := fun u => oW a u E C dn op.toInt la.toInt sh.toInt) (b_17, b_27, b_38, b_87, b_104, b_119) hx hb hr hlocks trivial hP hK hD hS dX1_init_151
  · refine lv_aload_n hx hb dX1_init_49 rfl (lv_at hl 1 rfl) ?_
    refine lv_lload hx hb dX1_init_50 (lv_at hl 0 rfl) ?_
    refine lv_lload hx hb dX1_init_52 (lv_at hl 4 rfl) ?_
    refine lv_iload hx hb dX1_init_54 (lv_at hl 5 rfl) ?_
    refine lv_i2l (v := iL (op : Int32).toInt) hx hb dX1_init_56 rfl ?_
    refine li_mul hx hb (a := dn) (b := ((op : Int32).toInt)) dX1_init_57 ?_
    refine fN_r (rNS (As := [.long (iL (o_R E C)), .long (iL (dn * ((op : Int32).toInt)))]) (rest := [.ref a]) ⟨hx, hb, hml, hown, hT⟩ (c_X2_of (l := l) H.size (o_R E C) (dn * ((op : Int32).toInt)) (by unfold rng; omega) (by omega) (by omega)) (cwTS 2 hT kc_X2_of km_X1_13 kt_X2_of kn_X2 rfl rfl md_X2_of ⟨Nat.le_of_ble_eq_true rfl, Nat.le_of_ble_eq_true rfl⟩) nilP hK  rfl hl.1 rfl (Nat.le_of_ble_eq_true rfl) dX1_init_58 ⟨Nat.le_of_ble_eq_true rfl, Nat.le_of_ble_eq_true rfl⟩) hP hD hS hA (fun u_58 b_58 H locs hw_58 hP hD hS => ?_)
    have hP : va_P (dC, dI) vwCl ((owG  a (.ref b_17) (.ref b_27) (.ref b_38) .null .null .null 0) ++ (shQ  b_17 (Rat.divInt E dn)) ++ (shQ  b_27 (Rat.divInt C dn)) ++ (shQ  b_38 (o_re E C dn)) ++ (shQ  b_58 (Rat.divInt (o_R E C) (dn * ((op : Int32).toInt))))) H := hP
    have hD : va_D A ((owG  a (.ref b_17) (.ref b_27) (.ref b_38) .null .null .null 0) ++ (shQ  b_17 (Rat.divInt E dn)) ++ (shQ  b_27 (Rat.divInt C dn)) ++ (shQ  b_38 (o_re E C dn)) ++ (shQ  b_58 (Rat.divInt (o_R E C) (dn * ((op : Int32).toInt))))) := hD
    rw [show (Rat.divInt (o_R E C) (dn * ((op : Int32).toInt))) = (o_pw E C dn op.toInt la.toInt sh.toInt) from (by unfold o_pw; rw [if_pos (i32_0.mp (Classical.not_not.mp (fun h => h c_46)))])] at hP hD
    have hP : va_P (dC, dI) vwCl ((owG  a (.ref b_17) (.ref b_27) (.ref b_38) .null .null .null 0) ++ (shQ  b_17 (Rat.divInt E dn)) ++ (shQ  b_27 (Rat.divInt C dn)) ++ (shQ  b_38 (o_re E C dn)) ++ (shQ  b_58 (o_pw E C dn op.toInt la.toInt sh.toInt))) H := hP
    have hD : va_D A ((owG  a (.ref b_17) (.ref b_27) (.ref b_38) .null .null .null 0) ++ (shQ  b_17 (Rat.divInt E dn)) ++ (shQ  b_27 (Rat.divInt C dn)) ++ (shQ  b_38 (o_re E C dn)) ++ (shQ  b_58 (o_pw E C dn op.toInt la.toInt sh.toInt))) := hD
    refine va_putF (D := (dC, dI)) (ci := 1) (v := .ref b_58) (ty := .object "SharedFault$Share") (C := RX1) (T := TX1) (N := 7) hx hb hT hiX1 tyX1 tyX1_ok nmX1 hown hK hP hD hS 0 rfl rfl 3 (by decide) (hT _ kf_X1_31) (fun _ h9 => h9) rfl hin rfl (by decide +kernel) rfl rfl (Nat.le_of_ble_eq_true rfl) dX1_init_61 (fun H locs hP hD hS => ?_)
    have hP : va_P (dC, dI) vwCl ((owG  a (.ref b_17) (.ref b_27) (.ref b_38) (.ref b_58) .null .null 0) ++ (shQ  b_17 (Rat.divInt E dn)) ++ (shQ  b_27 (Rat.divInt C dn)) ++ (shQ  b_38 (o_re E C dn)) ++ (shQ  b_58 (o_pw E C dn op.toInt la.toInt sh.toInt))) H := hP
    have hD : va_D A ((owG  a (.ref b_17) (.ref b_27) (.ref b_38) (.ref b_58) .null .null 0) ++ (shQ  b_17 (Rat.divInt E dn)) ++ (shQ  b_27 (Rat.divInt C dn)) ++ (shQ  b_38 (o_re E C dn)) ++ (shQ  b_58 (o_pw E C dn op.toInt la.toInt sh.toInt))) := hD
    refine lv_goto (tgt := 93) hx hb dX1_init_64 (by decide) ?_
    refine lv_aload_n hx hb dX1_init_93 rfl (lv_at hl 1 rfl) ?_
    refine lv_aload_n hx hb dX1_init_94 rfl (lv_at hl 1 rfl) ?_
    refine va_get (D := (dC, dI)) (ci := 1) (v := .ref b_58) (C := RX1) (T := TX1) (N := 7) hx hb hT hiX1 hown hK hP 0 rfl rfl 3 (by decide) (hT _ kf_X1_31) (fun _ h9 => h9) rfl dX1_init_95 ?_
    refine lv_iload hx hb dX1_init_98 (lv_at hl 5 rfl) ?_
    refine lv_iload hx hb dX1_init_100 (lv_at hl 6 rfl) ?_
    refine lv_isub hx hb dX1_init_102 ?_
    refine lv_i2l (v := iL (op - la : Int32).toInt) hx hb dX1_init_103 rfl ?_
    refine topl_eq (y := (iL (op.toInt - la.toInt))) (by rw [e2]) ?_
    refine fN_r (rNV (As := [.long (iL (op.toInt - la.toInt))]) (rest := [.ref a]) ⟨hx, hb, hml, hown, hT⟩ (c_X2_times (l := l) H.size (op.toInt - la.toInt) (by have := Nat.mul_le_mul hpw.1 (show (op.toInt - la.toInt).natAbs ≤ 600 by omega); rw [← Int.natAbs_mul] at this; unfold rng; omega) (by omega)) (cwTV 1 hT kc_X2_times km_X1_34 ki_X2_times ks_X2_times kn_X2 rfl rfl md_X2_times ⟨Nat.le_of_ble_eq_true rfl, Nat.le_of_ble_eq_true rfl⟩) (va_P.sub (ws' := shQ  b_58 (o_pw E C dn op.toInt la.toInt sh.toInt)) hP [4] rfl) hK (va_recv hK hP (ci := 2) (q0 := 4) rfl rfl) rfl hl.1 rfl (Nat.le_of_ble_eq_true rfl) dX1_init_104 ⟨Nat.le_of_ble_eq_true rfl, Nat.le_of_ble_eq_true rfl⟩) hP hD hS hA (fun u_104 b_104 H locs hw_104 hP hD hS => ?_)
    have hP : va_P (dC, dI) vwCl ((owG  a (.ref b_17) (.ref b_27) (.ref b_38) (.ref b_58) .null .null 0) ++ (shQ  b_17 (Rat.divInt E dn)) ++ (shQ  b_27 (Rat.divInt C dn)) ++ (shQ  b_38 (o_re E C dn)) ++ (shQ  b_58 (o_pw E C dn op.toInt la.toInt sh.toInt)) ++ (shQ  b_104 ((o_pw E C dn op.toInt la.toInt sh.toInt) * (iQ (op.toInt - la.toInt))))) H := hP
    have hD : va_D A ((owG  a (.ref b_17) (.ref b_27) (.ref b_38) (.ref b_58) .null .null 0) ++ (shQ  b_17 (Rat.divInt E dn)) ++ (shQ  b_27 (Rat.divInt C dn)) ++ (shQ  b_38 (o_re E C dn)) ++ (shQ  b_58 (o_pw E C dn op.toInt la.toInt sh.toInt)) ++ (shQ  b_104 ((o_pw E C dn op.toInt la.toInt sh.toInt) * (iQ (op.toInt - la.toInt))))) := hD
    rw [show ((o_pw E C dn op.toInt la.toInt sh.toInt) * (iQ (op.toInt - la.toInt))) = (o_du E C dn op.toInt la.toInt sh.toInt) from rfl] at hP hD
    have hP : va_P (dC, dI) vwCl ((owG  a (.ref b_17) (.ref b_27) (.ref b_38) (.ref b_58) .null .null 0) ++ (shQ  b_17 (Rat.divInt E dn)) ++ (shQ  b_27 (Rat.divInt C dn)) ++ (shQ  b_38 (o_re E C dn)) ++ (shQ  b_58 (o_pw E C dn op.toInt la.toInt sh.toInt)) ++ (shQ  b_104 (o_du E C dn op.toInt la.toInt sh.toInt))) H := hP
    have hD : va_D A ((owG  a (.ref b_17) (.ref b_27) (.ref b_38) (.ref b_58) .null .null 0) ++ (shQ  b_17 (Rat.divInt E dn)) ++ (shQ  b_27 (Rat.divInt C dn)) ++ (shQ  b_38 (o_re E C dn)) ++ (shQ  b_58 (o_pw E C dn op.toInt la.toInt sh.toInt)) ++ (shQ  b_104 (o_du E C dn op.toInt la.toInt sh.toInt))) := hD
    refine va_putF (D := (dC, dI)) (ci := 1) (v := .ref b_104) (ty := .object "SharedFault$Share") (C := RX1) (T := TX1) (N := 7) hx hb hT hiX1 tyX1 tyX1_ok nmX1 hown hK hP hD hS 0 rfl rfl 4 (by decide) (hT _ kf_X1_38) (fun _ h9 => h9) rfl hin rfl (by decide +kernel) rfl rfl (Nat.le_of_ble_eq_true rfl) dX1_init_107 (fun H locs hP hD hS => ?_)
    have hP : va_P (dC, dI) vwCl ((owG  a (.ref b_17) (.ref b_27) (.ref b_38) (.ref b_58) (.ref b_104) .null 0) ++ (shQ  b_17 (Rat.divInt E dn)) ++ (shQ  b_27 (Rat.divInt C dn)) ++ (shQ  b_38 (o_re E C dn)) ++ (shQ  b_58 (o_pw E C dn op.toInt la.toInt sh.toInt)) ++ (shQ  b_104 (o_du E C dn op.toInt la.toInt sh.toInt))) H := hP
    have hD : va_D A ((owG  a (.ref b_17) (.ref b_27) (.ref b_38) (.ref b_58) (.ref b_104) .null 0) ++ (shQ  b_17 (Rat.divInt E dn)) ++ (shQ  b_27 (Rat.divInt C dn)) ++ (shQ  b_38 (o_re E C dn)) ++ (shQ  b_58 (o_pw E C dn op.toInt la.toInt sh.toInt)) ++ (shQ  b_104 (o_du E C dn op.toInt la.toInt sh.toInt))) := hD
    refine lv_aload_n hx hb dX1_init_110 rfl (lv_at hl 1 rfl) ?_
    refine lv_aload_n hx hb dX1_init_111 rfl (lv_at hl 1 rfl) ?_
    refine va_get (D := (dC, dI)) (ci := 1) (v := .ref b_38) (C := RX1) (T := TX1) (N := 7) hx hb hT hiX1 hown hK hP 0 rfl rfl 2 (by decide) (hT _ kf_X1_28) (fun _ h9 => h9) rfl dX1_init_112 ?_
    refine lv_aload_n hx hb dX1_init_115 rfl (lv_at hl 1 rfl) ?_
    refine va_get (D := (dC, dI)) (ci := 1) (v := .ref b_104) (C := RX1) (T := TX1) (N := 7) hx hb hT hiX1 hown hK hP 0 rfl rfl 4 (by decide) (hT _ kf_X1_38) (fun _ h9 => h9) rfl dX1_init_116 ?_
    refine fN_r (rNV (As := [.ref b_104]) (rest := [.ref a]) ⟨hx, hb, hml, hown, hT⟩ (c_X2_minus (l := l) H.size (o_D dn op.toInt sh.toInt) 1000000 1000000 hre hdu hDD.1 (by omega) (by omega)) (cwTV 1 hT kc_X2_minus km_X1_41 ki_X2_minus ks_X2_minus kn_X2 rfl rfl md_X2_minus ⟨Nat.le_of_ble_eq_true rfl, Nat.le_of_ble_eq_true rfl⟩) (va_P.sub (ws' := (shQ  b_38 (o_re E C dn)) ++ (shQ  b_104 (o_du E C dn op.toInt la.toInt sh.toInt))) hP [3, 5] rfl) hK (va_recv hK hP (ci := 2) (q0 := 3) rfl rfl) rfl hl.1 rfl (Nat.le_of_ble_eq_true rfl) dX1_init_119 ⟨Nat.le_of_ble_eq_true rfl, Nat.le_of_ble_eq_true rfl⟩) hP hD hS hA (fun u_119 b_119 H locs hw_119 hP hD hS => ?_)
    have hP : va_P (dC, dI) vwCl ((owG  a (.ref b_17) (.ref b_27) (.ref b_38) (.ref b_58) (.ref b_104) .null 0) ++ (shQ  b_17 (Rat.divInt E dn)) ++ (shQ  b_27 (Rat.divInt C dn)) ++ (shQ  b_38 (o_re E C dn)) ++ (shQ  b_58 (o_pw E C dn op.toInt la.toInt sh.toInt)) ++ (shQ  b_104 (o_du E C dn op.toInt la.toInt sh.toInt)) ++ (shQ  b_119 ((o_re E C dn) - (o_du E C dn op.toInt la.toInt sh.toInt)))) H := hP
    have hD : va_D A ((owG  a (.ref b_17) (.ref b_27) (.ref b_38) (.ref b_58) (.ref b_104) .null 0) ++ (shQ  b_17 (Rat.divInt E dn)) ++ (shQ  b_27 (Rat.divInt C dn)) ++ (shQ  b_38 (o_re E C dn)) ++ (shQ  b_58 (o_pw E C dn op.toInt la.toInt sh.toInt)) ++ (shQ  b_104 (o_du E C dn op.toInt la.toInt sh.toInt)) ++ (shQ  b_119 ((o_re E C dn) - (o_du E C dn op.toInt la.toInt sh.toInt)))) := hD
    rw [show ((o_re E C dn) - (o_du E C dn op.toInt la.toInt sh.toInt)) = (o_mi E C dn op.toInt la.toInt sh.toInt) from rfl] at hP hD
    have hP : va_P (dC, dI) vwCl ((owG  a (.ref b_17) (.ref b_27) (.ref b_38) (.ref b_58) (.ref b_104) .null 0) ++ (shQ  b_17 (Rat.divInt E dn)) ++ (shQ  b_27 (Rat.divInt C dn)) ++ (shQ  b_38 (o_re E C dn)) ++ (shQ  b_58 (o_pw E C dn op.toInt la.toInt sh.toInt)) ++ (shQ  b_104 (o_du E C dn op.toInt la.toInt sh.toInt)) ++ (shQ  b_119 (o_mi E C dn op.toInt la.toInt sh.toInt))) H := hP
    have hD : va_D A ((owG  a (.ref b_17) (.ref b_27) (.ref b_38) (.ref b_58) (.ref b_104) .null 0) ++ (shQ  b_17 (Rat.divInt E dn)) ++ (shQ  b_27 (Rat.divInt C dn)) ++ (shQ  b_38 (o_re E C dn)) ++ (shQ  b_58 (o_pw E C dn op.toInt la.toInt sh.toInt)) ++ (shQ  b_104 (o_du E C dn op.toInt la.toInt sh.toInt)) ++ (shQ  b_119 (o_mi E C dn op.toInt la.toInt sh.toInt))) := hD
    refine va_putF (D := (dC, dI)) (ci := 1) (v := .ref b_119) (ty := .object "SharedFault$Share") (C := RX1) (T := TX1) (N := 7) hx hb hT hiX1 tyX1 tyX1_ok nmX1 hown hK hP hD hS 0 rfl rfl 5 (by decide) (hT _ kf_X1_45) (fun _ h9 => h9) rfl hin rfl (by decide +kernel) rfl rfl (Nat.le_of_ble_eq_true rfl) dX1_init_122 (fun H locs hP hD hS => ?_)
    have hP : va_P (dC, dI) vwCl ((owG  a (.ref b_17) (.ref b_27) (.ref b_38) (.ref b_58) (.ref b_104) (.ref b_119) 0) ++ (shQ  b_17 (Rat.divInt E dn)) ++ (shQ  b_27 (Rat.divInt C dn)) ++ (shQ  b_38 (o_re E C dn)) ++ (shQ  b_58 (o_pw E C dn op.toInt la.toInt sh.toInt)) ++ (shQ  b_104 (o_du E C dn op.toInt la.toInt sh.toInt)) ++ (shQ  b_119 (o_mi E C dn op.toInt la.toInt sh.toInt))) H := hP
    have hD : va_D A ((owG  a (.ref b_17) (.ref b_27) (.ref b_38) (.ref b_58) (.ref b_104) (.ref b_119) 0) ++ (shQ  b_17 (Rat.divInt E dn)) ++ (shQ  b_27 (Rat.divInt C dn)) ++ (shQ  b_38 (o_re E C dn)) ++ (shQ  b_58 (o_pw E C dn op.toInt la.toInt sh.toInt)) ++ (shQ  b_104 (o_du E C dn op.toInt la.toInt sh.toInt)) ++ (shQ  b_119 (o_mi E C dn op.toInt la.toInt sh.toInt))) := hD
    refine lv_aload_n hx hb dX1_init_125 rfl (lv_at hl 1 rfl) ?_
    refine lv_aload_n hx hb dX1_init_126 rfl (lv_at hl 1 rfl) ?_
    refine va_get (D := (dC, dI)) (ci := 1) (v := .ref b_104) (C := RX1) (T := TX1) (N := 7) hx hb hT hiX1 hown hK hP 0 rfl rfl 4 (by decide) (hT _ kf_X1_38) (fun _ h9 => h9) rfl dX1_init_127 ?_
    refine va_get (D := (dC, dI)) (ci := 2) (v := .long (iL ((o_du E C dn op.toInt la.toInt sh.toInt)).num)) (C := RX2) (T := TX2) (N := 2) hx hb hT hiX2 hown hK hP 5 rfl rfl 0 (by decide) (hT _ kf_X1_48) (fun _ h9 => h9) rfl dX1_init_130 ?_
    refine lv_lconst (v := iL 0) hx hb dX1_init_133 rfl ?_
    refine lc_ne (tgt := 142) hx hb dX1_init_134 dX1_init_135 (by decide) (fun c_134 => ?_) (fun c_134 => ?_)
    · have hz : ¬ o_du E C dn op.toInt la.toInt sh.toInt = 0 := fun h => c_134 (by rw [h]; rfl)
      refine lv_iload hx hb dX1_init_142 (lv_at hl 5 rfl) ?_
      refine lv_iload hx hb dX1_init_144 (lv_at hl 6 rfl) ?_
      refine lv_isub hx hb dX1_init_146 ?_
      refine lv_i2l (v := iL (op - la : Int32).toInt) hx hb dX1_init_147 rfl ?_
      refine topl_eq (y := (iL (o_fd E C dn op.toInt la.toInt sh.toInt))) (by unfold o_fd; rw [if_neg hz, e2]) ?_
      refine va_putF (D := (dC, dI)) (ci := 1) (v := .long (iL (o_fd E C dn op.toInt la.toInt sh.toInt))) (ty := .long) (C := RX1) (T := TX1) (N := 7) hx hb hT hiX1 tyX1 tyX1_ok nmX1 hown hK hP hD hS 0 rfl rfl 6 (by decide) (hT _ kf_X1_52) (fun _ h9 => h9) rfl hin rfl (by decide +kernel) rfl rfl (Nat.le_of_ble_eq_true rfl) dX1_init_148 (fun H locs hP hD hS => ?_)
      have hP : va_P (dC, dI) vwCl ((owG  a (.ref b_17) (.ref b_27) (.ref b_38) (.ref b_58) (.ref b_104) (.ref b_119) (iL (o_fd E C dn op.toInt la.toInt sh.toInt))) ++ (shQ  b_17 (Rat.divInt E dn)) ++ (shQ  b_27 (Rat.divInt C dn)) ++ (shQ  b_38 (o_re E C dn)) ++ (shQ  b_58 (o_pw E C dn op.toInt la.toInt sh.toInt)) ++ (shQ  b_104 (o_du E C dn op.toInt la.toInt sh.toInt)) ++ (shQ  b_119 (o_mi E C dn op.toInt la.toInt sh.toInt))) H := hP
      have hD : va_D A ((owG  a (.ref b_17) (.ref b_27) (.ref b_38) (.ref b_58) (.ref b_104) (.ref b_119) (iL (o_fd E C dn op.toInt la.toInt sh.toInt))) ++ (shQ  b_17 (Rat.divInt E dn)) ++ (shQ  b_27 (Rat.divInt C dn)) ++ (shQ  b_38 (o_re E C dn)) ++ (shQ  b_58 (o_pw E C dn op.toInt la.toInt sh.toInt)) ++ (shQ  b_104 (o_du E C dn op.toInt la.toInt sh.toInt)) ++ (shQ  b_119 (o_mi E C dn op.toInt la.toInt sh.toInt))) := hD
      exact retM_v (S := Nat × Nat × Nat × Nat × Nat × Nat) (post := fun _ => True) (w2 := fun u => oW a u E C dn op.toInt la.toInt sh.toInt) (b_17, b_27, b_38, b_58, b_104, b_119) hx hb hr hlocks trivial hP hK hD hS dX1_init_151
    · have hz : o_du E C dn op.toInt la.toInt sh.toInt = 0 := Rat.num_eq_zero.mp ((iL_eq (by have := bd_num_le hDD.1 hdu; unfold rng; omega) rng_0).mp c_134)
      refine lv_lconst (v := iL 1) hx hb dX1_init_138 rfl ?_
      refine topl_eq (y := (iL (o_fd E C dn op.toInt la.toInt sh.toInt))) (by unfold o_fd; rw [if_pos hz]) ?_
      refine lv_goto (tgt := 148) hx hb dX1_init_139 (by decide) ?_
      refine va_putF (D := (dC, dI)) (ci := 1) (v := .long (iL (o_fd E C dn op.toInt la.toInt sh.toInt))) (ty := .long) (C := RX1) (T := TX1) (N := 7) hx hb hT hiX1 tyX1 tyX1_ok nmX1 hown hK hP hD hS 0 rfl rfl 6 (by decide) (hT _ kf_X1_52) (fun _ h9 => h9) rfl hin rfl (by decide +kernel) rfl rfl (Nat.le_of_ble_eq_true rfl) dX1_init_148 (fun H locs hP hD hS => ?_)
      have hP : va_P (dC, dI) vwCl ((owG  a (.ref b_17) (.ref b_27) (.ref b_38) (.ref b_58) (.ref b_104) (.ref b_119) (iL (o_fd E C dn op.toInt la.toInt sh.toInt))) ++ (shQ  b_17 (Rat.divInt E dn)) ++ (shQ  b_27 (Rat.divInt C dn)) ++ (shQ  b_38 (o_re E C dn)) ++ (shQ  b_58 (o_pw E C dn op.toInt la.toInt sh.toInt)) ++ (shQ  b_104 (o_du E C dn op.toInt la.toInt sh.toInt)) ++ (shQ  b_119 (o_mi E C dn op.toInt la.toInt sh.toInt))) H := hP
      have hD : va_D A ((owG  a (.ref b_17) (.ref b_27) (.ref b_38) (.ref b_58) (.ref b_104) (.ref b_119) (iL (o_fd E C dn op.toInt la.toInt sh.toInt))) ++ (shQ  b_17 (Rat.divInt E dn)) ++ (shQ  b_27 (Rat.divInt C dn)) ++ (shQ  b_38 (o_re E C dn)) ++ (shQ  b_58 (o_pw E C dn op.toInt la.toInt sh.toInt)) ++ (shQ  b_104 (o_du E C dn op.toInt la.toInt sh.toInt)) ++ (shQ  b_119 (o_mi E C dn op.toInt la.toInt sh.toInt))) := hD
      exact retM_v (S := Nat × Nat × Nat × Nat × Nat × Nat) (post := fun _ => True) (w2 := fun u => oW a u E C dn op.toInt la.toInt sh.toInt) (b_17, b_27, b_38, b_58, b_104, b_119) hx hb hr hlocks trivial hP hK hD hS dX1_init_151
