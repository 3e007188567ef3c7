variable {l : Launch} {dC : Nat → ClassId} {dI : Nat → Nat → Nat} {cI cJ cZ : ClassId}
variable {q : Nat → Nat} {ln cw ic bs ss : Int32} {se we un sf pa : Nat → Int32}
variable {ct : Int32} {ov gf : Nat → Int64} {gi ta : Nat → Int32}
variable {k : Nat → Nat} {r : Rat} {up lo : Int64} {cn tm : Int32} {isI br ma : Nat → Int32} {aU aL uU uL oU oL gU gL : Nat → Int64}

theorem i20 : ((2 : Int32) = 0) = False := eq_false (by decide)
def m_ent (ln cn : Int32) (se isI we : Nat → Int32) : Rat := if m_blN cn isI we 6 = 0 then Rat.divInt 0 1 else if 100 * cn ≤ se 2 * m_blN cn isI we 6 then Rat.divInt (ln.toInt * (m_blN cn isI we 6 - cn).toInt) (m_blN cn isI we 6).toInt else Rat.divInt 0 1
def m_cb (ln cn : Int32) (isI we ma sf : Nat → Int32) (u : Nat) : Rat := if sf u = -9 then Rat.divInt 0 1 else if m_blN cn isI we 6 ≤ 0 then Rat.divInt 0 1 else Rat.divInt (ln.toInt * (m_uw we ma u).toInt) (m_blN cn isI we 6).toInt
def m_sv (sf : Nat → Int32) (u : Nat) : Int := if sf u = -9 then 0 else (sf u).toInt
def m_cr (ln cn : Int32) (se isI we ma sf : Nat → Int32) (u : Nat) : Rat := if se 0 = 0 then Rat.divInt (m_sv sf u) 1 else if se 0 = 2 then (if m_sv sf u * ((m_cb ln cn isI we ma sf u).den : Int) ≤ (m_cb ln cn isI we ma sf u).num then m_cb ln cn isI we ma sf u else Rat.divInt (m_sv sf u) 1) else m_cb ln cn isI we ma sf u
/-- what the reference's numbers keep to -/
def m_ok (ln cn : Int32) (isI we br ma sf : Nat → Int32) : Prop := mok ma ∧ (0 ≤ ln.toInt ∧ ln.toInt ≤ 1000000) ∧ (0 ≤ cn.toInt ∧ cn.toInt ≤ 100 ∧ cn.toInt ≤ (m_blN cn isI we 6).toInt ∧ (m_blN cn isI we 6).toInt ≤ 700) ∧ (∀ u, u < 6 → 0 ≤ (m_uw we ma u).toInt ∧ (m_uw we ma u).toInt ≤ 200) ∧ (∀ u, u < 6 → sf u = -9 ∨ (0 ≤ (sf u).toInt ∧ (sf u).toInt ≤ 1000000)) ∧ (0 ≤ (m_opN 0 isI we br ma sf 6).toInt ∧ (m_opN 0 isI we br ma sf 6).toInt ≤ (m_opN 1 isI we br ma sf 6).toInt ∧ (m_opN 1 isI we br ma sf 6).toInt ≤ 600) ∧ (∀ u, u < 6 → m_isU isI ma u → sf u = -9 → ¬ m_ubr br ma u → (m_uw we ma u).toInt ≤ (m_opN 0 isI we br ma sf 6).toInt)
theorem m_sv_bd {sf : Nat → Int32} {u : Nat} (h : sf u = -9 ∨ (0 ≤ (sf u).toInt ∧ (sf u).toInt ≤ 1000000)) : 0 ≤ m_sv sf u ∧ m_sv sf u ≤ 1000000 := by
  unfold m_sv
  split
  · omega
  · rcases h with h | h
    · contradiction
    · exact h
theorem m_cb_bd {ln cn : Int32} {isI we br ma sf : Nat → Int32} (h : m_ok ln cn isI we br ma sf) {u : Nat} (hu : u < 6) : (m_cb ln cn isI we ma sf u).num.natAbs ≤ 200000000 ∧ ((m_cb ln cn isI we ma sf u).den : Int) ≤ 701 := by
  obtain ⟨-, h1, h2, h3, -⟩ := h
  have h3 := h3 u hu
  have h01 : (Rat.divInt 0 1).num.natAbs ≤ 200000000 ∧ ((Rat.divInt 0 1).den : Int) ≤ 701 := by decide
  unfold m_cb
  split
  · exact h01
  · split
    · exact h01
    · have g := mul_bd h1.1 h1.2 h3.1 h3.2
      have := dq_le (ln.toInt * (m_uw we ma u).toInt) (m_blN cn isI we 6).toInt (by omega)
      omega
theorem le0_of {x : Int32} (h : ¬ x ≤ 0) : 0 < x.toInt := by
  have := mt Int32.le_iff_toInt_le.mpr h
  have e : (0 : Int32).toInt = 0 := rfl
  omega
set_option maxHeartbeats 4000000 in
set_option maxRecDepth 100000 in
theorem c_X4_findEntitled (sz : Nat) (hb1 : 0 ≤ ln.toInt ∧ ln.toInt ≤ 1000000) (hb2 : 0 ≤ cn.toInt ∧ cn.toInt ≤ (m_blN cn isI we 6).toInt ∧ (m_blN cn isI we 6).toInt ≤ 700) : Met l yX4_findEntitled (wT yX4_findEntitled cX4_findEntitled 3 none) ({ frames := 2, cells := 0, slots := 0, locals := 55 }) (pM (dC, dI) (ty3 cI cJ cZ) (mQ cI cZ k r ln cn tm se isI we br ma sf pa) [.ref (k 0)] sz) (va_Qv (S := Unit) (fun _ => True) (fun u t9 => bM (dC, dI) (ty3 cI cJ cZ) (va_A (mQ cI cZ k r ln cn tm se isI we br ma sf pa) sz) (mQ cI cZ k (m_ent ln cn se isI we) ln cn tm se isI we br ma sf pa) t9) (va_A (mQ cI cZ k r ln cn tm se isI we br ma sf pa) sz)) 0 0 (va_A (mQ cI cZ k r ln cn tm se isI we br ma sf pa) sz) := by
  refine Met.ofW (cc := cX4_findEntitled) (maxL := 3) (ret := none) (by decide) rfl ?_
  intro p e s m args below meth c s₁ B hml hv
  obtain ⟨rfl, hsz, hP, hK, hD0⟩ := hv
  have hx := B.exec
  have hb := B.bytes
  have hr := B.returns
  have hts := atoms_spec (ws := wT yX4_findEntitled cX4_findEntitled 3 none) B.pre
  have hT := wT_T hts
  have hown : s.vm.findClass RX4 = some m.cls := findClass_of_methodNamed B.named
  have hlocks := B.notSynchronized
  subst hsz
  have hD := hD0.self (sz := s.heap.size)
  generalize hAe : va_A (mQ cI cZ k r ln cn tm se isI we br ma sf pa) s.heap.size = A at hD ⊢
  have hA : ∀ q : Nat, s.heap.size ≤ q → A q := fun q h => by rw [← hAe]; exact Or.inr h
  have hS : va_S A s.heap s.heap [] := va_S.rf
  have hl := lv_entry ([.ref (k 0)]) (n := 3) (Nat.le_of_ble_eq_true rfl)
  rw [lg_entry_eq]
  generalize (lg_sl ([.ref (k 0)]) ++ List.replicate (3 - (lg_sl ([.ref (k 0)])).length) Slot.unset).toArray = ls at hl ⊢
  have hl : lv_has ls 3 [(0, .ref (k 0))] := hl
  have e1 : (m_blN cn isI we 6 - cn).toInt = (m_blN cn isI we 6).toInt - cn.toInt := i32_sub (by omega) (by omega)
  have g1 := mul_bd hb1.1 hb1.2 (b := (m_blN cn isI we 6 - cn).toInt) (y := 700) (by omega) (by omega)
  refine lv_aload_n hx hb dX4_findEntitled_0 rfl (lv_at hl 0 rfl) ?_
  refine vp_callSi (rRV (As := []) (rest := []) ⟨hx, hb, hml, hown, hT⟩ (c_X4_blame (l := l) ) (cwTV 0 hT kc_X4_blame km_X4_106 ki_X4_blame ks_X4_blame kn_X4 rfl rfl md_X4_blame ⟨Nat.le_of_ble_eq_true rfl, Nat.le_of_ble_eq_true rfl⟩) hP hK (va_recv hK hP (ci := 4) (q0 := 0) rfl rfl) rfl hl.1 rfl (Nat.le_of_ble_eq_true rfl) dX4_findEntitled_1 ⟨Nat.le_of_ble_eq_true rfl, Nat.le_of_ble_eq_true rfl⟩) (fun r_1 hw_1 => ?_)
  subst hw_1
  refine lv_istore_n (lv' := [(1, .int (m_blN cn isI we 6)), (0, .ref (k 0))]) hx hb dX4_findEntitled_4 rfl hl (by decide) rfl (fun ls hl => ?_)
  refine lv_iload_n hx hb dX4_findEntitled_5 rfl (lv_at hl 0 rfl) ?_
  refine lv_if_eq (tgt := 27) hx hb dX4_findEntitled_6 (by decide) (fun c_6 => ?_) (fun c_6 => ?_)
  · refine lv_iconst (v := 1) hx hb dX4_findEntitled_27 (by decide) ?_
    refine lv_goto (tgt := 32) hx hb dX4_findEntitled_28 (by decide) ?_
    refine lv_istore_n (lv' := [(2, .int 1), (1, .int (m_blN cn isI we 6)), (0, .ref (k 0))]) hx hb dX4_findEntitled_32 rfl hl (by decide) rfl (fun ls hl => ?_)
    refine lv_aload_n hx hb dX4_findEntitled_33 rfl (lv_at hl 2 rfl) ?_
    refine lv_iload_n hx hb dX4_findEntitled_34 rfl (lv_at hl 0 rfl) ?_
    refine lv_if_eq (tgt := 42) hx hb dX4_findEntitled_35 (by decide) (fun h => absurd h (by decide)) (fun c_35 => ?_)
    refine lv_lconst (v := iL 0) hx hb dX4_findEntitled_38 rfl ?_
    refine lv_goto (tgt := 55) hx hb dX4_findEntitled_39 (by decide) ?_
    refine lv_iload_n hx hb dX4_findEntitled_55 rfl (lv_at hl 0 rfl) ?_
    refine lv_if_eq (tgt := 63) hx hb dX4_findEntitled_56 (by decide) (fun h => absurd h (by decide)) (fun c_56 => ?_)
    refine lv_lconst (v := iL 1) hx hb dX4_findEntitled_59 rfl ?_
    refine lv_goto (tgt := 65) hx hb dX4_findEntitled_60 (by decide) ?_
    refine fM_v (wc := mQ cI cZ k r ln cn tm se isI we br ma sf pa) (wr := []) (rMV (wc := mQ cI cZ k r ln cn tm se isI we br ma sf pa) (As := [.long (iL 0), .long (iL 1)]) (rest := []) ⟨hx, hb, hml, hown, hT⟩ (c_X4_makes (l := l) s.heap.size 0 1 (by first | exact rng_0 | (unfold rng; omega)) (by first | decide | (have := mt i32_0.mpr c_6; omega)) (by first | exact rng_1 | (unfold rng; omega))) (cwTV 2 hT kc_X4_makes km_X4_78 ki_X4_makes ks_X4_makes kn_X4 rfl rfl md_X4_makes ⟨Nat.le_of_ble_eq_true rfl, Nat.le_of_ble_eq_true rfl⟩) hP hD hK (va_recv hK hP (ci := 4) (q0 := 0) rfl rfl) rfl hl.1 rfl (Nat.le_of_ble_eq_true rfl) dX4_findEntitled_65 ⟨Nat.le_of_ble_eq_true rfl, Nat.le_of_ble_eq_true rfl⟩) hP hD hS hA (fun u_65 H locs hw_65 hP hD hS => ?_)
    have hP : va_P (dC, dI) vwCl (mQ cI cZ k (Rat.divInt 0 1) ln cn tm se isI we br ma sf pa) H := hP
    have hD : va_D A (mQ cI cZ k (Rat.divInt 0 1) ln cn tm se isI we br ma sf pa) := hD
    rw [show (Rat.divInt 0 1) = (m_ent ln cn se isI we) from (by simp only [m_ent, c_6, ↓reduceIte, Bool.false_eq_true, i10])] at hP hD
    have hP : va_P (dC, dI) vwCl (mQ cI cZ k (m_ent ln cn se isI we) ln cn tm se isI we br ma sf pa) H := hP
    have hD : va_D A (mQ cI cZ k (m_ent ln cn se isI we) ln cn tm se isI we br ma sf pa) := hD
    exact retM_v (S := Unit) (post := fun _ => True) (w2 := fun u => mQ cI cZ k (m_ent ln cn se isI we) ln cn tm se isI we br ma sf pa) () hx hb hr hlocks trivial hP hK hD hS dX4_findEntitled_68
  · refine lv_bipush (v := 100) hx hb dX4_findEntitled_9 (by decide) ?_
    refine lv_aload_n hx hb dX4_findEntitled_11 rfl (lv_at hl 1 rfl) ?_
    refine va_get (D := (dC, dI)) (ci := 4) (v := .int cn) (C := RX4) (T := TX4) (N := 22) hx hb hT hiX4 hown hK hP 0 rfl rfl 3 (by decide) (hT _ kf_X4_91) (fun _ h9 => h9) rfl dX4_findEntitled_12 ?_
    refine lv_imul hx hb dX4_findEntitled_15 ?_
    refine lv_aload_n hx hb dX4_findEntitled_16 rfl (lv_at hl 1 rfl) ?_
    refine va_get (D := (dC, dI)) (ci := 4) (v := .ref (k 1)) (C := RX4) (T := TX4) (N := 22) hx hb hT hiX4 hown hK hP 0 rfl rfl 4 (by decide) (hT _ kf_X4_13) (fun _ h9 => h9) rfl dX4_findEntitled_17 ?_
    refine lv_iconst (v := 2) hx hb dX4_findEntitled_20 (by decide) ?_
    refine ald_i hx hb hK hP 1 0 rfl rfl (by decide) (w := 2) rfl (by decide) dX4_findEntitled_21 ?_
    refine lv_iload_n hx hb dX4_findEntitled_22 rfl (lv_at hl 0 rfl) ?_
    refine lv_imul hx hb dX4_findEntitled_23 ?_
    refine lv_icmp_le (tgt := 31) hx hb dX4_findEntitled_24 (by decide) (fun c_24 => ?_) (fun c_24 => ?_)
    · refine lv_iconst (v := 0) hx hb dX4_findEntitled_31 (by decide) ?_
      refine lv_istore_n (lv' := [(2, .int 0), (1, .int (m_blN cn isI we 6)), (0, .ref (k 0))]) hx hb dX4_findEntitled_32 rfl hl (by decide) rfl (fun ls hl => ?_)
      refine lv_aload_n hx hb dX4_findEntitled_33 rfl (lv_at hl 2 rfl) ?_
      refine lv_iload_n hx hb dX4_findEntitled_34 rfl (lv_at hl 0 rfl) ?_
      refine lv_if_eq (tgt := 42) hx hb dX4_findEntitled_35 (by decide) (fun c_35 => ?_) (fun h => absurd h (by decide))
      refine lv_aload_n hx hb dX4_findEntitled_42 rfl (lv_at hl 2 rfl) ?_
      refine va_get (D := (dC, dI)) (ci := 4) (v := .int ln) (C := RX4) (T := TX4) (N := 22) hx hb hT hiX4 hown hK hP 0 rfl rfl 2 (by decide) (hT _ kf_X4_87) (fun _ h9 => h9) rfl dX4_findEntitled_43 ?_
      refine lv_i2l (v := iL (ln : Int32).toInt) hx hb dX4_findEntitled_46 rfl ?_
      refine lv_iload_n hx hb dX4_findEntitled_47 rfl (lv_at hl 1 rfl) ?_
      refine lv_aload_n hx hb dX4_findEntitled_48 rfl (lv_at hl 2 rfl) ?_
      refine va_get (D := (dC, dI)) (ci := 4) (v := .int cn) (C := RX4) (T := TX4) (N := 22) hx hb hT hiX4 hown hK hP 0 rfl rfl 3 (by decide) (hT _ kf_X4_91) (fun _ h9 => h9) rfl dX4_findEntitled_49 ?_
      refine lv_isub hx hb dX4_findEntitled_52 ?_
      refine lv_i2l (v := iL ((m_blN cn isI we 6) - cn : Int32).toInt) hx hb dX4_findEntitled_53 rfl ?_
      refine li_mul hx hb (a := ((ln : Int32).toInt)) (b := (((m_blN cn isI we 6) - cn : Int32).toInt)) dX4_findEntitled_54 ?_
      refine lv_iload_n hx hb dX4_findEntitled_55 rfl (lv_at hl 0 rfl) ?_
      refine lv_if_eq (tgt := 63) hx hb dX4_findEntitled_56 (by decide) (fun c_56 => ?_) (fun h => absurd h (by decide))
      refine lv_iload_n hx hb dX4_findEntitled_63 rfl (lv_at hl 1 rfl) ?_
      refine lv_i2l (v := iL (m_blN cn isI we 6 : Int32).toInt) hx hb dX4_findEntitled_64 rfl ?_
      refine fM_v (wc := mQ cI cZ k r ln cn tm se isI we br ma sf pa) (wr := []) (rMV (wc := mQ cI cZ k r ln cn tm se isI we br ma sf pa) (As := [.long (iL (((ln : Int32).toInt) * (((m_blN cn isI we 6) - cn : Int32).toInt))), .long (iL (m_blN cn isI we 6 : Int32).toInt)]) (rest := []) ⟨hx, hb, hml, hown, hT⟩ (c_X4_makes (l := l) s.heap.size (((ln : Int32).toInt) * (((m_blN cn isI we 6) - cn : Int32).toInt)) ((m_blN cn isI we 6 : Int32).toInt) (by first | exact rng_0 | (unfold rng; omega)) (by first | decide | (have := mt i32_0.mpr c_6; omega)) (by first | exact rng_1 | (unfold rng; omega))) (cwTV 2 hT kc_X4_makes km_X4_78 ki_X4_makes ks_X4_makes kn_X4 rfl rfl md_X4_makes ⟨Nat.le_of_ble_eq_true rfl, Nat.le_of_ble_eq_true rfl⟩) hP hD hK (va_recv hK hP (ci := 4) (q0 := 0) rfl rfl) rfl hl.1 rfl (Nat.le_of_ble_eq_true rfl) dX4_findEntitled_65 ⟨Nat.le_of_ble_eq_true rfl, Nat.le_of_ble_eq_true rfl⟩) hP hD hS hA (fun u_65 H locs hw_65 hP hD hS => ?_)
      have hP : va_P (dC, dI) vwCl (mQ cI cZ k (Rat.divInt (((ln : Int32).toInt) * (((m_blN cn isI we 6) - cn : Int32).toInt)) ((m_blN cn isI we 6 : Int32).toInt)) ln cn tm se isI we br ma sf pa) H := hP
      have hD : va_D A (mQ cI cZ k (Rat.divInt (((ln : Int32).toInt) * (((m_blN cn isI we 6) - cn : Int32).toInt)) ((m_blN cn isI we 6 : Int32).toInt)) ln cn tm se isI we br ma sf pa) := hD
      rw [show (Rat.divInt (((ln : Int32).toInt) * (((m_blN cn isI we 6) - cn : Int32).toInt)) ((m_blN cn isI we 6 : Int32).toInt)) = (m_ent ln cn se isI we) from (by simp only [m_ent, c_6, c_24, ↓reduceIte, Bool.false_eq_true, i10])] at hP hD
      have hP : va_P (dC, dI) vwCl (mQ cI cZ k (m_ent ln cn se isI we) ln cn tm se isI we br ma sf pa) H := hP
      have hD : va_D A (mQ cI cZ k (m_ent ln cn se isI we) ln cn tm se isI we br ma sf pa) := hD
      exact retM_v (S := Unit) (post := fun _ => True) (w2 := fun u => mQ cI cZ k (m_ent ln cn se isI we) ln cn tm se isI we br ma sf pa) () hx hb hr hlocks trivial hP hK hD hS dX4_findEntitled_68
    · refine lv_iconst (v := 1) hx hb dX4_findEntitled_27 (by decide) ?_
      refine lv_goto (tgt := 32) hx hb dX4_findEntitled_28 (by decide) ?_
      refine lv_istore_n (lv' := [(2, .int 1), (1, .int (m_blN cn isI we 6)), (0, .ref (k 0))]) hx hb dX4_findEntitled_32 rfl hl (by decide) rfl (fun ls hl => ?_)
      refine lv_aload_n hx hb dX4_findEntitled_33 rfl (lv_at hl 2 rfl) ?_
      refine lv_iload_n hx hb dX4_findEntitled_34 rfl (lv_at hl 0 rfl) ?_
      refine lv_if_eq (tgt := 42) hx hb dX4_findEntitled_35 (by decide) (fun h => absurd h (by decide)) (fun c_35 => ?_)
      refine lv_lconst (v := iL 0) hx hb dX4_findEntitled_38 rfl ?_
      refine lv_goto (tgt := 55) hx hb dX4_findEntitled_39 (by decide) ?_
      refine lv_iload_n hx hb dX4_findEntitled_55 rfl (lv_at hl 0 rfl) ?_
      refine lv_if_eq (tgt := 63) hx hb dX4_findEntitled_56 (by decide) (fun h => absurd h (by decide)) (fun c_56 => ?_)
      refine lv_lconst (v := iL 1) hx hb dX4_findEntitled_59 rfl ?_
      refine lv_goto (tgt := 65) hx hb dX4_findEntitled_60 (by decide) ?_
      refine fM_v (wc := mQ cI cZ k r ln cn tm se isI we br ma sf pa) (wr := []) (rMV (wc := mQ cI cZ k r ln cn tm se isI we br ma sf pa) (As := [.long (iL 0), .long (iL 1)]) (rest := []) ⟨hx, hb, hml, hown, hT⟩ (c_X4_makes (l := l) s.heap.size 0 1 (by first | exact rng_0 | (unfold rng; omega)) (by first | decide | (have := mt i32_0.mpr c_6; omega)) (by first | exact rng_1 | (unfold rng; omega))) (cwTV 2 hT kc_X4_makes km_X4_78 ki_X4_makes ks_X4_makes kn_X4 rfl rfl md_X4_makes ⟨Nat.le_of_ble_eq_true rfl, Nat.le_of_ble_eq_true rfl⟩) hP hD hK (va_recv hK hP (ci := 4) (q0 := 0) rfl rfl) rfl hl.1 rfl (Nat.le_of_ble_eq_true rfl) dX4_findEntitled_65 ⟨Nat.le_of_ble_eq_true rfl, Nat.le_of_ble_eq_true rfl⟩) hP hD hS hA (fun u_65 H locs hw_65 hP hD hS => ?_)
      have hP : va_P (dC, dI) vwCl (mQ cI cZ k (Rat.divInt 0 1) ln cn tm se isI we br ma sf pa) H := hP
      have hD : va_D A (mQ cI cZ k (Rat.divInt 0 1) ln cn tm se isI we br ma sf pa) := hD
      rw [show (Rat.divInt 0 1) = (m_ent ln cn se isI we) from (by simp only [m_ent, c_6, c_24, ↓reduceIte, Bool.false_eq_true, i10])] at hP hD
      have hP : va_P (dC, dI) vwCl (mQ cI cZ k (m_ent ln cn se isI we) ln cn tm se isI we br ma sf pa) H := hP
      have hD : va_D A (mQ cI cZ k (m_ent ln cn se isI we) ln cn tm se isI we br ma sf pa) := hD
      exact retM_v (S := Unit) (post := fun _ => True) (w2 := fun u => mQ cI cZ k (m_ent ln cn se isI we) ln cn tm se isI we br ma sf pa) () hx hb hr hlocks trivial hP hK hD hS dX4_findEntitled_68
set_option maxHeartbeats 4000000 in
set_option maxRecDepth 100000 in
theorem c_X4_findCredit (sz : Nat) (w : Nat) (hw : w < 6) (hok : m_ok ln cn isI we br ma sf) : Met l yX4_findCredit (wT yX4_findCredit cX4_findCredit 6 none) ({ frames := 2, cells := 0, slots := 0, locals := 55 }) (pM (dC, dI) (ty3 cI cJ cZ) (mQ cI cZ k r ln cn tm se isI we br ma sf pa) [.ref (k 0), .int (nI w)] sz) (va_Qv (S := Rat) (fun u => u = m_cr ln cn se isI we ma sf w) (fun u t9 => bM (dC, dI) (ty3 cI cJ cZ) (va_A (mQ cI cZ k r ln cn tm se isI we br ma sf pa) sz) (mQ cI cZ k u ln cn tm se isI we br ma sf pa) t9) (va_A (mQ cI cZ k r ln cn tm se isI we br ma sf pa) sz)) 0 0 (va_A (mQ cI cZ k r ln cn tm se isI we br ma sf pa) sz) := by
  refine Met.ofW (cc := cX4_findCredit) (maxL := 6) (ret := none) (by decide) rfl ?_
  intro p e s m args below meth c s₁ B hml hv
  obtain ⟨rfl, hsz, hP, hK, hD0⟩ := hv
  have hx := B.exec
  have hb := B.bytes
  have hr := B.returns
  have hts := atoms_spec (ws := wT yX4_findCredit cX4_findCredit 6 none) B.pre
  have hT := wT_T hts
  have hown : s.vm.findClass RX4 = some m.cls := findClass_of_methodNamed B.named
  have hlocks := B.notSynchronized
  subst hsz
  have hD := hD0.self (sz := s.heap.size)
  generalize hAe : va_A (mQ cI cZ k r ln cn tm se isI we br ma sf pa) s.heap.size = A at hD ⊢
  have hA : ∀ q : Nat, s.heap.size ≤ q → A q := fun q h => by rw [← hAe]; exact Or.inr h
  have hS : va_S A s.heap s.heap [] := va_S.rf
  have hl := lv_entry ([.ref (k 0), .int (nI w)]) (n := 6) (Nat.le_of_ble_eq_true rfl)
  rw [lg_entry_eq]
  generalize (lg_sl ([.ref (k 0), .int (nI w)]) ++ List.replicate (6 - (lg_sl ([.ref (k 0), .int (nI w)])).length) Slot.unset).toArray = ls at hl ⊢
  have hl : lv_has ls 6 [(0, .ref (k 0)), (1, .int (nI w))] := hl
  have hsv := m_sv_bd (hok.2.2.2.2.1 w hw)
  have hcb := m_cb_bd hok hw
  have hm := hok.1
  have h1 := hok.2.1
  have h2 := hok.2.2.1
  have h3 := hok.2.2.2.1 w hw
  have g1 := mul_bd h1.1 h1.2 h3.1 h3.2
  have hq1 : m_sv sf w * ((m_cb ln cn isI we ma sf w).den : Int) ≤ 1000000 * 701 ∧ 0 ≤ m_sv sf w * ((m_cb ln cn isI we ma sf w).den : Int) := ⟨(mul_bd hsv.1 hsv.2 (by omega) hcb.2).2, (mul_bd hsv.1 hsv.2 (by omega) hcb.2).1⟩
  refine lv_aload_n hx hb dX4_findCredit_0 rfl (lv_at hl 0 rfl) ?_
  refine vp_callSi (rRV (As := []) (rest := []) ⟨hx, hb, hml, hown, hT⟩ (c_X4_blame (l := l) ) (cwTV 0 hT kc_X4_blame km_X4_106 ki_X4_blame ks_X4_blame kn_X4 rfl rfl md_X4_blame ⟨Nat.le_of_ble_eq_true rfl, Nat.le_of_ble_eq_true rfl⟩) hP hK (va_recv hK hP (ci := 4) (q0 := 0) rfl rfl) rfl hl.1 rfl (Nat.le_of_ble_eq_true rfl) dX4_findCredit_1 ⟨Nat.le_of_ble_eq_true rfl, Nat.le_of_ble_eq_true rfl⟩) (fun r_1 hw_1 => ?_)
  subst hw_1
  refine lv_istore_n (lv' := [(2, .int (m_blN cn isI we 6)), (0, .ref (k 0)), (1, .int (nI w))]) hx hb dX4_findCredit_4 rfl hl (by decide) rfl (fun ls hl => ?_)
  refine lv_aload_n hx hb dX4_findCredit_5 rfl (lv_at hl 1 rfl) ?_
  refine va_get (D := (dC, dI)) (ci := 4) (v := .ref (k 6)) (C := RX4) (T := TX4) (N := 22) hx hb hT hiX4 hown hK hP 0 rfl rfl 9 (by decide) (hT _ kf_X4_30) (fun _ h9 => h9) rfl dX4_findCredit_6 ?_
  refine lv_iload_n hx hb dX4_findCredit_9 rfl (lv_at hl 2 rfl) ?_
  refine ald_i hx hb hK hP 6 0 rfl rfl (by decide) (w := w) rfl (by omega) dX4_findCredit_10 ?_
  refine lv_bipush (v := (-9)) hx hb dX4_findCredit_11 (by decide) ?_
  refine lv_icmp_ne (tgt := 20) hx hb dX4_findCredit_13 (by decide) (fun c_13 => ?_) (fun c_13 => ?_)
  · refine lv_aload_n hx hb dX4_findCredit_20 rfl (lv_at hl 1 rfl) ?_
    refine va_get (D := (dC, dI)) (ci := 4) (v := .ref (k 6)) (C := RX4) (T := TX4) (N := 22) hx hb hT hiX4 hown hK hP 0 rfl rfl 9 (by decide) (hT _ kf_X4_30) (fun _ h9 => h9) rfl dX4_findCredit_21 ?_
    refine lv_iload_n hx hb dX4_findCredit_24 rfl (lv_at hl 2 rfl) ?_
    refine ald_i hx hb hK hP 6 0 rfl rfl (by decide) (w := w) rfl (by omega) dX4_findCredit_25 ?_
    refine lv_i2l (v := iL (sf w : Int32).toInt) hx hb dX4_findCredit_26 rfl ?_
    refine topl_eq (y := (iL (m_sv sf w))) (by simp only [m_sv, c_13, ↓reduceIte, Bool.false_eq_true, i10]) ?_
    refine lv_lstore_n (lv' := [(3, .long (iL (m_sv sf w))), (2, .int (m_blN cn isI we 6)), (0, .ref (k 0)), (1, .int (nI w))]) hx hb dX4_findCredit_27 rfl hl (by decide) rfl (fun ls hl => ?_)
    refine lv_aload_n hx hb dX4_findCredit_28 rfl (lv_at hl 2 rfl) ?_
    refine va_get (D := (dC, dI)) (ci := 4) (v := .ref (k 6)) (C := RX4) (T := TX4) (N := 22) hx hb hT hiX4 hown hK hP 0 rfl rfl 9 (by decide) (hT _ kf_X4_30) (fun _ h9 => h9) rfl dX4_findCredit_29 ?_
    refine lv_iload_n hx hb dX4_findCredit_32 rfl (lv_at hl 3 rfl) ?_
    refine ald_i hx hb hK hP 6 0 rfl rfl (by decide) (w := w) rfl (by omega) dX4_findCredit_33 ?_
    refine lv_bipush (v := (-9)) hx hb dX4_findCredit_34 (by decide) ?_
    refine lv_icmp_eq (tgt := 47) hx hb dX4_findCredit_36 (by decide) (fun c_36 => ?_) (fun c_36 => ?_)
    · exact absurd c_36 c_13
    · refine lv_iload_n hx hb dX4_findCredit_39 rfl (lv_at hl 1 rfl) ?_
      refine lv_if_le (tgt := 47) hx hb dX4_findCredit_40 (by decide) (fun c_40 => ?_) (fun c_40 => ?_)
      · refine lv_iconst (v := 0) hx hb dX4_findCredit_47 (by decide) ?_
        refine lv_istore (lv' := [(5, .int 0), (3, .long (iL (m_sv sf w))), (2, .int (m_blN cn isI we 6)), (0, .ref (k 0)), (1, .int (nI w))]) hx hb dX4_findCredit_48 hl (by decide) rfl (fun ls hl => ?_)
        refine lv_aload_n hx hb dX4_findCredit_50 rfl (lv_at hl 3 rfl) ?_
        refine lv_iload hx hb dX4_findCredit_51 (lv_at hl 0 rfl) ?_
        refine lv_if_eq (tgt := 71) hx hb dX4_findCredit_53 (by decide) (fun c_53 => ?_) (fun h => absurd h (by decide))
        refine lv_lconst (v := iL 0) hx hb dX4_findCredit_71 rfl ?_
        refine lv_iload hx hb dX4_findCredit_72 (lv_at hl 0 rfl) ?_
        refine lv_if_eq (tgt := 82) hx hb dX4_findCredit_74 (by decide) (fun c_74 => ?_) (fun h => absurd h (by decide))
        refine lv_lconst (v := iL 1) hx hb dX4_findCredit_82 rfl ?_
        refine fM_v (wc := mQ cI cZ k r ln cn tm se isI we br ma sf pa) (wr := []) (rMV (wc := mQ cI cZ k r ln cn tm se isI we br ma sf pa) (As := [.long (iL 0), .long (iL 1)]) (rest := []) ⟨hx, hb, hml, hown, hT⟩ (c_X4_makes (l := l) s.heap.size 0 1 (by first | exact rng_0 | (unfold rng; omega)) (by first | decide | (have := le0_of c_40; omega)) (by first | exact rng_1 | (unfold rng; omega))) (cwTV 2 hT kc_X4_makes km_X4_78 ki_X4_makes ks_X4_makes kn_X4 rfl rfl md_X4_makes ⟨Nat.le_of_ble_eq_true rfl, Nat.le_of_ble_eq_true rfl⟩) hP hD hK (va_recv hK hP (ci := 4) (q0 := 0) rfl rfl) rfl hl.1 rfl (Nat.le_of_ble_eq_true rfl) dX4_findCredit_83 ⟨Nat.le_of_ble_eq_true rfl, Nat.le_of_ble_eq_true rfl⟩) hP hD hS hA (fun u_83 H locs hw_83 hP hD hS => ?_)
        have hP : va_P (dC, dI) vwCl (mQ cI cZ k (Rat.divInt 0 1) ln cn tm se isI we br ma sf pa) H := hP
        have hD : va_D A (mQ cI cZ k (Rat.divInt 0 1) ln cn tm se isI we br ma sf pa) := hD
        rw [show (Rat.divInt 0 1) = (m_cb ln cn isI we ma sf w) from (by simp only [m_cb, c_13, c_36, c_40, ↓reduceIte, Bool.false_eq_true, i10])] at hP hD
        have hP : va_P (dC, dI) vwCl (mQ cI cZ k (m_cb ln cn isI we ma sf w) ln cn tm se isI we br ma sf pa) H := hP
        have hD : va_D A (mQ cI cZ k (m_cb ln cn isI we ma sf w) ln cn tm se isI we br ma sf pa) := hD
        refine lv_aload_n hx hb dX4_findCredit_86 rfl (lv_at hl 3 rfl) ?_
        refine va_get (D := (dC, dI)) (ci := 4) (v := .ref (k 1)) (C := RX4) (T := TX4) (N := 22) hx hb hT hiX4 hown hK hP 0 rfl rfl 4 (by decide) (hT _ kf_X4_13) (fun _ h9 => h9) rfl dX4_findCredit_87 ?_
        refine lv_iconst (v := 0) hx hb dX4_findCredit_90 (by decide) ?_
        refine ald_i hx hb hK hP 1 0 rfl rfl (by decide) (w := 0) rfl (by decide) dX4_findCredit_91 ?_
        refine lv_if_eq (tgt := 119) hx hb dX4_findCredit_92 (by decide) (fun c_92 => ?_) (fun c_92 => ?_)
        · refine lv_aload_n hx hb dX4_findCredit_119 rfl (lv_at hl 3 rfl) ?_
          refine lv_lload_n hx hb dX4_findCredit_120 rfl (lv_at hl 1 rfl) ?_
          refine lv_lconst (v := iL 1) hx hb dX4_findCredit_121 rfl ?_
          refine fM_v (wc := mQ cI cZ k (m_cb ln cn isI we ma sf w) ln cn tm se isI we br ma sf pa) (wr := []) (rMV (wc := mQ cI cZ k (m_cb ln cn isI we ma sf w) ln cn tm se isI we br ma sf pa) (As := [.long (iL (m_sv sf w)), .long (iL 1)]) (rest := []) ⟨hx, hb, hml, hown, hT⟩ (c_X4_makes (l := l) H.size (m_sv sf w) 1 (by unfold rng; omega) (by decide) rng_1) (cwTV 2 hT kc_X4_makes km_X4_78 ki_X4_makes ks_X4_makes kn_X4 rfl rfl md_X4_makes ⟨Nat.le_of_ble_eq_true rfl, Nat.le_of_ble_eq_true rfl⟩) hP hD hK (va_recv hK hP (ci := 4) (q0 := 0) rfl rfl) rfl hl.1 rfl (Nat.le_of_ble_eq_true rfl) dX4_findCredit_122 ⟨Nat.le_of_ble_eq_true rfl, Nat.le_of_ble_eq_true rfl⟩) hP hD hS hA (fun u_122 H locs hw_122 hP hD hS => ?_)
          have hP : va_P (dC, dI) vwCl (mQ cI cZ k (Rat.divInt (m_sv sf w) 1) ln cn tm se isI we br ma sf pa) H := hP
          have hD : va_D A (mQ cI cZ k (Rat.divInt (m_sv sf w) 1) ln cn tm se isI we br ma sf pa) := hD
          exact retM_v (S := Rat) (post := fun u => u = m_cr ln cn se isI we ma sf w) (w2 := fun u => mQ cI cZ k u ln cn tm se isI we br ma sf pa) (Rat.divInt (m_sv sf w) 1) hx hb hr hlocks (by first | simp only [m_cr, hz, c_13, c_36, c_40, c_92, i20, ↓reduceIte, Bool.false_eq_true, i10] | simp only [m_cr, c_13, c_36, c_40, c_92, i20, ↓reduceIte, Bool.false_eq_true, i10]) hP hK hD hS dX4_findCredit_125
        · refine lv_aload_n hx hb dX4_findCredit_95 rfl (lv_at hl 3 rfl) ?_
          refine va_get (D := (dC, dI)) (ci := 4) (v := .ref (k 1)) (C := RX4) (T := TX4) (N := 22) hx hb hT hiX4 hown hK hP 0 rfl rfl 4 (by decide) (hT _ kf_X4_13) (fun _ h9 => h9) rfl dX4_findCredit_96 ?_
          refine lv_iconst (v := 0) hx hb dX4_findCredit_99 (by decide) ?_
          refine ald_i hx hb hK hP 1 0 rfl rfl (by decide) (w := 0) rfl (by decide) dX4_findCredit_100 ?_
          refine lv_iconst (v := 2) hx hb dX4_findCredit_101 (by decide) ?_
          refine lv_icmp_ne (tgt := 125) hx hb dX4_findCredit_102 (by decide) (fun c_102 => ?_) (fun c_102 => ?_)
          · exact retM_v (S := Rat) (post := fun u => u = m_cr ln cn se isI we ma sf w) (w2 := fun u => mQ cI cZ k u ln cn tm se isI we br ma sf pa) (m_cb ln cn isI we ma sf w) hx hb hr hlocks (by first | simp only [m_cr, hz, c_13, c_36, c_40, c_92, c_102, i20, ↓reduceIte, Bool.false_eq_true, i10] | simp only [m_cr, c_13, c_36, c_40, c_92, c_102, i20, ↓reduceIte, Bool.false_eq_true, i10]) hP hK hD hS dX4_findCredit_125
          · refine lv_lload_n hx hb dX4_findCredit_105 rfl (lv_at hl 1 rfl) ?_
            refine lv_aload_n hx hb dX4_findCredit_106 rfl (lv_at hl 3 rfl) ?_
            refine va_get (D := (dC, dI)) (ci := 4) (v := .long (iL (((m_cb ln cn isI we ma sf w)).den : Int))) (C := RX4) (T := TX4) (N := 22) hx hb hT hiX4 hown hK hP 0 rfl rfl 1 (by decide) (hT _ kf_X4_7) (fun _ h9 => h9) rfl dX4_findCredit_107 ?_
            refine li_mul hx hb (a := (m_sv sf w)) (b := (((m_cb ln cn isI we ma sf w)).den : Int)) dX4_findCredit_110 ?_
            refine lv_aload_n hx hb dX4_findCredit_111 rfl (lv_at hl 3 rfl) ?_
            refine va_get (D := (dC, dI)) (ci := 4) (v := .long (iL ((m_cb ln cn isI we ma sf w)).num)) (C := RX4) (T := TX4) (N := 22) hx hb hT hiX4 hown hK hP 0 rfl rfl 0 (by decide) (hT _ kf_X4_75) (fun _ h9 => h9) rfl dX4_findCredit_112 ?_
            refine lc_le (tgt := 125) hx hb dX4_findCredit_115 dX4_findCredit_116 (by decide) (fun c_115 => ?_) (fun c_115 => ?_)
            · have hz : m_sv sf w * ((m_cb ln cn isI we ma sf w).den : Int) ≤ (m_cb ln cn isI we ma sf w).num := (iL_le (by unfold rng; omega) (by unfold rng; omega)).mp c_115
              exact retM_v (S := Rat) (post := fun u => u = m_cr ln cn se isI we ma sf w) (w2 := fun u => mQ cI cZ k u ln cn tm se isI we br ma sf pa) (m_cb ln cn isI we ma sf w) hx hb hr hlocks (by first | simp only [m_cr, hz, c_13, c_36, c_40, c_92, c_102, c_115, i20, ↓reduceIte, Bool.false_eq_true, i10] | simp only [m_cr, c_13, c_36, c_40, c_92, c_102, c_115, i20, ↓reduceIte, Bool.false_eq_true, i10]) hP hK hD hS dX4_findCredit_125
            · have hz : ¬ m_sv sf w * ((m_cb ln cn isI we ma sf w).den : Int) ≤ (m_cb ln cn isI we ma sf w).num := fun h => c_115 ((iL_le (by unfold rng; omega) (by unfold rng; omega)).mpr h)
              refine lv_aload_n hx hb dX4_findCredit_119 rfl (lv_at hl 3 rfl) ?_
              refine lv_lload_n hx hb dX4_findCredit_120 rfl (lv_at hl 1 rfl) ?_
              refine lv_lconst (v := iL 1) hx hb dX4_findCredit_121 rfl ?_
              refine fM_v (wc := mQ cI cZ k (m_cb ln cn isI we ma sf w) ln cn tm se isI we br ma sf pa) (wr := []) (rMV (wc := mQ cI cZ k (m_cb ln cn isI we ma sf w) ln cn tm se isI we br ma sf pa) (As := [.long (iL (m_sv sf w)), .long (iL 1)]) (rest := []) ⟨hx, hb, hml, hown, hT⟩ (c_X4_makes (l := l) H.size (m_sv sf w) 1 (by unfold rng; omega) (by decide) rng_1) (cwTV 2 hT kc_X4_makes km_X4_78 ki_X4_makes ks_X4_makes kn_X4 rfl rfl md_X4_makes ⟨Nat.le_of_ble_eq_true rfl, Nat.le_of_ble_eq_true rfl⟩) hP hD hK (va_recv hK hP (ci := 4) (q0 := 0) rfl rfl) rfl hl.1 rfl (Nat.le_of_ble_eq_true rfl) dX4_findCredit_122 ⟨Nat.le_of_ble_eq_true rfl, Nat.le_of_ble_eq_true rfl⟩) hP hD hS hA (fun u_122 H locs hw_122 hP hD hS => ?_)
              have hP : va_P (dC, dI) vwCl (mQ cI cZ k (Rat.divInt (m_sv sf w) 1) ln cn tm se isI we br ma sf pa) H := hP
              have hD : va_D A (mQ cI cZ k (Rat.divInt (m_sv sf w) 1) ln cn tm se isI we br ma sf pa) := hD
              exact retM_v (S := Rat) (post := fun u => u = m_cr ln cn se isI we ma sf w) (w2 := fun u => mQ cI cZ k u ln cn tm se isI we br ma sf pa) (Rat.divInt (m_sv sf w) 1) hx hb hr hlocks (by first | simp only [m_cr, hz, c_13, c_36, c_40, c_92, c_102, c_115, i20, ↓reduceIte, Bool.false_eq_true, i10] | simp only [m_cr, c_13, c_36, c_40, c_92, c_102, c_115, i20, ↓reduceIte, Bool.false_eq_true, i10]) hP hK hD hS dX4_findCredit_125
      · refine lv_iconst (v := 1) hx hb dX4_findCredit_43 (by decide) ?_
        refine lv_goto (tgt := 48) hx hb dX4_findCredit_44 (by decide) ?_
        refine lv_istore (lv' := [(5, .int 1), (3, .long (iL (m_sv sf w))), (2, .int (m_blN cn isI we 6)), (0, .ref (k 0)), (1, .int (nI w))]) hx hb dX4_findCredit_48 hl (by decide) rfl (fun ls hl => ?_)
        refine lv_aload_n hx hb dX4_findCredit_50 rfl (lv_at hl 3 rfl) ?_
        refine lv_iload hx hb dX4_findCredit_51 (lv_at hl 0 rfl) ?_
        refine lv_if_eq (tgt := 71) hx hb dX4_findCredit_53 (by decide) (fun h => absurd h (by decide)) (fun c_53 => ?_)
        refine lv_aload_n hx hb dX4_findCredit_56 rfl (lv_at hl 3 rfl) ?_
        refine va_get (D := (dC, dI)) (ci := 4) (v := .int ln) (C := RX4) (T := TX4) (N := 22) hx hb hT hiX4 hown hK hP 0 rfl rfl 2 (by decide) (hT _ kf_X4_87) (fun _ h9 => h9) rfl dX4_findCredit_57 ?_
        refine lv_i2l (v := iL (ln : Int32).toInt) hx hb dX4_findCredit_60 rfl ?_
        refine lv_aload_n hx hb dX4_findCredit_61 rfl (lv_at hl 3 rfl) ?_
        refine lv_iload_n hx hb dX4_findCredit_62 rfl (lv_at hl 4 rfl) ?_
        refine vp_callSi (rRV (As := [.int (nI w)]) (rest := [.long (iL (ln : Int32).toInt), .ref (k 0)]) ⟨hx, hb, hml, hown, hT⟩ (c_X4_unitWeight (l := l) w (by first | assumption | omega) (by first | assumption | omega)) (cwTV 1 hT kc_X4_unitWeight km_X4_109 ki_X4_unitWeight ks_X4_unitWeight kn_X4 rfl rfl md_X4_unitWeight ⟨Nat.le_of_ble_eq_true rfl, Nat.le_of_ble_eq_true rfl⟩) hP hK (va_recv hK hP (ci := 4) (q0 := 0) rfl rfl) rfl hl.1 rfl (Nat.le_of_ble_eq_true rfl) dX4_findCredit_63 ⟨Nat.le_of_ble_eq_true rfl, Nat.le_of_ble_eq_true rfl⟩) (fun r_63 hw_63 => ?_)
        subst hw_63
        refine lv_i2l (v := iL (m_uw we ma w : Int32).toInt) hx hb dX4_findCredit_66 rfl ?_
        refine li_mul hx hb (a := ((ln : Int32).toInt)) (b := ((m_uw we ma w : Int32).toInt)) dX4_findCredit_67 ?_
        refine lv_goto (tgt := 72) hx hb dX4_findCredit_68 (by decide) ?_
        refine lv_iload hx hb dX4_findCredit_72 (lv_at hl 0 rfl) ?_
        refine lv_if_eq (tgt := 82) hx hb dX4_findCredit_74 (by decide) (fun h => absurd h (by decide)) (fun c_74 => ?_)
        refine lv_iload_n hx hb dX4_findCredit_77 rfl (lv_at hl 2 rfl) ?_
        refine lv_i2l (v := iL (m_blN cn isI we 6 : Int32).toInt) hx hb dX4_findCredit_78 rfl ?_
        refine lv_goto (tgt := 83) hx hb dX4_findCredit_79 (by decide) ?_
        refine fM_v (wc := mQ cI cZ k r ln cn tm se isI we br ma sf pa) (wr := []) (rMV (wc := mQ cI cZ k r ln cn tm se isI we br ma sf pa) (As := [.long (iL (((ln : Int32).toInt) * ((m_uw we ma w : Int32).toInt))), .long (iL (m_blN cn isI we 6 : Int32).toInt)]) (rest := []) ⟨hx, hb, hml, hown, hT⟩ (c_X4_makes (l := l) s.heap.size (((ln : Int32).toInt) * ((m_uw we ma w : Int32).toInt)) ((m_blN cn isI we 6 : Int32).toInt) (by first | exact rng_0 | (unfold rng; omega)) (by first | decide | (have := le0_of c_40; omega)) (by first | exact rng_1 | (unfold rng; omega))) (cwTV 2 hT kc_X4_makes km_X4_78 ki_X4_makes ks_X4_makes kn_X4 rfl rfl md_X4_makes ⟨Nat.le_of_ble_eq_true rfl, Nat.le_of_ble_eq_true rfl⟩) hP hD hK (va_recv hK hP (ci := 4) (q0 := 0) rfl rfl) rfl hl.1 rfl (Nat.le_of_ble_eq_true rfl) dX4_findCredit_83 ⟨Nat.le_of_ble_eq_true rfl, Nat.le_of_ble_eq_true rfl⟩) hP hD hS hA (fun u_83 H locs hw_83 hP hD hS => ?_)
        have hP : va_P (dC, dI) vwCl (mQ cI cZ k (Rat.divInt (((ln : Int32).toInt) * ((m_uw we ma w : Int32).toInt)) ((m_blN cn isI we 6 : Int32).toInt)) ln cn tm se isI we br ma sf pa) H := hP
        have hD : va_D A (mQ cI cZ k (Rat.divInt (((ln : Int32).toInt) * ((m_uw we ma w : Int32).toInt)) ((m_blN cn isI we 6 : Int32).toInt)) ln cn tm se isI we br ma sf pa) := hD
        rw [show (Rat.divInt (((ln : Int32).toInt) * ((m_uw we ma w : Int32).toInt)) ((m_blN cn isI we 6 : Int32).toInt)) = (m_cb ln cn isI we ma sf w) from (by simp only [m_cb, c_13, c_36, c_40, ↓reduceIte, Bool.false_eq_true, i10])] at hP hD
        have hP : va_P (dC, dI) vwCl (mQ cI cZ k (m_cb ln cn isI we ma sf w) ln cn tm se isI we br ma sf pa) H := hP
        have hD : va_D A (mQ cI cZ k (m_cb ln cn isI we ma sf w) ln cn tm se isI we br ma sf pa) := hD
        refine lv_aload_n hx hb dX4_findCredit_86 rfl (lv_at hl 3 rfl) ?_
        refine va_get (D := (dC, dI)) (ci := 4) (v := .ref (k 1)) (C := RX4) (T := TX4) (N := 22) hx hb hT hiX4 hown hK hP 0 rfl rfl 4 (by decide) (hT _ kf_X4_13) (fun _ h9 => h9) rfl dX4_findCredit_87 ?_
        refine lv_iconst (v := 0) hx hb dX4_findCredit_90 (by decide) ?_
        refine ald_i hx hb hK hP 1 0 rfl rfl (by decide) (w := 0) rfl (by decide) dX4_findCredit_91 ?_
        refine lv_if_eq (tgt := 119) hx hb dX4_findCredit_92 (by decide) (fun c_92 => ?_) (fun c_92 => ?_)
        · refine lv_aload_n hx hb dX4_findCredit_119 rfl (lv_at hl 3 rfl) ?_
          refine lv_lload_n hx hb dX4_findCredit_120 rfl (lv_at hl 1 rfl) ?_
          refine lv_lconst (v := iL 1) hx hb dX4_findCredit_121 rfl ?_
          refine fM_v (wc := mQ cI cZ k (m_cb ln cn isI we ma sf w) ln cn tm se isI we br ma sf pa) (wr := []) (rMV (wc := mQ cI cZ k (m_cb ln cn isI we ma sf w) ln cn tm se isI we br ma sf pa) (As := [.long (iL (m_sv sf w)), .long (iL 1)]) (rest := []) ⟨hx, hb, hml, hown, hT⟩ (c_X4_makes (l := l) H.size (m_sv sf w) 1 (by unfold rng; omega) (by decide) rng_1) (cwTV 2 hT kc_X4_makes km_X4_78 ki_X4_makes ks_X4_makes kn_X4 rfl rfl md_X4_makes ⟨Nat.le_of_ble_eq_true rfl, Nat.le_of_ble_eq_true rfl⟩) hP hD hK (va_recv hK hP (ci := 4) (q0 := 0) rfl rfl) rfl hl.1 rfl (Nat.le_of_ble_eq_true rfl) dX4_findCredit_122 ⟨Nat.le_of_ble_eq_true rfl, Nat.le_of_ble_eq_true rfl⟩) hP hD hS hA (fun u_122 H locs hw_122 hP hD hS => ?_)
          have hP : va_P (dC, dI) vwCl (mQ cI cZ k (Rat.divInt (m_sv sf w) 1) ln cn tm se isI we br ma sf pa) H := hP
          have hD : va_D A (mQ cI cZ k (Rat.divInt (m_sv sf w) 1) ln cn tm se isI we br ma sf pa) := hD
          exact retM_v (S := Rat) (post := fun u => u = m_cr ln cn se isI we ma sf w) (w2 := fun u => mQ cI cZ k u ln cn tm se isI we br ma sf pa) (Rat.divInt (m_sv sf w) 1) hx hb hr hlocks (by first | simp only [m_cr, hz, c_13, c_36, c_40, c_92, i20, ↓reduceIte, Bool.false_eq_true, i10] | simp only [m_cr, c_13, c_36, c_40, c_92, i20, ↓reduceIte, Bool.false_eq_true, i10]) hP hK hD hS dX4_findCredit_125
        · refine lv_aload_n hx hb dX4_findCredit_95 rfl (lv_at hl 3 rfl) ?_
          refine va_get (D := (dC, dI)) (ci := 4) (v := .ref (k 1)) (C := RX4) (T := TX4) (N := 22) hx hb hT hiX4 hown hK hP 0 rfl rfl 4 (by decide) (hT _ kf_X4_13) (fun _ h9 => h9) rfl dX4_findCredit_96 ?_
          refine lv_iconst (v := 0) hx hb dX4_findCredit_99 (by decide) ?_
          refine ald_i hx hb hK hP 1 0 rfl rfl (by decide) (w := 0) rfl (by decide) dX4_findCredit_100 ?_
          refine lv_iconst (v := 2) hx hb dX4_findCredit_101 (by decide) ?_
          refine lv_icmp_ne (tgt := 125) hx hb dX4_findCredit_102 (by decide) (fun c_102 => ?_) (fun c_102 => ?_)
          · exact retM_v (S := Rat) (post := fun u => u = m_cr ln cn se isI we ma sf w) (w2 := fun u => mQ cI cZ k u ln cn tm se isI we br ma sf pa) (m_cb ln cn isI we ma sf w) hx hb hr hlocks (by first | simp only [m_cr, hz, c_13, c_36, c_40, c_92, c_102, i20, ↓reduceIte, Bool.false_eq_true, i10] | simp only [m_cr, c_13, c_36, c_40, c_92, c_102, i20, ↓reduceIte, Bool.false_eq_true, i10]) hP hK hD hS dX4_findCredit_125
          · refine lv_lload_n hx hb dX4_findCredit_105 rfl (lv_at hl 1 rfl) ?_
            refine lv_aload_n hx hb dX4_findCredit_106 rfl (lv_at hl 3 rfl) ?_
            refine va_get (D := (dC, dI)) (ci := 4) (v := .long (iL (((m_cb ln cn isI we ma sf w)).den : Int))) (C := RX4) (T := TX4) (N := 22) hx hb hT hiX4 hown hK hP 0 rfl rfl 1 (by decide) (hT _ kf_X4_7) (fun _ h9 => h9) rfl dX4_findCredit_107 ?_
            refine li_mul hx hb (a := (m_sv sf w)) (b := (((m_cb ln cn isI we ma sf w)).den : Int)) dX4_findCredit_110 ?_
            refine lv_aload_n hx hb dX4_findCredit_111 rfl (lv_at hl 3 rfl) ?_
            refine va_get (D := (dC, dI)) (ci := 4) (v := .long (iL ((m_cb ln cn isI we ma sf w)).num)) (C := RX4) (T := TX4) (N := 22) hx hb hT hiX4 hown hK hP 0 rfl rfl 0 (by decide) (hT _ kf_X4_75) (fun _ h9 => h9) rfl dX4_findCredit_112 ?_
            refine lc_le (tgt := 125) hx hb dX4_findCredit_115 dX4_findCredit_116 (by decide) (fun c_115 => ?_) (fun c_115 => ?_)
            · have hz : m_sv sf w * ((m_cb ln cn isI we ma sf w).den : Int) ≤ (m_cb ln cn isI we ma sf w).num := (iL_le (by unfold rng; omega) (by unfold rng; omega)).mp c_115
              exact retM_v (S := Rat) (post := fun u => u = m_cr ln cn se isI we ma sf w) (w2 := fun u => mQ cI cZ k u ln cn tm se isI we br ma sf pa) (m_cb ln cn isI we ma sf w) hx hb hr hlocks (by first | simp only [m_cr, hz, c_13, c_36, c_40, c_92, c_102, c_115, i20, ↓reduceIte, Bool.false_eq_true, i10] | simp only [m_cr, c_13, c_36, c_40, c_92, c_102, c_115, i20, ↓reduceIte, Bool.false_eq_true, i10]) hP hK hD hS dX4_findCredit_125
            · have hz : ¬ m_sv sf w * ((m_cb ln cn isI we ma sf w).den : Int) ≤ (m_cb ln cn isI we ma sf w).num := fun h => c_115 ((iL_le (by unfold rng; omega) (by unfold rng; omega)).mpr h)
              refine lv_aload_n hx hb dX4_findCredit_119 rfl (lv_at hl 3 rfl) ?_
              refine lv_lload_n hx hb dX4_findCredit_120 rfl (lv_at hl 1 rfl) ?_
              refine lv_lconst (v := iL 1) hx hb dX4_findCredit_121 rfl ?_
              refine fM_v (wc := mQ cI cZ k (m_cb ln cn isI we ma sf w) ln cn tm se isI we br ma sf pa) (wr := []) (rMV (wc := mQ cI cZ k (m_cb ln cn isI we ma sf w) ln cn tm se isI we br ma sf pa) (As := [.long (iL (m_sv sf w)), .long (iL 1)]) (rest := []) ⟨hx, hb, hml, hown, hT⟩ (c_X4_makes (l := l) H.size (m_sv sf w) 1 (by unfold rng; omega) (by decide) rng_1) (cwTV 2 hT kc_X4_makes km_X4_78 ki_X4_makes ks_X4_makes kn_X4 rfl rfl md_X4_makes ⟨Nat.le_of_ble_eq_true rfl, Nat.le_of_ble_eq_true rfl⟩) hP hD hK (va_recv hK hP (ci := 4) (q0 := 0) rfl rfl) rfl hl.1 rfl (Nat.le_of_ble_eq_true rfl) dX4_findCredit_122 ⟨Nat.le_of_ble_eq_true rfl, Nat.le_of_ble_eq_true rfl⟩) hP hD hS hA (fun u_122 H locs hw_122 hP hD hS => ?_)
              have hP : va_P (dC, dI) vwCl (mQ cI cZ k (Rat.divInt (m_sv sf w) 1) ln cn tm se isI we br ma sf pa) H := hP
              have hD : va_D A (mQ cI cZ k (Rat.divInt (m_sv sf w) 1) ln cn tm se isI we br ma sf pa) := hD
              exact retM_v (S := Rat) (post := fun u => u = m_cr ln cn se isI we ma sf w) (w2 := fun u => mQ cI cZ k u ln cn tm se isI we br ma sf pa) (Rat.divInt (m_sv sf w) 1) hx hb hr hlocks (by first | simp only [m_cr, hz, c_13, c_36, c_40, c_92, c_102, c_115, i20, ↓reduceIte, Bool.false_eq_true, i10] | simp only [m_cr, c_13, c_36, c_40, c_92, c_102, c_115, i20, ↓reduceIte, Bool.false_eq_true, i10]) hP hK hD hS dX4_findCredit_125
  · refine lv_lconst (v := iL 0) hx hb dX4_findCredit_16 rfl ?_
    refine topl_eq (y := (iL (m_sv sf w))) (by simp only [m_sv, c_13, ↓reduceIte, Bool.false_eq_true, i10]) ?_
    refine lv_goto (tgt := 27) hx hb dX4_findCredit_17 (by decide) ?_
    refine lv_lstore_n (lv' := [(3, .long (iL (m_sv sf w))), (2, .int (m_blN cn isI we 6)), (0, .ref (k 0)), (1, .int (nI w))]) hx hb dX4_findCredit_27 rfl hl (by decide) rfl (fun ls hl => ?_)
    refine lv_aload_n hx hb dX4_findCredit_28 rfl (lv_at hl 2 rfl) ?_
    refine va_get (D := (dC, dI)) (ci := 4) (v := .ref (k 6)) (C := RX4) (T := TX4) (N := 22) hx hb hT hiX4 hown hK hP 0 rfl rfl 9 (by decide) (hT _ kf_X4_30) (fun _ h9 => h9) rfl dX4_findCredit_29 ?_
    refine lv_iload_n hx hb dX4_findCredit_32 rfl (lv_at hl 3 rfl) ?_
    refine ald_i hx hb hK hP 6 0 rfl rfl (by decide) (w := w) rfl (by omega) dX4_findCredit_33 ?_
    refine lv_bipush (v := (-9)) hx hb dX4_findCredit_34 (by decide) ?_
    refine lv_icmp_eq (tgt := 47) hx hb dX4_findCredit_36 (by decide) (fun c_36 => ?_) (fun c_36 => ?_)
    · refine lv_iconst (v := 0) hx hb dX4_findCredit_47 (by decide) ?_
      refine lv_istore (lv' := [(5, .int 0), (3, .long (iL (m_sv sf w))), (2, .int (m_blN cn isI we 6)), (0, .ref (k 0)), (1, .int (nI w))]) hx hb dX4_findCredit_48 hl (by decide) rfl (fun ls hl => ?_)
      refine lv_aload_n hx hb dX4_findCredit_50 rfl (lv_at hl 3 rfl) ?_
      refine lv_iload hx hb dX4_findCredit_51 (lv_at hl 0 rfl) ?_
      refine lv_if_eq (tgt := 71) hx hb dX4_findCredit_53 (by decide) (fun c_53 => ?_) (fun h => absurd h (by decide))
      refine lv_lconst (v := iL 0) hx hb dX4_findCredit_71 rfl ?_
      refine lv_iload hx hb dX4_findCredit_72 (lv_at hl 0 rfl) ?_
      refine lv_if_eq (tgt := 82) hx hb dX4_findCredit_74 (by decide) (fun c_74 => ?_) (fun h => absurd h (by decide))
      refine lv_lconst (v := iL 1) hx hb dX4_findCredit_82 rfl ?_
      refine fM_v (wc := mQ cI cZ k r ln cn tm se isI we br ma sf pa) (wr := []) (rMV (wc := mQ cI cZ k r ln cn tm se isI we br ma sf pa) (As := [.long (iL 0), .long (iL 1)]) (rest := []) ⟨hx, hb, hml, hown, hT⟩ (c_X4_makes (l := l) s.heap.size 0 1 (by first | exact rng_0 | (unfold rng; omega)) (by first | decide | (have := le0_of c_40; omega)) (by first | exact rng_1 | (unfold rng; omega))) (cwTV 2 hT kc_X4_makes km_X4_78 ki_X4_makes ks_X4_makes kn_X4 rfl rfl md_X4_makes ⟨Nat.le_of_ble_eq_true rfl, Nat.le_of_ble_eq_true rfl⟩) hP hD hK (va_recv hK hP (ci := 4) (q0 := 0) rfl rfl) rfl hl.1 rfl (Nat.le_of_ble_eq_true rfl) dX4_findCredit_83 ⟨Nat.le_of_ble_eq_true rfl, Nat.le_of_ble_eq_true rfl⟩) hP hD hS hA (fun u_83 H locs hw_83 hP hD hS => ?_)
      have hP : va_P (dC, dI) vwCl (mQ cI cZ k (Rat.divInt 0 1) ln cn tm se isI we br ma sf pa) H := hP
      have hD : va_D A (mQ cI cZ k (Rat.divInt 0 1) ln cn tm se isI we br ma sf pa) := hD
      rw [show (Rat.divInt 0 1) = (m_cb ln cn isI we ma sf w) from (by simp only [m_cb, c_13, c_36, ↓reduceIte, Bool.false_eq_true, i10])] at hP hD
      have hP : va_P (dC, dI) vwCl (mQ cI cZ k (m_cb ln cn isI we ma sf w) ln cn tm se isI we br ma sf pa) H := hP
      have hD : va_D A (mQ cI cZ k (m_cb ln cn isI we ma sf w) ln cn tm se isI we br ma sf pa) := hD
      refine lv_aload_n hx hb dX4_findCredit_86 rfl (lv_at hl 3 rfl) ?_
      refine va_get (D := (dC, dI)) (ci := 4) (v := .ref (k 1)) (C := RX4) (T := TX4) (N := 22) hx hb hT hiX4 hown hK hP 0 rfl rfl 4 (by decide) (hT _ kf_X4_13) (fun _ h9 => h9) rfl dX4_findCredit_87 ?_
      refine lv_iconst (v := 0) hx hb dX4_findCredit_90 (by decide) ?_
      refine ald_i hx hb hK hP 1 0 rfl rfl (by decide) (w := 0) rfl (by decide) dX4_findCredit_91 ?_
      refine lv_if_eq (tgt := 119) hx hb dX4_findCredit_92 (by decide) (fun c_92 => ?_) (fun c_92 => ?_)
      · refine lv_aload_n hx hb dX4_findCredit_119 rfl (lv_at hl 3 rfl) ?_
        refine lv_lload_n hx hb dX4_findCredit_120 rfl (lv_at hl 1 rfl) ?_
        refine lv_lconst (v := iL 1) hx hb dX4_findCredit_121 rfl ?_
        refine fM_v (wc := mQ cI cZ k (m_cb ln cn isI we ma sf w) ln cn tm se isI we br ma sf pa) (wr := []) (rMV (wc := mQ cI cZ k (m_cb ln cn isI we ma sf w) ln cn tm se isI we br ma sf pa) (As := [.long (iL (m_sv sf w)), .long (iL 1)]) (rest := []) ⟨hx, hb, hml, hown, hT⟩ (c_X4_makes (l := l) H.size (m_sv sf w) 1 (by unfold rng; omega) (by decide) rng_1) (cwTV 2 hT kc_X4_makes km_X4_78 ki_X4_makes ks_X4_makes kn_X4 rfl rfl md_X4_makes ⟨Nat.le_of_ble_eq_true rfl, Nat.le_of_ble_eq_true rfl⟩) hP hD hK (va_recv hK hP (ci := 4) (q0 := 0) rfl rfl) rfl hl.1 rfl (Nat.le_of_ble_eq_true rfl) dX4_findCredit_122 ⟨Nat.le_of_ble_eq_true rfl, Nat.le_of_ble_eq_true rfl⟩) hP hD hS hA (fun u_122 H locs hw_122 hP hD hS => ?_)
        have hP : va_P (dC, dI) vwCl (mQ cI cZ k (Rat.divInt (m_sv sf w) 1) ln cn tm se isI we br ma sf pa) H := hP
        have hD : va_D A (mQ cI cZ k (Rat.divInt (m_sv sf w) 1) ln cn tm se isI we br ma sf pa) := hD
        exact retM_v (S := Rat) (post := fun u => u = m_cr ln cn se isI we ma sf w) (w2 := fun u => mQ cI cZ k u ln cn tm se isI we br ma sf pa) (Rat.divInt (m_sv sf w) 1) hx hb hr hlocks (by first | simp only [m_cr, hz, c_13, c_36, c_92, i20, ↓reduceIte, Bool.false_eq_true, i10] | simp only [m_cr, c_13, c_36, c_92, i20, ↓reduceIte, Bool.false_eq_true, i10]) hP hK hD hS dX4_findCredit_125
      · refine lv_aload_n hx hb dX4_findCredit_95 rfl (lv_at hl 3 rfl) ?_
        refine va_get (D := (dC, dI)) (ci := 4) (v := .ref (k 1)) (C := RX4) (T := TX4) (N := 22) hx hb hT hiX4 hown hK hP 0 rfl rfl 4 (by decide) (hT _ kf_X4_13) (fun _ h9 => h9) rfl dX4_findCredit_96 ?_
        refine lv_iconst (v := 0) hx hb dX4_findCredit_99 (by decide) ?_
        refine ald_i hx hb hK hP 1 0 rfl rfl (by decide) (w := 0) rfl (by decide) dX4_findCredit_100 ?_
        refine lv_iconst (v := 2) hx hb dX4_findCredit_101 (by decide) ?_
        refine lv_icmp_ne (tgt := 125) hx hb dX4_findCredit_102 (by decide) (fun c_102 => ?_) (fun c_102 => ?_)
        · exact retM_v (S := Rat) (post := fun u => u = m_cr ln cn se isI we ma sf w) (w2 := fun u => mQ cI cZ k u ln cn tm se isI we br ma sf pa) (m_cb ln cn isI we ma sf w) hx hb hr hlocks (by first | simp only [m_cr, hz, c_13, c_36, c_92, c_102, i20, ↓reduceIte, Bool.false_eq_true, i10] | simp only [m_cr, c_13, c_36, c_92, c_102, i20, ↓reduceIte, Bool.false_eq_true, i10]) hP hK hD hS dX4_findCredit_125
        · refine lv_lload_n hx hb dX4_findCredit_105 rfl (lv_at hl 1 rfl) ?_
          refine lv_aload_n hx hb dX4_findCredit_106 rfl (lv_at hl 3 rfl) ?_
          refine va_get (D := (dC, dI)) (ci := 4) (v := .long (iL (((m_cb ln cn isI we ma sf w)).den : Int))) (C := RX4) (T := TX4) (N := 22) hx hb hT hiX4 hown hK hP 0 rfl rfl 1 (by decide) (hT _ kf_X4_7) (fun _ h9 => h9) rfl dX4_findCredit_107 ?_
          refine li_mul hx hb (a := (m_sv sf w)) (b := (((m_cb ln cn isI we ma sf w)).den : Int)) dX4_findCredit_110 ?_
          refine lv_aload_n hx hb dX4_findCredit_111 rfl (lv_at hl 3 rfl) ?_
          refine va_get (D := (dC, dI)) (ci := 4) (v := .long (iL ((m_cb ln cn isI we ma sf w)).num)) (C := RX4) (T := TX4) (N := 22) hx hb hT hiX4 hown hK hP 0 rfl rfl 0 (by decide) (hT _ kf_X4_75) (fun _ h9 => h9) rfl dX4_findCredit_112 ?_
          refine lc_le (tgt := 125) hx hb dX4_findCredit_115 dX4_findCredit_116 (by decide) (fun c_115 => ?_) (fun c_115 => ?_)
          · have hz : m_sv sf w * ((m_cb ln cn isI we ma sf w).den : Int) ≤ (m_cb ln cn isI we ma sf w).num := (iL_le (by unfold rng; omega) (by unfold rng; omega)).mp c_115
            exact retM_v (S := Rat) (post := fun u => u = m_cr ln cn se isI we ma sf w) (w2 := fun u => mQ cI cZ k u ln cn tm se isI we br ma sf pa) (m_cb ln cn isI we ma sf w) hx hb hr hlocks (by first | simp only [m_cr, hz, c_13, c_36, c_92, c_102, c_115, i20, ↓reduceIte, Bool.false_eq_true, i10] | simp only [m_cr, c_13, c_36, c_92, c_102, c_115, i20, ↓reduceIte, Bool.false_eq_true, i10]) hP hK hD hS dX4_findCredit_125
          · have hz : ¬ m_sv sf w * ((m_cb ln cn isI we ma sf w).den : Int) ≤ (m_cb ln cn isI we ma sf w).num := fun h => c_115 ((iL_le (by unfold rng; omega) (by unfold rng; omega)).mpr h)
            refine lv_aload_n hx hb dX4_findCredit_119 rfl (lv_at hl 3 rfl) ?_
            refine lv_lload_n hx hb dX4_findCredit_120 rfl (lv_at hl 1 rfl) ?_
            refine lv_lconst (v := iL 1) hx hb dX4_findCredit_121 rfl ?_
            refine fM_v (wc := mQ cI cZ k (m_cb ln cn isI we ma sf w) ln cn tm se isI we br ma sf pa) (wr := []) (rMV (wc := mQ cI cZ k (m_cb ln cn isI we ma sf w) ln cn tm se isI we br ma sf pa) (As := [.long (iL (m_sv sf w)), .long (iL 1)]) (rest := []) ⟨hx, hb, hml, hown, hT⟩ (c_X4_makes (l := l) H.size (m_sv sf w) 1 (by unfold rng; omega) (by decide) rng_1) (cwTV 2 hT kc_X4_makes km_X4_78 ki_X4_makes ks_X4_makes kn_X4 rfl rfl md_X4_makes ⟨Nat.le_of_ble_eq_true rfl, Nat.le_of_ble_eq_true rfl⟩) hP hD hK (va_recv hK hP (ci := 4) (q0 := 0) rfl rfl) rfl hl.1 rfl (Nat.le_of_ble_eq_true rfl) dX4_findCredit_122 ⟨Nat.le_of_ble_eq_true rfl, Nat.le_of_ble_eq_true rfl⟩) hP hD hS hA (fun u_122 H locs hw_122 hP hD hS => ?_)
            have hP : va_P (dC, dI) vwCl (mQ cI cZ k (Rat.divInt (m_sv sf w) 1) ln cn tm se isI we br ma sf pa) H := hP
            have hD : va_D A (mQ cI cZ k (Rat.divInt (m_sv sf w) 1) ln cn tm se isI we br ma sf pa) := hD
            exact retM_v (S := Rat) (post := fun u => u = m_cr ln cn se isI we ma sf w) (w2 := fun u => mQ cI cZ k u ln cn tm se isI we br ma sf pa) (Rat.divInt (m_sv sf w) 1) hx hb hr hlocks (by first | simp only [m_cr, hz, c_13, c_36, c_92, c_102, c_115, i20, ↓reduceIte, Bool.false_eq_true, i10] | simp only [m_cr, c_13, c_36, c_92, c_102, c_115, i20, ↓reduceIte, Bool.false_eq_true, i10]) hP hK hD hS dX4_findCredit_125
    · exact absurd c_13 c_36
