variable {l : Launch} {dC : Nat → ClassId} {dI : Nat → Nat → Nat} {cI cJ cZ : ClassId}
variable {q : Nat → Nat} {ln cw ic bs ss : Int32} {se we un sf pa : Nat → Int32}
variable {ct : Int32} {ov gf : Nat → Int64} {gi ta : Nat → Int32}
variable {k : Nat → Nat} {r : Rat} {up lo : Int64} {cn tm : Int32} {isI br ma : Nat → Int32} {aU aL uU uL oU oL gU gL : Nat → Int64}

abbrev MS : Type := Int32 × Int32 × (Nat → Int32) × (Nat → Int32) × (Nat → Int32) × (Nat → Int32) × (Nat → Int32) × (Nat → Int32) × (Nat → Int32)
abbrev mWt (cI cZ : ClassId) (k : Nat → Nat) (up lo : Int64) (tm : Int32) (u : MS) : va_W := mW cI cZ k up lo u.1 u.2.1 tm u.2.2.1 u.2.2.2.1 u.2.2.2.2.1 u.2.2.2.2.2.1 u.2.2.2.2.2.2.1 u.2.2.2.2.2.2.2.1 u.2.2.2.2.2.2.2.2
theorem m_in6 {isI : Nat → Int32} (h : ∀ j, j < 6 → ¬ isI j = 0) : m_inN isI 6 = 6 := by
  have e : ∀ i, i ≤ 6 → m_inN isI i = nI i := by
    intro i
    induction i with
    | zero => intro _; rfl
    | succ i ih =>
      intro hi
      show m_inN isI i + (if isI i = 0 then 0 else 1) = _
      rw [ih (by omega), if_neg (h i (by omega)), nI_1]
  exact e 6 (Nat.le_refl _)
theorem th3_of {v : Int32} (h : 0 ≤ v ∧ v ≤ 2) : ∃ j : Nat, j < 3 ∧ v = nI j := by
  obtain ⟨j, hj, rfl⟩ := nI_of2 (M := 2) (n := 2) rfl (Int32.not_lt.mpr h.1) h.2
  exact ⟨j, by omega, rfl⟩
set_option maxHeartbeats 4000000 in
set_option maxRecDepth 100000 in
theorem c_X4_loss (sz : Nat) (v : Int32) : Met l yX4_loss (wT yX4_loss cX4_loss 3 (some .int)) ({ frames := 1, cells := 0, slots := 0, locals := 22 }) (pM (dC, dI) (ty3 cI cJ cZ) (mW cI cZ k up lo ln cn tm se isI we br ma sf pa) [.ref (k 0), .int v] sz) (va_Qi (S := MS) (fun r u => ((0 ≤ v ∧ v ≤ 1000000) ∧ r = ln ∧ u = (v, cn, se, isI, we, br, ma, sf, pa)) ∨ (¬ (0 ≤ v ∧ v ≤ 1000000) ∧ r = -2 ∧ u = (ln, cn, se, isI, we, br, ma, sf, pa))) (fun u t9 => bM (dC, dI) (ty3 cI cJ cZ) (va_A (mW cI cZ k up lo ln cn tm se isI we br ma sf pa) sz) (mWt cI cZ k up lo tm u) t9) (va_A (mW cI cZ k up lo ln cn tm se isI we br ma sf pa) sz)) 0 0 (va_A (mW cI cZ k up lo ln cn tm se isI we br ma sf pa) sz) := by
  refine Met.ofW (cc := cX4_loss) (maxL := 3) (ret := (some .int)) (by decide) rfl ?_
  intro p e s m args below meth c s₁ B hml hv
  obtain ⟨rfl, hsz, hP, hK, hD0⟩ := hv
  have hx := B.exec
  have hb := B.bytes
  have hr := B.returns
  have hts := atoms_spec (ws := wT yX4_loss cX4_loss 3 (some .int)) B.pre
  have hT := wT_T hts
  have hown : s.vm.findClass RX4 = some m.cls := findClass_of_methodNamed B.named
  have hlocks := B.notSynchronized
  subst hsz
  have hD := hD0.self (sz := s.heap.size)
  generalize hAe : va_A (mW cI cZ k up lo ln cn tm se isI we br ma sf pa) s.heap.size = A at hD ⊢
  have hA : ∀ q : Nat, s.heap.size ≤ q → A q := fun q h => by rw [← hAe]; exact Or.inr h
  have hS : va_S A s.heap s.heap [] := va_S.rf
  have hl := lv_entry ([.ref (k 0), .int v]) (n := 3) (Nat.le_of_ble_eq_true rfl)
  rw [lg_entry_eq]
  generalize (lg_sl ([.ref (k 0), .int v]) ++ List.replicate (3 - (lg_sl ([.ref (k 0), .int v])).length) Slot.unset).toArray = ls at hl ⊢
  have hl : lv_has ls 3 [(0, .ref (k 0)), (1, .int v)] := hl
  refine lv_iload_n hx hb dX4_loss_0 rfl (lv_at hl 1 rfl) ?_
  refine lv_iconst (v := 0) hx hb dX4_loss_1 (by decide) ?_
  refine lv_ldc hx hb hown (hT _ kk_X4_86) dX4_loss_2 ?_
  refine vp_callSi (rRS (As := [.int v, .int 0, .int 1000000]) (rest := []) ⟨hx, hb, hml, hown, hT⟩ (c_X4_within (l := l) v 0 1000000) (cwTS 3 hT kc_X4_within km_X4_82 kt_X4_within kn_X4 rfl rfl md_X4_within ⟨Nat.le_of_ble_eq_true rfl, Nat.le_of_ble_eq_true rfl⟩) nilP hK  rfl hl.1 rfl (Nat.le_of_ble_eq_true rfl) dX4_loss_4 ⟨Nat.le_of_ble_eq_true rfl, Nat.le_of_ble_eq_true rfl⟩) (fun r_4 hw_4 => ?_)
  rcases hw_4 with ⟨rfl, hw_4⟩ | ⟨rfl, hw_4⟩
  · refine lv_if_ne (tgt := 13) hx hb dX4_loss_7 (by decide) (fun c_7 => ?_) (fun h => absurd h (by decide))
    refine lv_aload_n hx hb dX4_loss_13 rfl (lv_at hl 0 rfl) ?_
    refine va_get (D := (dC, dI)) (ci := 4) (v := .int ln) (C := RX4) (T := TX4) (N := 22) hx hb hT hiX4 hown hK hP 0 rfl rfl 2 (by decide) (hT _ kf_X4_87) (fun _ h9 => h9) rfl dX4_loss_14 ?_
    refine lv_istore_n (lv' := [(2, .int ln), (0, .ref (k 0)), (1, .int v)]) hx hb dX4_loss_17 rfl hl (by decide) rfl (fun ls hl => ?_)
    refine lv_aload_n hx hb dX4_loss_18 rfl (lv_at hl 1 rfl) ?_
    refine lv_iload_n hx hb dX4_loss_19 rfl (lv_at hl 2 rfl) ?_
    refine va_put (D := (dC, dI)) (ci := 4) (v := .int v) (ty := .int) (C := RX4) (T := TX4) (N := 22) hx hb hT hiX4 tyX4 tyX4_ok nmX4 hown hK hP hD hS 0 rfl rfl 2 (by decide) (hT _ kf_X4_87) (fun _ h9 => h9) rfl (by decide +kernel) rfl rfl (Nat.le_of_ble_eq_true rfl) dX4_loss_20 (fun H locs hP hD hS => ?_)
    have hP : va_P (dC, dI) vwCl (mW cI cZ k up lo v cn tm se isI we br ma sf pa) H := hP
    have hD : va_D A (mW cI cZ k up lo v cn tm se isI we br ma sf pa) := hD
    refine lv_iload_n hx hb dX4_loss_23 rfl (lv_at hl 0 rfl) ?_
    exact retM_i (S := MS) (post := fun r u => ((0 ≤ v ∧ v ≤ 1000000) ∧ r = ln ∧ u = (v, cn, se, isI, we, br, ma, sf, pa)) ∨ (¬ (0 ≤ v ∧ v ≤ 1000000) ∧ r = -2 ∧ u = (ln, cn, se, isI, we, br, ma, sf, pa))) (w2 := fun u => mWt cI cZ k up lo tm u) (v, cn, se, isI, we, br, ma, sf, pa) hx hb hr hlocks (by first | exact Or.inl ⟨hw_4, rfl, rfl⟩ | exact Or.inr ⟨hw_4, rfl, rfl⟩) hP hK hD hS dX4_loss_24
  · refine lv_if_ne (tgt := 13) hx hb dX4_loss_7 (by decide) (fun h => absurd h (by decide)) (fun c_7 => ?_)
    refine lv_bipush (v := (-2)) hx hb dX4_loss_10 (by decide) ?_
    exact retM_i (S := MS) (post := fun r u => ((0 ≤ v ∧ v ≤ 1000000) ∧ r = ln ∧ u = (v, cn, se, isI, we, br, ma, sf, pa)) ∨ (¬ (0 ≤ v ∧ v ≤ 1000000) ∧ r = -2 ∧ u = (ln, cn, se, isI, we, br, ma, sf, pa))) (w2 := fun u => mWt cI cZ k up lo tm u) (ln, cn, se, isI, we, br, ma, sf, pa) hx hb hr hlocks (by first | exact Or.inl ⟨hw_4, rfl, rfl⟩ | exact Or.inr ⟨hw_4, rfl, rfl⟩) hP hK hD hS dX4_loss_12
set_option maxHeartbeats 4000000 in
set_option maxRecDepth 100000 in
theorem c_X4_claimant (sz : Nat) (v : Int32) : Met l yX4_claimant (wT yX4_claimant cX4_claimant 3 (some .int)) ({ frames := 1, cells := 0, slots := 0, locals := 22 }) (pM (dC, dI) (ty3 cI cJ cZ) (mW cI cZ k up lo ln cn tm se isI we br ma sf pa) [.ref (k 0), .int v] sz) (va_Qi (S := MS) (fun r u => ((0 ≤ v ∧ v ≤ 100) ∧ r = cn ∧ u = (ln, v, se, isI, we, br, ma, sf, pa)) ∨ (¬ (0 ≤ v ∧ v ≤ 100) ∧ r = -2 ∧ u = (ln, cn, se, isI, we, br, ma, sf, pa))) (fun u t9 => bM (dC, dI) (ty3 cI cJ cZ) (va_A (mW cI cZ k up lo ln cn tm se isI we br ma sf pa) sz) (mWt cI cZ k up lo tm u) t9) (va_A (mW cI cZ k up lo ln cn tm se isI we br ma sf pa) sz)) 0 0 (va_A (mW cI cZ k up lo ln cn tm se isI we br ma sf pa) sz) := by
  refine Met.ofW (cc := cX4_claimant) (maxL := 3) (ret := (some .int)) (by decide) rfl ?_
  intro p e s m args below meth c s₁ B hml hv
  obtain ⟨rfl, hsz, hP, hK, hD0⟩ := hv
  have hx := B.exec
  have hb := B.bytes
  have hr := B.returns
  have hts := atoms_spec (ws := wT yX4_claimant cX4_claimant 3 (some .int)) B.pre
  have hT := wT_T hts
  have hown : s.vm.findClass RX4 = some m.cls := findClass_of_methodNamed B.named
  have hlocks := B.notSynchronized
  subst hsz
  have hD := hD0.self (sz := s.heap.size)
  generalize hAe : va_A (mW cI cZ k up lo ln cn tm se isI we br ma sf pa) s.heap.size = A at hD ⊢
  have hA : ∀ q : Nat, s.heap.size ≤ q → A q := fun q h => by rw [← hAe]; exact Or.inr h
  have hS : va_S A s.heap s.heap [] := va_S.rf
  have hl := lv_entry ([.ref (k 0), .int v]) (n := 3) (Nat.le_of_ble_eq_true rfl)
  rw [lg_entry_eq]
  generalize (lg_sl ([.ref (k 0), .int v]) ++ List.replicate (3 - (lg_sl ([.ref (k 0), .int v])).length) Slot.unset).toArray = ls at hl ⊢
  have hl : lv_has ls 3 [(0, .ref (k 0)), (1, .int v)] := hl
  refine lv_iload_n hx hb dX4_claimant_0 rfl (lv_at hl 1 rfl) ?_
  refine lv_iconst (v := 0) hx hb dX4_claimant_1 (by decide) ?_
  refine lv_bipush (v := 100) hx hb dX4_claimant_2 (by decide) ?_
  refine vp_callSi (rRS (As := [.int v, .int 0, .int 100]) (rest := []) ⟨hx, hb, hml, hown, hT⟩ (c_X4_within (l := l) v 0 100) (cwTS 3 hT kc_X4_within km_X4_82 kt_X4_within kn_X4 rfl rfl md_X4_within ⟨Nat.le_of_ble_eq_true rfl, Nat.le_of_ble_eq_true rfl⟩) nilP hK  rfl hl.1 rfl (Nat.le_of_ble_eq_true rfl) dX4_claimant_4 ⟨Nat.le_of_ble_eq_true rfl, Nat.le_of_ble_eq_true rfl⟩) (fun r_4 hw_4 => ?_)
  rcases hw_4 with ⟨rfl, hw_4⟩ | ⟨rfl, hw_4⟩
  · refine lv_if_ne (tgt := 13) hx hb dX4_claimant_7 (by decide) (fun c_7 => ?_) (fun h => absurd h (by decide))
    refine lv_aload_n hx hb dX4_claimant_13 rfl (lv_at hl 0 rfl) ?_
    refine va_get (D := (dC, dI)) (ci := 4) (v := .int cn) (C := RX4) (T := TX4) (N := 22) hx hb hT hiX4 hown hK hP 0 rfl rfl 3 (by decide) (hT _ kf_X4_91) (fun _ h9 => h9) rfl dX4_claimant_14 ?_
    refine lv_istore_n (lv' := [(2, .int cn), (0, .ref (k 0)), (1, .int v)]) hx hb dX4_claimant_17 rfl hl (by decide) rfl (fun ls hl => ?_)
    refine lv_aload_n hx hb dX4_claimant_18 rfl (lv_at hl 1 rfl) ?_
    refine lv_iload_n hx hb dX4_claimant_19 rfl (lv_at hl 2 rfl) ?_
    refine va_put (D := (dC, dI)) (ci := 4) (v := .int v) (ty := .int) (C := RX4) (T := TX4) (N := 22) hx hb hT hiX4 tyX4 tyX4_ok nmX4 hown hK hP hD hS 0 rfl rfl 3 (by decide) (hT _ kf_X4_91) (fun _ h9 => h9) rfl (by decide +kernel) rfl rfl (Nat.le_of_ble_eq_true rfl) dX4_claimant_20 (fun H locs hP hD hS => ?_)
    have hP : va_P (dC, dI) vwCl (mW cI cZ k up lo ln v tm se isI we br ma sf pa) H := hP
    have hD : va_D A (mW cI cZ k up lo ln v tm se isI we br ma sf pa) := hD
    refine lv_iload_n hx hb dX4_claimant_23 rfl (lv_at hl 0 rfl) ?_
    exact retM_i (S := MS) (post := fun r u => ((0 ≤ v ∧ v ≤ 100) ∧ r = cn ∧ u = (ln, v, se, isI, we, br, ma, sf, pa)) ∨ (¬ (0 ≤ v ∧ v ≤ 100) ∧ r = -2 ∧ u = (ln, cn, se, isI, we, br, ma, sf, pa))) (w2 := fun u => mWt cI cZ k up lo tm u) (ln, v, se, isI, we, br, ma, sf, pa) hx hb hr hlocks (by first | exact Or.inl ⟨hw_4, rfl, rfl⟩ | exact Or.inr ⟨hw_4, rfl, rfl⟩) hP hK hD hS dX4_claimant_24
  · refine lv_if_ne (tgt := 13) hx hb dX4_claimant_7 (by decide) (fun h => absurd h (by decide)) (fun c_7 => ?_)
    refine lv_bipush (v := (-2)) hx hb dX4_claimant_10 (by decide) ?_
    exact retM_i (S := MS) (post := fun r u => ((0 ≤ v ∧ v ≤ 100) ∧ r = cn ∧ u = (ln, v, se, isI, we, br, ma, sf, pa)) ∨ (¬ (0 ≤ v ∧ v ≤ 100) ∧ r = -2 ∧ u = (ln, cn, se, isI, we, br, ma, sf, pa))) (w2 := fun u => mWt cI cZ k up lo tm u) (ln, cn, se, isI, we, br, ma, sf, pa) hx hb hr hlocks (by first | exact Or.inl ⟨hw_4, rfl, rfl⟩ | exact Or.inr ⟨hw_4, rfl, rfl⟩) hP hK hD hS dX4_claimant_12
set_option maxHeartbeats 4000000 in
set_option maxRecDepth 100000 in
theorem c_X4_wrong (sz : Nat) (v : Int32) : Met l yX4_wrong (wT yX4_wrong cX4_wrong 3 (some .int)) ({ frames := 1, cells := 0, slots := 0, locals := 22 }) (pM (dC, dI) (ty3 cI cJ cZ) (mW cI cZ k up lo ln cn tm se isI we br ma sf pa) [.ref (k 0), .int v] sz) (va_Qi (S := MS) (fun r u => (¬ (0 ≤ v ∧ v ≤ 100) ∧ r = -2 ∧ u = (ln, cn, se, isI, we, br, ma, sf, pa)) ∨ ((0 ≤ v ∧ v ≤ 100) ∧ ((m_inN isI 6 = 6 ∧ r = -4 ∧ u = (ln, cn, se, isI, we, br, ma, sf, pa)) ∨ (¬ m_inN isI 6 = 6 ∧ ∃ w, w < 6 ∧ (∀ j, j < w → ¬ isI j = 0) ∧ isI w = 0 ∧ r = nI w ∧ u = (ln, cn, se, (upd (upd isI w 0) w 1), (upd (upd we w 0) w v), (upd br w 0), (upd ma w (-9)), (upd sf w (-9)), (upd pa w 0)))))) (fun u t9 => bM (dC, dI) (ty3 cI cJ cZ) (va_A (mW cI cZ k up lo ln cn tm se isI we br ma sf pa) sz) (mWt cI cZ k up lo tm u) t9) (va_A (mW cI cZ k up lo ln cn tm se isI we br ma sf pa) sz)) 0 0 (va_A (mW cI cZ k up lo ln cn tm se isI we br ma sf pa) sz) := by
  refine Met.ofW (cc := cX4_wrong) (maxL := 3) (ret := (some .int)) (by decide) rfl ?_
  intro p e s m args below meth c s₁ B hml hv
  obtain ⟨rfl, hsz, hP, hK, hD0⟩ := hv
  have hx := B.exec
  have hb := B.bytes
  have hr := B.returns
  have hts := atoms_spec (ws := wT yX4_wrong cX4_wrong 3 (some .int)) B.pre
  have hT := wT_T hts
  have hown : s.vm.findClass RX4 = some m.cls := findClass_of_methodNamed B.named
  have hlocks := B.notSynchronized
  subst hsz
  have hD := hD0.self (sz := s.heap.size)
  generalize hAe : va_A (mW cI cZ k up lo ln cn tm se isI we br ma sf pa) s.heap.size = A at hD ⊢
  have hA : ∀ q : Nat, s.heap.size ≤ q → A q := fun q h => by rw [← hAe]; exact Or.inr h
  have hS : va_S A s.heap s.heap [] := va_S.rf
  have hl := lv_entry ([.ref (k 0), .int v]) (n := 3) (Nat.le_of_ble_eq_true rfl)
  rw [lg_entry_eq]
  generalize (lg_sl ([.ref (k 0), .int v]) ++ List.replicate (3 - (lg_sl ([.ref (k 0), .int v])).length) Slot.unset).toArray = ls at hl ⊢
  have hl : lv_has ls 3 [(0, .ref (k 0)), (1, .int v)] := hl
  refine lv_iload_n hx hb dX4_wrong_0 rfl (lv_at hl 1 rfl) ?_
  refine lv_iconst (v := 0) hx hb dX4_wrong_1 (by decide) ?_
  refine lv_bipush (v := 100) hx hb dX4_wrong_2 (by decide) ?_
  refine vp_callSi (rRS (As := [.int v, .int 0, .int 100]) (rest := []) ⟨hx, hb, hml, hown, hT⟩ (c_X4_within (l := l) v 0 100) (cwTS 3 hT kc_X4_within km_X4_82 kt_X4_within kn_X4 rfl rfl md_X4_within ⟨Nat.le_of_ble_eq_true rfl, Nat.le_of_ble_eq_true rfl⟩) nilP hK  rfl hl.1 rfl (Nat.le_of_ble_eq_true rfl) dX4_wrong_4 ⟨Nat.le_of_ble_eq_true rfl, Nat.le_of_ble_eq_true rfl⟩) (fun r_4 hw_4 => ?_)
  rcases hw_4 with ⟨rfl, hw_4⟩ | ⟨rfl, hw_4⟩
  · refine lv_if_ne (tgt := 13) hx hb dX4_wrong_7 (by decide) (fun c_7 => ?_) (fun h => absurd h (by decide))
    refine lv_aload_n hx hb dX4_wrong_13 rfl (lv_at hl 0 rfl) ?_
    refine vp_callSi (rRV (As := []) (rest := []) ⟨hx, hb, hml, hown, hT⟩ (c_X4_manyIn (l := l) ) (cwTV 0 hT kc_X4_manyIn km_X4_94 ki_X4_manyIn ks_X4_manyIn kn_X4 rfl rfl md_X4_manyIn ⟨Nat.le_of_ble_eq_true rfl, Nat.le_of_ble_eq_true rfl⟩) hP hK (va_recv hK hP (ci := 4) (q0 := 0) rfl rfl) rfl hl.1 rfl (Nat.le_of_ble_eq_true rfl) dX4_wrong_14 ⟨Nat.le_of_ble_eq_true rfl, Nat.le_of_ble_eq_true rfl⟩) (fun r_14 hw_14 => ?_)
    subst hw_14
    refine lv_bipush (v := 6) hx hb dX4_wrong_17 (by decide) ?_
    refine lv_icmp_ne (tgt := 25) hx hb dX4_wrong_19 (by decide) (fun c_19 => ?_) (fun c_19 => ?_)
    · refine lv_iconst (v := 0) hx hb dX4_wrong_25 (by decide) ?_
      refine lv_istore_n (lv' := [(2, .int 0), (0, .ref (k 0)), (1, .int v)]) hx hb dX4_wrong_26 rfl hl (by decide) rfl (fun ls hl => ?_)
      refine loopR 6 (fun i ls => lv_has ls 3 [(2, .int (nI i)), (0, .ref (k 0)), (1, .int v)] ∧ (∀ j, j < i → ¬ isI j = 0)) (i0 := 0) (Nat.zero_le _) ⟨(lv_sub hl [0, 1, 2] rfl), fun j hj => absurd hj (Nat.not_lt_zero j)⟩ (fun i ls hi hl ih => ?_) (fun ls hl => ?_)
      · obtain ⟨hl, hf⟩ := hl
        refine lv_aload_n hx hb dX4_wrong_27 rfl (lv_at hl 1 rfl) ?_
        refine va_get (D := (dC, dI)) (ci := 4) (v := .ref (k 2)) (C := RX4) (T := TX4) (N := 22) hx hb hT hiX4 hown hK hP 0 rfl rfl 5 (by decide) (hT _ kf_X4_17) (fun _ h9 => h9) rfl dX4_wrong_28 ?_
        refine lv_iload_n hx hb dX4_wrong_31 rfl (lv_at hl 0 rfl) ?_
        refine ald_z hx hb hK hP 2 2 rfl rfl (by decide) (w := i) rfl (by omega) dX4_wrong_32 ?_
        refine lv_if_eq (tgt := 42) hx hb dX4_wrong_33 (by decide) (fun c_33 => ?_) (fun c_33 => ?_)
        · refine lv_aload_n hx hb dX4_wrong_42 rfl (lv_at hl 1 rfl) ?_
          refine lv_iload_n hx hb dX4_wrong_43 rfl (lv_at hl 0 rfl) ?_
          refine fM_v (wc := mW cI cZ k up lo ln cn tm se isI we br ma sf pa) (wr := []) (rMV (wc := mW cI cZ k up lo ln cn tm se isI we br ma sf pa) (As := [.int (nI i)]) (rest := []) ⟨hx, hb, hml, hown, hT⟩ (c_X4_clears (l := l) s.heap.size i (by first | assumption | omega)) (cwTV 1 hT kc_X4_clears km_X4_67 ki_X4_clears ks_X4_clears kn_X4 rfl rfl md_X4_clears ⟨Nat.le_of_ble_eq_true rfl, Nat.le_of_ble_eq_true rfl⟩) hP hD hK (va_recv hK hP (ci := 4) (q0 := 0) rfl rfl) rfl hl.1 rfl (Nat.le_of_ble_eq_true rfl) dX4_wrong_44 ⟨Nat.le_of_ble_eq_true rfl, Nat.le_of_ble_eq_true rfl⟩) hP hD hS hA (fun u_44 H locs hw_44 hP hD hS => ?_)
          have hP : va_P (dC, dI) vwCl (mW cI cZ k up lo ln cn tm se (upd isI i 0) (upd we i 0) (upd br i 0) (upd ma i (-9)) (upd sf i (-9)) (upd pa i 0)) H := hP
          have hD : va_D A (mW cI cZ k up lo ln cn tm se (upd isI i 0) (upd we i 0) (upd br i 0) (upd ma i (-9)) (upd sf i (-9)) (upd pa i 0)) := hD
          refine lv_aload_n hx hb dX4_wrong_47 rfl (lv_at hl 1 rfl) ?_
          refine va_get (D := (dC, dI)) (ci := 4) (v := .ref (k 2)) (C := RX4) (T := TX4) (N := 22) hx hb hT hiX4 hown hK hP 0 rfl rfl 5 (by decide) (hT _ kf_X4_17) (fun _ h9 => h9) rfl dX4_wrong_48 ?_
          refine lv_iload_n hx hb dX4_wrong_51 rfl (lv_at hl 0 rfl) ?_
          refine lv_iconst (v := 1) hx hb dX4_wrong_52 (by decide) ?_
          refine ast_z hx hb hK hP hD hS 2 2 rfl rfl (by decide) (w := i) rfl (by omega) (by first | exact Or.inl rfl | exact Or.inr rfl | assumption) dX4_wrong_53 (fun H locs hP hD hS => ?_)
          have hP : va_P (dC, dI) vwCl (mW cI cZ k up lo ln cn tm se (upd (upd isI i 0) i 1) (upd we i 0) (upd br i 0) (upd ma i (-9)) (upd sf i (-9)) (upd pa i 0)) H := hP
          have hD : va_D A (mW cI cZ k up lo ln cn tm se (upd (upd isI i 0) i 1) (upd we i 0) (upd br i 0) (upd ma i (-9)) (upd sf i (-9)) (upd pa i 0)) := hD
          refine lv_aload_n hx hb dX4_wrong_54 rfl (lv_at hl 1 rfl) ?_
          refine va_get (D := (dC, dI)) (ci := 4) (v := .ref (k 3)) (C := RX4) (T := TX4) (N := 22) hx hb hT hiX4 hown hK hP 0 rfl rfl 6 (by decide) (hT _ kf_X4_21) (fun _ h9 => h9) rfl dX4_wrong_55 ?_
          refine lv_iload_n hx hb dX4_wrong_58 rfl (lv_at hl 0 rfl) ?_
          refine lv_iload_n hx hb dX4_wrong_59 rfl (lv_at hl 2 rfl) ?_
          refine ast_i hx hb hK hP hD hS 3 0 rfl rfl (by decide) (w := i) rfl (by omega) dX4_wrong_60 (fun H locs hP hD hS => ?_)
          have hP : va_P (dC, dI) vwCl (mW cI cZ k up lo ln cn tm se (upd (upd isI i 0) i 1) (upd (upd we i 0) i v) (upd br i 0) (upd ma i (-9)) (upd sf i (-9)) (upd pa i 0)) H := hP
          have hD : va_D A (mW cI cZ k up lo ln cn tm se (upd (upd isI i 0) i 1) (upd (upd we i 0) i v) (upd br i 0) (upd ma i (-9)) (upd sf i (-9)) (upd pa i 0)) := hD
          refine lv_iload_n hx hb dX4_wrong_61 rfl (lv_at hl 0 rfl) ?_
          exact retM_i (S := MS) (post := fun r u => (¬ (0 ≤ v ∧ v ≤ 100) ∧ r = -2 ∧ u = (ln, cn, se, isI, we, br, ma, sf, pa)) ∨ ((0 ≤ v ∧ v ≤ 100) ∧ ((m_inN isI 6 = 6 ∧ r = -4 ∧ u = (ln, cn, se, isI, we, br, ma, sf, pa)) ∨ (¬ m_inN isI 6 = 6 ∧ ∃ w, w < 6 ∧ (∀ j, j < w → ¬ isI j = 0) ∧ isI w = 0 ∧ r = nI w ∧ u = (ln, cn, se, (upd (upd isI w 0) w 1), (upd (upd we w 0) w v), (upd br w 0), (upd ma w (-9)), (upd sf w (-9)), (upd pa w 0)))))) (w2 := fun u => mWt cI cZ k up lo tm u) (ln, cn, se, (upd (upd isI i 0) i 1), (upd (upd we i 0) i v), (upd br i 0), (upd ma i (-9)), (upd sf i (-9)), (upd pa i 0)) hx hb hr hlocks (by first | exact Or.inl ⟨hw_4, rfl, rfl⟩ | exact Or.inr ⟨hw_4, Or.inl ⟨c_19, rfl, rfl⟩⟩ | exact Or.inr ⟨hw_4, Or.inr ⟨c_19, i, hi, hf, c_33, rfl, rfl⟩⟩) hP hK hD hS dX4_wrong_62
        · refine lv_iinc (v := (nI (i + 1))) (lv' := [(2, .int (nI (i + 1))), (0, .ref (k 0)), (1, .int v)]) hx hb dX4_wrong_36 hl (k := 0) rfl (nI_1 i) (by decide) rfl (fun ls hl => ?_)
          refine lv_goto (tgt := 27) hx hb dX4_wrong_39 (by decide) ?_
          exact ih _ ⟨by exact lv_sub hl [0, 1, 2] rfl, lt_s hf c_33⟩
      · obtain ⟨hl, hf⟩ := hl
        exact absurd (m_in6 hf) c_19
    · refine lv_bipush (v := (-4)) hx hb dX4_wrong_22 (by decide) ?_
      exact retM_i (S := MS) (post := fun r u => (¬ (0 ≤ v ∧ v ≤ 100) ∧ r = -2 ∧ u = (ln, cn, se, isI, we, br, ma, sf, pa)) ∨ ((0 ≤ v ∧ v ≤ 100) ∧ ((m_inN isI 6 = 6 ∧ r = -4 ∧ u = (ln, cn, se, isI, we, br, ma, sf, pa)) ∨ (¬ m_inN isI 6 = 6 ∧ ∃ w, w < 6 ∧ (∀ j, j < w → ¬ isI j = 0) ∧ isI w = 0 ∧ r = nI w ∧ u = (ln, cn, se, (upd (upd isI w 0) w 1), (upd (upd we w 0) w v), (upd br w 0), (upd ma w (-9)), (upd sf w (-9)), (upd pa w 0)))))) (w2 := fun u => mWt cI cZ k up lo tm u) (ln, cn, se, isI, we, br, ma, sf, pa) hx hb hr hlocks (by first | exact Or.inl ⟨hw_4, rfl, rfl⟩ | exact Or.inr ⟨hw_4, Or.inl ⟨c_19, rfl, rfl⟩⟩ | exact Or.inr ⟨hw_4, Or.inr ⟨c_19, i, hi, hf, c_33, rfl, rfl⟩⟩) hP hK hD hS dX4_wrong_24
  · refine lv_if_ne (tgt := 13) hx hb dX4_wrong_7 (by decide) (fun h => absurd h (by decide)) (fun c_7 => ?_)
    refine lv_bipush (v := (-2)) hx hb dX4_wrong_10 (by decide) ?_
    exact retM_i (S := MS) (post := fun r u => (¬ (0 ≤ v ∧ v ≤ 100) ∧ r = -2 ∧ u = (ln, cn, se, isI, we, br, ma, sf, pa)) ∨ ((0 ≤ v ∧ v ≤ 100) ∧ ((m_inN isI 6 = 6 ∧ r = -4 ∧ u = (ln, cn, se, isI, we, br, ma, sf, pa)) ∨ (¬ m_inN isI 6 = 6 ∧ ∃ w, w < 6 ∧ (∀ j, j < w → ¬ isI j = 0) ∧ isI w = 0 ∧ r = nI w ∧ u = (ln, cn, se, (upd (upd isI w 0) w 1), (upd (upd we w 0) w v), (upd br w 0), (upd ma w (-9)), (upd sf w (-9)), (upd pa w 0)))))) (w2 := fun u => mWt cI cZ k up lo tm u) (ln, cn, se, isI, we, br, ma, sf, pa) hx hb hr hlocks (by first | exact Or.inl ⟨hw_4, rfl, rfl⟩ | exact Or.inr ⟨hw_4, Or.inl ⟨c_19, rfl, rfl⟩⟩ | exact Or.inr ⟨hw_4, Or.inr ⟨c_19, i, hi, hf, c_33, rfl, rfl⟩⟩) hP hK hD hS dX4_wrong_12
set_option maxHeartbeats 4000000 in
set_option maxRecDepth 100000 in
theorem c_X4_leave (sz : Nat) (v : Int32) (hm : mok ma) : Met l yX4_leave (wT yX4_leave cX4_leave 3 (some .int)) ({ frames := 2, cells := 0, slots := 0, locals := 43 }) (pM (dC, dI) (ty3 cI cJ cZ) (mW cI cZ k up lo ln cn tm se isI we br ma sf pa) [.ref (k 0), .int v] sz) (va_Qi (S := MS) (fun r u => xk (fun j => ¬ isI j = 0) v (r = -1 ∧ u = (ln, cn, se, isI, we, br, ma, sf, pa)) (fun j => r = m_inN (upd isI j 0) 6 ∧ ((ma j = -9 ∧ u = (ln, cn, se, (upd isI j 0), (upd we j 0), (upd br j 0), (upd ma j (-9)), (upd sf j (-9)), (upd pa j 0))) ∨ (¬ ma j = -9 ∧ u = (ln, cn, se, (upd isI j 0), (upd we j 0), (upd br j 0), (upd (upd ma j (-9)) (m_mt ma j) (-9)), (upd (upd sf j (-9)) (m_mt ma j) (-9)), (upd pa j 0)))))) (fun u t9 => bM (dC, dI) (ty3 cI cJ cZ) (va_A (mW cI cZ k up lo ln cn tm se isI we br ma sf pa) sz) (mWt cI cZ k up lo tm u) t9) (va_A (mW cI cZ k up lo ln cn tm se isI we br ma sf pa) sz)) 0 0 (va_A (mW cI cZ k up lo ln cn tm se isI we br ma sf pa) sz) := by
  refine Met.ofW (cc := cX4_leave) (maxL := 3) (ret := (some .int)) (by decide) rfl ?_
  intro p e s m args below meth c s₁ B hml hv
  obtain ⟨rfl, hsz, hP, hK, hD0⟩ := hv
  have hx := B.exec
  have hb := B.bytes
  have hr := B.returns
  have hts := atoms_spec (ws := wT yX4_leave cX4_leave 3 (some .int)) B.pre
  have hT := wT_T hts
  have hown : s.vm.findClass RX4 = some m.cls := findClass_of_methodNamed B.named
  have hlocks := B.notSynchronized
  subst hsz
  have hD := hD0.self (sz := s.heap.size)
  generalize hAe : va_A (mW cI cZ k up lo ln cn tm se isI we br ma sf pa) s.heap.size = A at hD ⊢
  have hA : ∀ q : Nat, s.heap.size ≤ q → A q := fun q h => by rw [← hAe]; exact Or.inr h
  have hS : va_S A s.heap s.heap [] := va_S.rf
  have hl := lv_entry ([.ref (k 0), .int v]) (n := 3) (Nat.le_of_ble_eq_true rfl)
  rw [lg_entry_eq]
  generalize (lg_sl ([.ref (k 0), .int v]) ++ List.replicate (3 - (lg_sl ([.ref (k 0), .int v])).length) Slot.unset).toArray = ls at hl ⊢
  have hl : lv_has ls 3 [(0, .ref (k 0)), (1, .int v)] := hl
  refine lv_aload_n hx hb dX4_leave_0 rfl (lv_at hl 0 rfl) ?_
  refine lv_iload_n hx hb dX4_leave_1 rfl (lv_at hl 1 rfl) ?_
  refine vp_callSi (rRV (As := [.int v]) (rest := []) ⟨hx, hb, hml, hown, hT⟩ (c_X4_isThere (l := l) v) (cwTV 1 hT kc_X4_isThere km_X4_98 ki_X4_isThere ks_X4_isThere kn_X4 rfl rfl md_X4_isThere ⟨Nat.le_of_ble_eq_true rfl, Nat.le_of_ble_eq_true rfl⟩) hP hK (va_recv hK hP (ci := 4) (q0 := 0) rfl rfl) rfl hl.1 rfl (Nat.le_of_ble_eq_true rfl) dX4_leave_2 ⟨Nat.le_of_ble_eq_true rfl, Nat.le_of_ble_eq_true rfl⟩) (fun r_2 hw_2 => ?_)
  rcases hw_2 with ⟨rfl, hw_2⟩ | ⟨rfl, hw_2⟩
  · obtain ⟨j, hj, rfl, hbj⟩ := hw_2
    refine lv_if_ne (tgt := 10) hx hb dX4_leave_5 (by decide) (fun c_5 => ?_) (fun h => absurd h (by decide))
    refine lv_aload_n hx hb dX4_leave_10 rfl (lv_at hl 0 rfl) ?_
    refine va_get (D := (dC, dI)) (ci := 4) (v := .ref (k 5)) (C := RX4) (T := TX4) (N := 22) hx hb hT hiX4 hown hK hP 0 rfl rfl 8 (by decide) (hT _ kf_X4_27) (fun _ h9 => h9) rfl dX4_leave_11 ?_
    refine lv_iload_n hx hb dX4_leave_14 rfl (lv_at hl 1 rfl) ?_
    refine ald_i hx hb hK hP 5 0 rfl rfl (by decide) (w := j) rfl (by omega) dX4_leave_15 ?_
    refine lv_istore_n (lv' := [(2, .int (ma j)), (0, .ref (k 0)), (1, .int (nI j))]) hx hb dX4_leave_16 rfl hl (by decide) rfl (fun ls hl => ?_)
    refine lv_aload_n hx hb dX4_leave_17 rfl (lv_at hl 1 rfl) ?_
    refine lv_iload_n hx hb dX4_leave_18 rfl (lv_at hl 2 rfl) ?_
    refine fM_v (wc := mW cI cZ k up lo ln cn tm se isI we br ma sf pa) (wr := []) (rMV (wc := mW cI cZ k up lo ln cn tm se isI we br ma sf pa) (As := [.int (nI j)]) (rest := []) ⟨hx, hb, hml, hown, hT⟩ (c_X4_clears (l := l) s.heap.size j (by first | assumption | omega)) (cwTV 1 hT kc_X4_clears km_X4_67 ki_X4_clears ks_X4_clears kn_X4 rfl rfl md_X4_clears ⟨Nat.le_of_ble_eq_true rfl, Nat.le_of_ble_eq_true rfl⟩) hP hD hK (va_recv hK hP (ci := 4) (q0 := 0) rfl rfl) rfl hl.1 rfl (Nat.le_of_ble_eq_true rfl) dX4_leave_19 ⟨Nat.le_of_ble_eq_true rfl, Nat.le_of_ble_eq_true rfl⟩) hP hD hS hA (fun u_19 H locs hw_19 hP hD hS => ?_)
    have hP : va_P (dC, dI) vwCl (mW cI cZ k up lo ln cn tm se (upd isI j 0) (upd we j 0) (upd br j 0) (upd ma j (-9)) (upd sf j (-9)) (upd pa j 0)) H := hP
    have hD : va_D A (mW cI cZ k up lo ln cn tm se (upd isI j 0) (upd we j 0) (upd br j 0) (upd ma j (-9)) (upd sf j (-9)) (upd pa j 0)) := hD
    refine lv_iload_n hx hb dX4_leave_22 rfl (lv_at hl 0 rfl) ?_
    refine lv_bipush (v := (-9)) hx hb dX4_leave_23 (by decide) ?_
    refine lv_icmp_eq (tgt := 44) hx hb dX4_leave_25 (by decide) (fun c_25 => ?_) (fun c_25 => ?_)
    · refine lv_aload_n hx hb dX4_leave_44 rfl (lv_at hl 1 rfl) ?_
      refine vp_callSi (rRV (As := []) (rest := []) ⟨hx, hb, hml, hown, hT⟩ (c_X4_manyIn (l := l) ) (cwTV 0 hT kc_X4_manyIn km_X4_94 ki_X4_manyIn ks_X4_manyIn kn_X4 rfl rfl md_X4_manyIn ⟨Nat.le_of_ble_eq_true rfl, Nat.le_of_ble_eq_true rfl⟩) hP hK (va_recv hK hP (ci := 4) (q0 := 0) rfl rfl) rfl hl.1 rfl (Nat.le_of_ble_eq_true rfl) dX4_leave_45 ⟨Nat.le_of_ble_eq_true rfl, Nat.le_of_ble_eq_true rfl⟩) (fun r_45 hw_45 => ?_)
      subst hw_45
      exact retM_i (S := MS) (post := fun r u => xk (fun j => ¬ isI j = 0) (nI j) (r = -1 ∧ u = (ln, cn, se, isI, we, br, ma, sf, pa)) (fun j => r = m_inN (upd isI j 0) 6 ∧ ((ma j = -9 ∧ u = (ln, cn, se, (upd isI j 0), (upd we j 0), (upd br j 0), (upd ma j (-9)), (upd sf j (-9)), (upd pa j 0))) ∨ (¬ ma j = -9 ∧ u = (ln, cn, se, (upd isI j 0), (upd we j 0), (upd br j 0), (upd (upd ma j (-9)) (m_mt ma j) (-9)), (upd (upd sf j (-9)) (m_mt ma j) (-9)), (upd pa j 0)))))) (w2 := fun u => mWt cI cZ k up lo tm u) (ln, cn, se, (upd isI j 0), (upd we j 0), (upd br j 0), (upd ma j (-9)), (upd sf j (-9)), (upd pa j 0)) hx hb hr hlocks (by first | exact Or.inr ⟨hw_2, rfl, rfl⟩ | exact Or.inl ⟨j, hj, rfl, hbj, rfl, Or.inl ⟨c_25, rfl⟩⟩ | exact Or.inl ⟨j, hj, rfl, hbj, rfl, Or.inr ⟨c_25, rfl⟩⟩) hP hK hD hS dX4_leave_48
    · refine lv_aload_n hx hb dX4_leave_28 rfl (lv_at hl 1 rfl) ?_
      refine va_get (D := (dC, dI)) (ci := 4) (v := .ref (k 5)) (C := RX4) (T := TX4) (N := 22) hx hb hT hiX4 hown hK hP 0 rfl rfl 8 (by decide) (hT _ kf_X4_27) (fun _ h9 => h9) rfl dX4_leave_29 ?_
      refine lv_iload_n hx hb dX4_leave_32 rfl (lv_at hl 0 rfl) ?_
      refine lv_bipush (v := (-9)) hx hb dX4_leave_33 (by decide) ?_
      refine ast_i hx hb hK hP hD hS 5 0 rfl rfl (by decide) (w := (m_mt ma j)) (m_idx hm hj c_25).1 (m_idx hm hj c_25).2 dX4_leave_35 (fun H locs hP hD hS => ?_)
      have hP : va_P (dC, dI) vwCl (mW cI cZ k up lo ln cn tm se (upd isI j 0) (upd we j 0) (upd br j 0) (upd (upd ma j (-9)) (m_mt ma j) (-9)) (upd sf j (-9)) (upd pa j 0)) H := hP
      have hD : va_D A (mW cI cZ k up lo ln cn tm se (upd isI j 0) (upd we j 0) (upd br j 0) (upd (upd ma j (-9)) (m_mt ma j) (-9)) (upd sf j (-9)) (upd pa j 0)) := hD
      refine lv_aload_n hx hb dX4_leave_36 rfl (lv_at hl 1 rfl) ?_
      refine va_get (D := (dC, dI)) (ci := 4) (v := .ref (k 6)) (C := RX4) (T := TX4) (N := 22) hx hb hT hiX4 hown hK hP 0 rfl rfl 9 (by decide) (hT _ kf_X4_30) (fun _ h9 => h9) rfl dX4_leave_37 ?_
      refine lv_iload_n hx hb dX4_leave_40 rfl (lv_at hl 0 rfl) ?_
      refine lv_bipush (v := (-9)) hx hb dX4_leave_41 (by decide) ?_
      refine ast_i hx hb hK hP hD hS 6 0 rfl rfl (by decide) (w := (m_mt ma j)) (m_idx hm hj c_25).1 (m_idx hm hj c_25).2 dX4_leave_43 (fun H locs hP hD hS => ?_)
      have hP : va_P (dC, dI) vwCl (mW cI cZ k up lo ln cn tm se (upd isI j 0) (upd we j 0) (upd br j 0) (upd (upd ma j (-9)) (m_mt ma j) (-9)) (upd (upd sf j (-9)) (m_mt ma j) (-9)) (upd pa j 0)) H := hP
      have hD : va_D A (mW cI cZ k up lo ln cn tm se (upd isI j 0) (upd we j 0) (upd br j 0) (upd (upd ma j (-9)) (m_mt ma j) (-9)) (upd (upd sf j (-9)) (m_mt ma j) (-9)) (upd pa j 0)) := hD
      refine lv_aload_n hx hb dX4_leave_44 rfl (lv_at hl 1 rfl) ?_
      refine vp_callSi (rRV (As := []) (rest := []) ⟨hx, hb, hml, hown, hT⟩ (c_X4_manyIn (l := l) ) (cwTV 0 hT kc_X4_manyIn km_X4_94 ki_X4_manyIn ks_X4_manyIn kn_X4 rfl rfl md_X4_manyIn ⟨Nat.le_of_ble_eq_true rfl, Nat.le_of_ble_eq_true rfl⟩) hP hK (va_recv hK hP (ci := 4) (q0 := 0) rfl rfl) rfl hl.1 rfl (Nat.le_of_ble_eq_true rfl) dX4_leave_45 ⟨Nat.le_of_ble_eq_true rfl, Nat.le_of_ble_eq_true rfl⟩) (fun r_45 hw_45 => ?_)
      subst hw_45
      exact retM_i (S := MS) (post := fun r u => xk (fun j => ¬ isI j = 0) (nI j) (r = -1 ∧ u = (ln, cn, se, isI, we, br, ma, sf, pa)) (fun j => r = m_inN (upd isI j 0) 6 ∧ ((ma j = -9 ∧ u = (ln, cn, se, (upd isI j 0), (upd we j 0), (upd br j 0), (upd ma j (-9)), (upd sf j (-9)), (upd pa j 0))) ∨ (¬ ma j = -9 ∧ u = (ln, cn, se, (upd isI j 0), (upd we j 0), (upd br j 0), (upd (upd ma j (-9)) (m_mt ma j) (-9)), (upd (upd sf j (-9)) (m_mt ma j) (-9)), (upd pa j 0)))))) (w2 := fun u => mWt cI cZ k up lo tm u) (ln, cn, se, (upd isI j 0), (upd we j 0), (upd br j 0), (upd (upd ma j (-9)) (m_mt ma j) (-9)), (upd (upd sf j (-9)) (m_mt ma j) (-9)), (upd pa j 0)) hx hb hr hlocks (by first | exact Or.inr ⟨hw_2, rfl, rfl⟩ | exact Or.inl ⟨j, hj, rfl, hbj, rfl, Or.inl ⟨c_25, rfl⟩⟩ | exact Or.inl ⟨j, hj, rfl, hbj, rfl, Or.inr ⟨c_25, rfl⟩⟩) hP hK hD hS dX4_leave_48
  · refine lv_if_ne (tgt := 10) hx hb dX4_leave_5 (by decide) (fun h => absurd h (by decide)) (fun c_5 => ?_)
    refine lv_iconst (v := (-1)) hx hb dX4_leave_8 (by decide) ?_
    exact retM_i (S := MS) (post := fun r u => xk (fun j => ¬ isI j = 0) v (r = -1 ∧ u = (ln, cn, se, isI, we, br, ma, sf, pa)) (fun j => r = m_inN (upd isI j 0) 6 ∧ ((ma j = -9 ∧ u = (ln, cn, se, (upd isI j 0), (upd we j 0), (upd br j 0), (upd ma j (-9)), (upd sf j (-9)), (upd pa j 0))) ∨ (¬ ma j = -9 ∧ u = (ln, cn, se, (upd isI j 0), (upd we j 0), (upd br j 0), (upd (upd ma j (-9)) (m_mt ma j) (-9)), (upd (upd sf j (-9)) (m_mt ma j) (-9)), (upd pa j 0)))))) (w2 := fun u => mWt cI cZ k up lo tm u) (ln, cn, se, isI, we, br, ma, sf, pa) hx hb hr hlocks (by first | exact Or.inr ⟨hw_2, rfl, rfl⟩ | exact Or.inl ⟨j, hj, rfl, hbj, rfl, Or.inl ⟨c_25, rfl⟩⟩ | exact Or.inl ⟨j, hj, rfl, hbj, rfl, Or.inr ⟨c_25, rfl⟩⟩) hP hK hD hS dX4_leave_9
set_option maxHeartbeats 4000000 in
set_option maxRecDepth 100000 in
theorem c_X4_weight (sz : Nat) (v x : Int32) : Met l yX4_weight (wT yX4_weight cX4_weight 4 (some .int)) ({ frames := 2, cells := 0, slots := 0, locals := 43 }) (pM (dC, dI) (ty3 cI cJ cZ) (mW cI cZ k up lo ln cn tm se isI we br ma sf pa) [.ref (k 0), .int v, .int x] sz) (va_Qi (S := MS) (fun r u => xk (fun j => ¬ isI j = 0) v (r = -1 ∧ u = (ln, cn, se, isI, we, br, ma, sf, pa)) (fun j => (¬ (0 ≤ x ∧ x ≤ 100) ∧ r = -2 ∧ u = (ln, cn, se, isI, we, br, ma, sf, pa)) ∨ ((0 ≤ x ∧ x ≤ 100) ∧ r = we j ∧ u = (ln, cn, se, isI, (upd we j x), br, ma, sf, pa)))) (fun u t9 => bM (dC, dI) (ty3 cI cJ cZ) (va_A (mW cI cZ k up lo ln cn tm se isI we br ma sf pa) sz) (mWt cI cZ k up lo tm u) t9) (va_A (mW cI cZ k up lo ln cn tm se isI we br ma sf pa) sz)) 0 0 (va_A (mW cI cZ k up lo ln cn tm se isI we br ma sf pa) sz) := by
  refine Met.ofW (cc := cX4_weight) (maxL := 4) (ret := (some .int)) (by decide) rfl ?_
  intro p e s m args below meth c s₁ B hml hv
  obtain ⟨rfl, hsz, hP, hK, hD0⟩ := hv
  have hx := B.exec
  have hb := B.bytes
  have hr := B.returns
  have hts := atoms_spec (ws := wT yX4_weight cX4_weight 4 (some .int)) B.pre
  have hT := wT_T hts
  have hown : s.vm.findClass RX4 = some m.cls := findClass_of_methodNamed B.named
  have hlocks := B.notSynchronized
  subst hsz
  have hD := hD0.self (sz := s.heap.size)
  generalize hAe : va_A (mW cI cZ k up lo ln cn tm se isI we br ma sf pa) s.heap.size = A at hD ⊢
  have hA : ∀ q : Nat, s.heap.size ≤ q → A q := fun q h => by rw [← hAe]; exact Or.inr h
  have hS : va_S A s.heap s.heap [] := va_S.rf
  have hl := lv_entry ([.ref (k 0), .int v, .int x]) (n := 4) (Nat.le_of_ble_eq_true rfl)
  rw [lg_entry_eq]
  generalize (lg_sl ([.ref (k 0), .int v, .int x]) ++ List.replicate (4 - (lg_sl ([.ref (k 0), .int v, .int x])).length) Slot.unset).toArray = ls at hl ⊢
  have hl : lv_has ls 4 [(0, .ref (k 0)), (1, .int v), (2, .int x)] := hl
  refine lv_aload_n hx hb dX4_weight_0 rfl (lv_at hl 0 rfl) ?_
  refine lv_iload_n hx hb dX4_weight_1 rfl (lv_at hl 1 rfl) ?_
  refine vp_callSi (rRV (As := [.int v]) (rest := []) ⟨hx, hb, hml, hown, hT⟩ (c_X4_isThere (l := l) v) (cwTV 1 hT kc_X4_isThere km_X4_98 ki_X4_isThere ks_X4_isThere kn_X4 rfl rfl md_X4_isThere ⟨Nat.le_of_ble_eq_true rfl, Nat.le_of_ble_eq_true rfl⟩) hP hK (va_recv hK hP (ci := 4) (q0 := 0) rfl rfl) rfl hl.1 rfl (Nat.le_of_ble_eq_true rfl) dX4_weight_2 ⟨Nat.le_of_ble_eq_true rfl, Nat.le_of_ble_eq_true rfl⟩) (fun r_2 hw_2 => ?_)
  rcases hw_2 with ⟨rfl, hw_2⟩ | ⟨rfl, hw_2⟩
  · obtain ⟨j, hj, rfl, hbj⟩ := hw_2
    refine lv_if_ne (tgt := 10) hx hb dX4_weight_5 (by decide) (fun c_5 => ?_) (fun h => absurd h (by decide))
    refine lv_iload_n hx hb dX4_weight_10 rfl (lv_at hl 2 rfl) ?_
    refine lv_iconst (v := 0) hx hb dX4_weight_11 (by decide) ?_
    refine lv_bipush (v := 100) hx hb dX4_weight_12 (by decide) ?_
    refine vp_callSi (rRS (As := [.int x, .int 0, .int 100]) (rest := []) ⟨hx, hb, hml, hown, hT⟩ (c_X4_within (l := l) x 0 100) (cwTS 3 hT kc_X4_within km_X4_82 kt_X4_within kn_X4 rfl rfl md_X4_within ⟨Nat.le_of_ble_eq_true rfl, Nat.le_of_ble_eq_true rfl⟩) nilP hK  rfl hl.1 rfl (Nat.le_of_ble_eq_true rfl) dX4_weight_14 ⟨Nat.le_of_ble_eq_true rfl, Nat.le_of_ble_eq_true rfl⟩) (fun r_14 hw_14 => ?_)
    rcases hw_14 with ⟨rfl, hw_14⟩ | ⟨rfl, hw_14⟩
    · refine lv_if_ne (tgt := 23) hx hb dX4_weight_17 (by decide) (fun c_17 => ?_) (fun h => absurd h (by decide))
      refine lv_aload_n hx hb dX4_weight_23 rfl (lv_at hl 0 rfl) ?_
      refine va_get (D := (dC, dI)) (ci := 4) (v := .ref (k 3)) (C := RX4) (T := TX4) (N := 22) hx hb hT hiX4 hown hK hP 0 rfl rfl 6 (by decide) (hT _ kf_X4_21) (fun _ h9 => h9) rfl dX4_weight_24 ?_
      refine lv_iload_n hx hb dX4_weight_27 rfl (lv_at hl 1 rfl) ?_
      refine ald_i hx hb hK hP 3 0 rfl rfl (by decide) (w := j) rfl (by omega) dX4_weight_28 ?_
      refine lv_istore_n (lv' := [(3, .int (we j)), (0, .ref (k 0)), (1, .int (nI j)), (2, .int x)]) hx hb dX4_weight_29 rfl hl (by decide) rfl (fun ls hl => ?_)
      refine lv_aload_n hx hb dX4_weight_30 rfl (lv_at hl 1 rfl) ?_
      refine va_get (D := (dC, dI)) (ci := 4) (v := .ref (k 3)) (C := RX4) (T := TX4) (N := 22) hx hb hT hiX4 hown hK hP 0 rfl rfl 6 (by decide) (hT _ kf_X4_21) (fun _ h9 => h9) rfl dX4_weight_31 ?_
      refine lv_iload_n hx hb dX4_weight_34 rfl (lv_at hl 2 rfl) ?_
      refine lv_iload_n hx hb dX4_weight_35 rfl (lv_at hl 3 rfl) ?_
      refine ast_i hx hb hK hP hD hS 3 0 rfl rfl (by decide) (w := j) rfl (by omega) dX4_weight_36 (fun H locs hP hD hS => ?_)
      have hP : va_P (dC, dI) vwCl (mW cI cZ k up lo ln cn tm se isI (upd we j x) br ma sf pa) H := hP
      have hD : va_D A (mW cI cZ k up lo ln cn tm se isI (upd we j x) br ma sf pa) := hD
      refine lv_iload_n hx hb dX4_weight_37 rfl (lv_at hl 0 rfl) ?_
      exact retM_i (S := MS) (post := fun r u => xk (fun j => ¬ isI j = 0) (nI j) (r = -1 ∧ u = (ln, cn, se, isI, we, br, ma, sf, pa)) (fun j => (¬ (0 ≤ x ∧ x ≤ 100) ∧ r = -2 ∧ u = (ln, cn, se, isI, we, br, ma, sf, pa)) ∨ ((0 ≤ x ∧ x ≤ 100) ∧ r = we j ∧ u = (ln, cn, se, isI, (upd we j x), br, ma, sf, pa)))) (w2 := fun u => mWt cI cZ k up lo tm u) (ln, cn, se, isI, (upd we j x), br, ma, sf, pa) hx hb hr hlocks (by first | exact Or.inl ⟨j, hj, rfl, hbj, Or.inl ⟨hw_14, rfl, rfl⟩⟩ | exact Or.inl ⟨j, hj, rfl, hbj, Or.inr ⟨hw_14, rfl, rfl⟩⟩ | exact Or.inr ⟨hw_2, rfl, rfl⟩) hP hK hD hS dX4_weight_38
    · refine lv_if_ne (tgt := 23) hx hb dX4_weight_17 (by decide) (fun h => absurd h (by decide)) (fun c_17 => ?_)
      refine lv_bipush (v := (-2)) hx hb dX4_weight_20 (by decide) ?_
      exact retM_i (S := MS) (post := fun r u => xk (fun j => ¬ isI j = 0) (nI j) (r = -1 ∧ u = (ln, cn, se, isI, we, br, ma, sf, pa)) (fun j => (¬ (0 ≤ x ∧ x ≤ 100) ∧ r = -2 ∧ u = (ln, cn, se, isI, we, br, ma, sf, pa)) ∨ ((0 ≤ x ∧ x ≤ 100) ∧ r = we j ∧ u = (ln, cn, se, isI, (upd we j x), br, ma, sf, pa)))) (w2 := fun u => mWt cI cZ k up lo tm u) (ln, cn, se, isI, we, br, ma, sf, pa) hx hb hr hlocks (by first | exact Or.inl ⟨j, hj, rfl, hbj, Or.inl ⟨hw_14, rfl, rfl⟩⟩ | exact Or.inl ⟨j, hj, rfl, hbj, Or.inr ⟨hw_14, rfl, rfl⟩⟩ | exact Or.inr ⟨hw_2, rfl, rfl⟩) hP hK hD hS dX4_weight_22
  · refine lv_if_ne (tgt := 10) hx hb dX4_weight_5 (by decide) (fun h => absurd h (by decide)) (fun c_5 => ?_)
    refine lv_iconst (v := (-1)) hx hb dX4_weight_8 (by decide) ?_
    exact retM_i (S := MS) (post := fun r u => xk (fun j => ¬ isI j = 0) v (r = -1 ∧ u = (ln, cn, se, isI, we, br, ma, sf, pa)) (fun j => (¬ (0 ≤ x ∧ x ≤ 100) ∧ r = -2 ∧ u = (ln, cn, se, isI, we, br, ma, sf, pa)) ∨ ((0 ≤ x ∧ x ≤ 100) ∧ r = we j ∧ u = (ln, cn, se, isI, (upd we j x), br, ma, sf, pa)))) (w2 := fun u => mWt cI cZ k up lo tm u) (ln, cn, se, isI, we, br, ma, sf, pa) hx hb hr hlocks (by first | exact Or.inl ⟨j, hj, rfl, hbj, Or.inl ⟨hw_14, rfl, rfl⟩⟩ | exact Or.inl ⟨j, hj, rfl, hbj, Or.inr ⟨hw_14, rfl, rfl⟩⟩ | exact Or.inr ⟨hw_2, rfl, rfl⟩) hP hK hD hS dX4_weight_9
set_option maxHeartbeats 4000000 in
set_option maxRecDepth 100000 in
theorem c_X4_broke (sz : Nat) (v z : Int32) (hz : z = 0 ∨ z = 1) : Met l yX4_broke (wT yX4_broke cX4_broke 4 (some .int)) ({ frames := 2, cells := 0, slots := 0, locals := 43 }) (pM (dC, dI) (ty3 cI cJ cZ) (mW cI cZ k up lo ln cn tm se isI we br ma sf pa) [.ref (k 0), .int v, .int z] sz) (va_Qi (S := MS) (fun r u => xk (fun j => ¬ isI j = 0) v (r = -1 ∧ u = (ln, cn, se, isI, we, br, ma, sf, pa)) (fun j => ((br j = z ∧ r = 0) ∨ (¬ br j = z ∧ r = 1)) ∧ u = (ln, cn, se, isI, we, (upd br j z), ma, sf, pa))) (fun u t9 => bM (dC, dI) (ty3 cI cJ cZ) (va_A (mW cI cZ k up lo ln cn tm se isI we br ma sf pa) sz) (mWt cI cZ k up lo tm u) t9) (va_A (mW cI cZ k up lo ln cn tm se isI we br ma sf pa) sz)) 0 0 (va_A (mW cI cZ k up lo ln cn tm se isI we br ma sf pa) sz) := by
  refine Met.ofW (cc := cX4_broke) (maxL := 4) (ret := (some .int)) (by decide) rfl ?_
  intro p e s m args below meth c s₁ B hml hv
  obtain ⟨rfl, hsz, hP, hK, hD0⟩ := hv
  have hx := B.exec
  have hb := B.bytes
  have hr := B.returns
  have hts := atoms_spec (ws := wT yX4_broke cX4_broke 4 (some .int)) B.pre
  have hT := wT_T hts
  have hown : s.vm.findClass RX4 = some m.cls := findClass_of_methodNamed B.named
  have hlocks := B.notSynchronized
  subst hsz
  have hD := hD0.self (sz := s.heap.size)
  generalize hAe : va_A (mW cI cZ k up lo ln cn tm se isI we br ma sf pa) s.heap.size = A at hD ⊢
  have hA : ∀ q : Nat, s.heap.size ≤ q → A q := fun q h => by rw [← hAe]; exact Or.inr h
  have hS : va_S A s.heap s.heap [] := va_S.rf
  have hl := lv_entry ([.ref (k 0), .int v, .int z]) (n := 4) (Nat.le_of_ble_eq_true rfl)
  rw [lg_entry_eq]
  generalize (lg_sl ([.ref (k 0), .int v, .int z]) ++ List.replicate (4 - (lg_sl ([.ref (k 0), .int v, .int z])).length) Slot.unset).toArray = ls at hl ⊢
  have hl : lv_has ls 4 [(0, .ref (k 0)), (1, .int v), (2, .int z)] := hl
  refine lv_aload_n hx hb dX4_broke_0 rfl (lv_at hl 0 rfl) ?_
  refine lv_iload_n hx hb dX4_broke_1 rfl (lv_at hl 1 rfl) ?_
  refine vp_callSi (rRV (As := [.int v]) (rest := []) ⟨hx, hb, hml, hown, hT⟩ (c_X4_isThere (l := l) v) (cwTV 1 hT kc_X4_isThere km_X4_98 ki_X4_isThere ks_X4_isThere kn_X4 rfl rfl md_X4_isThere ⟨Nat.le_of_ble_eq_true rfl, Nat.le_of_ble_eq_true rfl⟩) hP hK (va_recv hK hP (ci := 4) (q0 := 0) rfl rfl) rfl hl.1 rfl (Nat.le_of_ble_eq_true rfl) dX4_broke_2 ⟨Nat.le_of_ble_eq_true rfl, Nat.le_of_ble_eq_true rfl⟩) (fun r_2 hw_2 => ?_)
  rcases hw_2 with ⟨rfl, hw_2⟩ | ⟨rfl, hw_2⟩
  · obtain ⟨j, hj, rfl, hbj⟩ := hw_2
    refine lv_if_ne (tgt := 10) hx hb dX4_broke_5 (by decide) (fun c_5 => ?_) (fun h => absurd h (by decide))
    refine lv_aload_n hx hb dX4_broke_10 rfl (lv_at hl 0 rfl) ?_
    refine va_get (D := (dC, dI)) (ci := 4) (v := .ref (k 4)) (C := RX4) (T := TX4) (N := 22) hx hb hT hiX4 hown hK hP 0 rfl rfl 7 (by decide) (hT _ kf_X4_24) (fun _ h9 => h9) rfl dX4_broke_11 ?_
    refine lv_iload_n hx hb dX4_broke_14 rfl (lv_at hl 1 rfl) ?_
    refine ald_z hx hb hK hP 4 2 rfl rfl (by decide) (w := j) rfl (by omega) dX4_broke_15 ?_
    refine lv_iload_n hx hb dX4_broke_16 rfl (lv_at hl 2 rfl) ?_
    refine lv_icmp_ne (tgt := 24) hx hb dX4_broke_17 (by decide) (fun c_17 => ?_) (fun c_17 => ?_)
    · refine lv_iconst (v := 1) hx hb dX4_broke_24 (by decide) ?_
      refine lv_istore_n (lv' := [(3, .int 1), (0, .ref (k 0)), (1, .int (nI j)), (2, .int z)]) hx hb dX4_broke_25 rfl hl (by decide) rfl (fun ls hl => ?_)
      refine lv_aload_n hx hb dX4_broke_26 rfl (lv_at hl 1 rfl) ?_
      refine va_get (D := (dC, dI)) (ci := 4) (v := .ref (k 4)) (C := RX4) (T := TX4) (N := 22) hx hb hT hiX4 hown hK hP 0 rfl rfl 7 (by decide) (hT _ kf_X4_24) (fun _ h9 => h9) rfl dX4_broke_27 ?_
      refine lv_iload_n hx hb dX4_broke_30 rfl (lv_at hl 2 rfl) ?_
      refine lv_iload_n hx hb dX4_broke_31 rfl (lv_at hl 3 rfl) ?_
      refine ast_z hx hb hK hP hD hS 4 2 rfl rfl (by decide) (w := j) rfl (by omega) (by first | exact Or.inl rfl | exact Or.inr rfl | assumption) dX4_broke_32 (fun H locs hP hD hS => ?_)
      have hP : va_P (dC, dI) vwCl (mW cI cZ k up lo ln cn tm se isI we (upd br j z) ma sf pa) H := hP
      have hD : va_D A (mW cI cZ k up lo ln cn tm se isI we (upd br j z) ma sf pa) := hD
      refine lv_iload_n hx hb dX4_broke_33 rfl (lv_at hl 0 rfl) ?_
      exact retM_i (S := MS) (post := fun r u => xk (fun j => ¬ isI j = 0) (nI j) (r = -1 ∧ u = (ln, cn, se, isI, we, br, ma, sf, pa)) (fun j => ((br j = z ∧ r = 0) ∨ (¬ br j = z ∧ r = 1)) ∧ u = (ln, cn, se, isI, we, (upd br j z), ma, sf, pa))) (w2 := fun u => mWt cI cZ k up lo tm u) (ln, cn, se, isI, we, (upd br j z), ma, sf, pa) hx hb hr hlocks (by first | exact Or.inl ⟨j, hj, rfl, hbj, Or.inl ⟨c_17, rfl⟩, rfl⟩ | exact Or.inl ⟨j, hj, rfl, hbj, Or.inr ⟨c_17, rfl⟩, rfl⟩ | exact Or.inr ⟨hw_2, rfl, rfl⟩) hP hK hD hS dX4_broke_34
    · refine lv_iconst (v := 0) hx hb dX4_broke_20 (by decide) ?_
      refine lv_goto (tgt := 25) hx hb dX4_broke_21 (by decide) ?_
      refine lv_istore_n (lv' := [(3, .int 0), (0, .ref (k 0)), (1, .int (nI j)), (2, .int z)]) hx hb dX4_broke_25 rfl hl (by decide) rfl (fun ls hl => ?_)
      refine lv_aload_n hx hb dX4_broke_26 rfl (lv_at hl 1 rfl) ?_
      refine va_get (D := (dC, dI)) (ci := 4) (v := .ref (k 4)) (C := RX4) (T := TX4) (N := 22) hx hb hT hiX4 hown hK hP 0 rfl rfl 7 (by decide) (hT _ kf_X4_24) (fun _ h9 => h9) rfl dX4_broke_27 ?_
      refine lv_iload_n hx hb dX4_broke_30 rfl (lv_at hl 2 rfl) ?_
      refine lv_iload_n hx hb dX4_broke_31 rfl (lv_at hl 3 rfl) ?_
      refine ast_z hx hb hK hP hD hS 4 2 rfl rfl (by decide) (w := j) rfl (by omega) (by first | exact Or.inl rfl | exact Or.inr rfl | assumption) dX4_broke_32 (fun H locs hP hD hS => ?_)
      have hP : va_P (dC, dI) vwCl (mW cI cZ k up lo ln cn tm se isI we (upd br j z) ma sf pa) H := hP
      have hD : va_D A (mW cI cZ k up lo ln cn tm se isI we (upd br j z) ma sf pa) := hD
      refine lv_iload_n hx hb dX4_broke_33 rfl (lv_at hl 0 rfl) ?_
      exact retM_i (S := MS) (post := fun r u => xk (fun j => ¬ isI j = 0) (nI j) (r = -1 ∧ u = (ln, cn, se, isI, we, br, ma, sf, pa)) (fun j => ((br j = z ∧ r = 0) ∨ (¬ br j = z ∧ r = 1)) ∧ u = (ln, cn, se, isI, we, (upd br j z), ma, sf, pa))) (w2 := fun u => mWt cI cZ k up lo tm u) (ln, cn, se, isI, we, (upd br j z), ma, sf, pa) hx hb hr hlocks (by first | exact Or.inl ⟨j, hj, rfl, hbj, Or.inl ⟨c_17, rfl⟩, rfl⟩ | exact Or.inl ⟨j, hj, rfl, hbj, Or.inr ⟨c_17, rfl⟩, rfl⟩ | exact Or.inr ⟨hw_2, rfl, rfl⟩) hP hK hD hS dX4_broke_34
  · refine lv_if_ne (tgt := 10) hx hb dX4_broke_5 (by decide) (fun h => absurd h (by decide)) (fun c_5 => ?_)
    refine lv_iconst (v := (-1)) hx hb dX4_broke_8 (by decide) ?_
    exact retM_i (S := MS) (post := fun r u => xk (fun j => ¬ isI j = 0) v (r = -1 ∧ u = (ln, cn, se, isI, we, br, ma, sf, pa)) (fun j => ((br j = z ∧ r = 0) ∨ (¬ br j = z ∧ r = 1)) ∧ u = (ln, cn, se, isI, we, (upd br j z), ma, sf, pa))) (w2 := fun u => mWt cI cZ k up lo tm u) (ln, cn, se, isI, we, br, ma, sf, pa) hx hb hr hlocks (by first | exact Or.inl ⟨j, hj, rfl, hbj, Or.inl ⟨c_17, rfl⟩, rfl⟩ | exact Or.inl ⟨j, hj, rfl, hbj, Or.inr ⟨c_17, rfl⟩, rfl⟩ | exact Or.inr ⟨hw_2, rfl, rfl⟩) hP hK hD hS dX4_broke_9
set_option maxHeartbeats 4000000 in
set_option maxRecDepth 100000 in
theorem c_X4_pair (sz : Nat) (v w : Int32) : Met l yX4_pair (wT yX4_pair cX4_pair 3 (some .int)) ({ frames := 2, cells := 0, slots := 0, locals := 43 }) (pM (dC, dI) (ty3 cI cJ cZ) (mW cI cZ k up lo ln cn tm se isI we br ma sf pa) [.ref (k 0), .int v, .int w] sz) (va_Qi (S := MS) (fun r u => (((¬ ∃ i, i < 6 ∧ v = nI i ∧ ¬ isI i = 0) ∨ (¬ ∃ j, j < 6 ∧ w = nI j ∧ ¬ isI j = 0) ∨ v = w) ∧ r = -1 ∧ u = (ln, cn, se, isI, we, br, ma, sf, pa)) ∨ (∃ i j, i < 6 ∧ j < 6 ∧ v = nI i ∧ w = nI j ∧ i ≠ j ∧ ¬ isI i = 0 ∧ ¬ isI j = 0 ∧ (((¬ ma i = -9 ∨ ¬ ma j = -9 ∨ ¬ sf i = -9 ∨ ¬ sf j = -9) ∧ r = -3 ∧ u = (ln, cn, se, isI, we, br, ma, sf, pa)) ∨ (¬ (¬ ma i = -9 ∨ ¬ ma j = -9 ∨ ¬ sf i = -9 ∨ ¬ sf j = -9) ∧ r = 1 ∧ u = (ln, cn, se, isI, we, br, (upd (upd ma i (nI j)) j (nI i)), sf, pa))))) (fun u t9 => bM (dC, dI) (ty3 cI cJ cZ) (va_A (mW cI cZ k up lo ln cn tm se isI we br ma sf pa) sz) (mWt cI cZ k up lo tm u) t9) (va_A (mW cI cZ k up lo ln cn tm se isI we br ma sf pa) sz)) 0 0 (va_A (mW cI cZ k up lo ln cn tm se isI we br ma sf pa) sz) := by
  refine Met.ofW (cc := cX4_pair) (maxL := 3) (ret := (some .int)) (by decide) rfl ?_
  intro p e s m args below meth c s₁ B hml hv
  obtain ⟨rfl, hsz, hP, hK, hD0⟩ := hv
  have hx := B.exec
  have hb := B.bytes
  have hr := B.returns
  have hts := atoms_spec (ws := wT yX4_pair cX4_pair 3 (some .int)) B.pre
  have hT := wT_T hts
  have hown : s.vm.findClass RX4 = some m.cls := findClass_of_methodNamed B.named
  have hlocks := B.notSynchronized
  subst hsz
  have hD := hD0.self (sz := s.heap.size)
  generalize hAe : va_A (mW cI cZ k up lo ln cn tm se isI we br ma sf pa) s.heap.size = A at hD ⊢
  have hA : ∀ q : Nat, s.heap.size ≤ q → A q := fun q h => by rw [← hAe]; exact Or.inr h
  have hS : va_S A s.heap s.heap [] := va_S.rf
  have hl := lv_entry ([.ref (k 0), .int v, .int w]) (n := 3) (Nat.le_of_ble_eq_true rfl)
  rw [lg_entry_eq]
  generalize (lg_sl ([.ref (k 0), .int v, .int w]) ++ List.replicate (3 - (lg_sl ([.ref (k 0), .int v, .int w])).length) Slot.unset).toArray = ls at hl ⊢
  have hl : lv_has ls 3 [(0, .ref (k 0)), (1, .int v), (2, .int w)] := hl
  refine lv_aload_n hx hb dX4_pair_0 rfl (lv_at hl 0 rfl) ?_
  refine lv_iload_n hx hb dX4_pair_1 rfl (lv_at hl 1 rfl) ?_
  refine vp_callSi (rRV (As := [.int v]) (rest := []) ⟨hx, hb, hml, hown, hT⟩ (c_X4_isThere (l := l) v) (cwTV 1 hT kc_X4_isThere km_X4_98 ki_X4_isThere ks_X4_isThere kn_X4 rfl rfl md_X4_isThere ⟨Nat.le_of_ble_eq_true rfl, Nat.le_of_ble_eq_true rfl⟩) hP hK (va_recv hK hP (ci := 4) (q0 := 0) rfl rfl) rfl hl.1 rfl (Nat.le_of_ble_eq_true rfl) dX4_pair_2 ⟨Nat.le_of_ble_eq_true rfl, Nat.le_of_ble_eq_true rfl⟩) (fun r_2 hw_2 => ?_)
  rcases hw_2 with ⟨rfl, hw_2⟩ | ⟨rfl, hw_2⟩
  · obtain ⟨i9, hi, rfl, hbi⟩ := hw_2
    refine lv_if_eq (tgt := 21) hx hb dX4_pair_5 (by decide) (fun h => absurd h (by decide)) (fun c_5 => ?_)
    refine lv_aload_n hx hb dX4_pair_8 rfl (lv_at hl 0 rfl) ?_
    refine lv_iload_n hx hb dX4_pair_9 rfl (lv_at hl 2 rfl) ?_
    refine vp_callSi (rRV (As := [.int w]) (rest := []) ⟨hx, hb, hml, hown, hT⟩ (c_X4_isThere (l := l) w) (cwTV 1 hT kc_X4_isThere km_X4_98 ki_X4_isThere ks_X4_isThere kn_X4 rfl rfl md_X4_isThere ⟨Nat.le_of_ble_eq_true rfl, Nat.le_of_ble_eq_true rfl⟩) hP hK (va_recv hK hP (ci := 4) (q0 := 0) rfl rfl) rfl hl.1 rfl (Nat.le_of_ble_eq_true rfl) dX4_pair_10 ⟨Nat.le_of_ble_eq_true rfl, Nat.le_of_ble_eq_true rfl⟩) (fun r_10 hw_10 => ?_)
    rcases hw_10 with ⟨rfl, hw_10⟩ | ⟨rfl, hw_10⟩
    · obtain ⟨j9, hj, rfl, hbj⟩ := hw_10
      refine lv_if_eq (tgt := 21) hx hb dX4_pair_13 (by decide) (fun h => absurd h (by decide)) (fun c_13 => ?_)
      refine lv_iload_n hx hb dX4_pair_16 rfl (lv_at hl 1 rfl) ?_
      refine lv_iload_n hx hb dX4_pair_17 rfl (lv_at hl 2 rfl) ?_
      refine lv_icmp_ne (tgt := 23) hx hb dX4_pair_18 (by decide) (fun c_18 => ?_) (fun c_18 => ?_)
      · have hij : i9 ≠ j9 := fun h => c_18 (by rw [h])
        refine lv_aload_n hx hb dX4_pair_23 rfl (lv_at hl 0 rfl) ?_
        refine va_get (D := (dC, dI)) (ci := 4) (v := .ref (k 5)) (C := RX4) (T := TX4) (N := 22) hx hb hT hiX4 hown hK hP 0 rfl rfl 8 (by decide) (hT _ kf_X4_27) (fun _ h9 => h9) rfl dX4_pair_24 ?_
        refine lv_iload_n hx hb dX4_pair_27 rfl (lv_at hl 1 rfl) ?_
        refine ald_i hx hb hK hP 5 0 rfl rfl (by decide) (w := i9) rfl (by omega) dX4_pair_28 ?_
        refine lv_bipush (v := (-9)) hx hb dX4_pair_29 (by decide) ?_
        refine lv_icmp_ne (tgt := 67) hx hb dX4_pair_31 (by decide) (fun c_31 => ?_) (fun c_31 => ?_)
        · refine lv_bipush (v := (-3)) hx hb dX4_pair_67 (by decide) ?_
          exact retM_i (S := MS) (post := fun r u => (((¬ ∃ i, i < 6 ∧ (nI i9) = nI i ∧ ¬ isI i = 0) ∨ (¬ ∃ j, j < 6 ∧ (nI j9) = nI j ∧ ¬ isI j = 0) ∨ (nI i9) = (nI j9)) ∧ r = -1 ∧ u = (ln, cn, se, isI, we, br, ma, sf, pa)) ∨ (∃ i j, i < 6 ∧ j < 6 ∧ (nI i9) = nI i ∧ (nI j9) = nI j ∧ i ≠ j ∧ ¬ isI i = 0 ∧ ¬ isI j = 0 ∧ (((¬ ma i = -9 ∨ ¬ ma j = -9 ∨ ¬ sf i = -9 ∨ ¬ sf j = -9) ∧ r = -3 ∧ u = (ln, cn, se, isI, we, br, ma, sf, pa)) ∨ (¬ (¬ ma i = -9 ∨ ¬ ma j = -9 ∨ ¬ sf i = -9 ∨ ¬ sf j = -9) ∧ r = 1 ∧ u = (ln, cn, se, isI, we, br, (upd (upd ma i (nI j)) j (nI i)), sf, pa))))) (w2 := fun u => mWt cI cZ k up lo tm u) (ln, cn, se, isI, we, br, ma, sf, pa) hx hb hr hlocks (by first | exact Or.inl ⟨Or.inl hw_2, rfl, rfl⟩ | exact Or.inl ⟨Or.inr (Or.inl hw_10), rfl, rfl⟩ | exact Or.inl ⟨Or.inr (Or.inr c_18), rfl, rfl⟩ | exact Or.inr ⟨i9, j9, hi, hj, rfl, rfl, hij, hbi, hbj, Or.inl ⟨by first | exact Or.inl c_31 | exact Or.inr (Or.inl c_42) | exact Or.inr (Or.inr (Or.inl c_53)) | exact Or.inr (Or.inr (Or.inr c_64)), rfl, rfl⟩⟩ | exact Or.inr ⟨i9, j9, hi, hj, rfl, rfl, hij, hbi, hbj, Or.inr ⟨fun h => by rcases h with h | h | h | h; exact h c_31; exact h c_42; exact h c_53; exact h c_64, rfl, rfl⟩⟩) hP hK hD hS dX4_pair_69
        · refine lv_aload_n hx hb dX4_pair_34 rfl (lv_at hl 0 rfl) ?_
          refine va_get (D := (dC, dI)) (ci := 4) (v := .ref (k 5)) (C := RX4) (T := TX4) (N := 22) hx hb hT hiX4 hown hK hP 0 rfl rfl 8 (by decide) (hT _ kf_X4_27) (fun _ h9 => h9) rfl dX4_pair_35 ?_
          refine lv_iload_n hx hb dX4_pair_38 rfl (lv_at hl 2 rfl) ?_
          refine ald_i hx hb hK hP 5 0 rfl rfl (by decide) (w := j9) rfl (by omega) dX4_pair_39 ?_
          refine lv_bipush (v := (-9)) hx hb dX4_pair_40 (by decide) ?_
          refine lv_icmp_ne (tgt := 67) hx hb dX4_pair_42 (by decide) (fun c_42 => ?_) (fun c_42 => ?_)
          · refine lv_bipush (v := (-3)) hx hb dX4_pair_67 (by decide) ?_
            exact retM_i (S := MS) (post := fun r u => (((¬ ∃ i, i < 6 ∧ (nI i9) = nI i ∧ ¬ isI i = 0) ∨ (¬ ∃ j, j < 6 ∧ (nI j9) = nI j ∧ ¬ isI j = 0) ∨ (nI i9) = (nI j9)) ∧ r = -1 ∧ u = (ln, cn, se, isI, we, br, ma, sf, pa)) ∨ (∃ i j, i < 6 ∧ j < 6 ∧ (nI i9) = nI i ∧ (nI j9) = nI j ∧ i ≠ j ∧ ¬ isI i = 0 ∧ ¬ isI j = 0 ∧ (((¬ ma i = -9 ∨ ¬ ma j = -9 ∨ ¬ sf i = -9 ∨ ¬ sf j = -9) ∧ r = -3 ∧ u = (ln, cn, se, isI, we, br, ma, sf, pa)) ∨ (¬ (¬ ma i = -9 ∨ ¬ ma j = -9 ∨ ¬ sf i = -9 ∨ ¬ sf j = -9) ∧ r = 1 ∧ u = (ln, cn, se, isI, we, br, (upd (upd ma i (nI j)) j (nI i)), sf, pa))))) (w2 := fun u => mWt cI cZ k up lo tm u) (ln, cn, se, isI, we, br, ma, sf, pa) hx hb hr hlocks (by first | exact Or.inl ⟨Or.inl hw_2, rfl, rfl⟩ | exact Or.inl ⟨Or.inr (Or.inl hw_10), rfl, rfl⟩ | exact Or.inl ⟨Or.inr (Or.inr c_18), rfl, rfl⟩ | exact Or.inr ⟨i9, j9, hi, hj, rfl, rfl, hij, hbi, hbj, Or.inl ⟨by first | exact Or.inl c_31 | exact Or.inr (Or.inl c_42) | exact Or.inr (Or.inr (Or.inl c_53)) | exact Or.inr (Or.inr (Or.inr c_64)), rfl, rfl⟩⟩ | exact Or.inr ⟨i9, j9, hi, hj, rfl, rfl, hij, hbi, hbj, Or.inr ⟨fun h => by rcases h with h | h | h | h; exact h c_31; exact h c_42; exact h c_53; exact h c_64, rfl, rfl⟩⟩) hP hK hD hS dX4_pair_69
          · refine lv_aload_n hx hb dX4_pair_45 rfl (lv_at hl 0 rfl) ?_
            refine va_get (D := (dC, dI)) (ci := 4) (v := .ref (k 6)) (C := RX4) (T := TX4) (N := 22) hx hb hT hiX4 hown hK hP 0 rfl rfl 9 (by decide) (hT _ kf_X4_30) (fun _ h9 => h9) rfl dX4_pair_46 ?_
            refine lv_iload_n hx hb dX4_pair_49 rfl (lv_at hl 1 rfl) ?_
            refine ald_i hx hb hK hP 6 0 rfl rfl (by decide) (w := i9) rfl (by omega) dX4_pair_50 ?_
            refine lv_bipush (v := (-9)) hx hb dX4_pair_51 (by decide) ?_
            refine lv_icmp_ne (tgt := 67) hx hb dX4_pair_53 (by decide) (fun c_53 => ?_) (fun c_53 => ?_)
            · refine lv_bipush (v := (-3)) hx hb dX4_pair_67 (by decide) ?_
              exact retM_i (S := MS) (post := fun r u => (((¬ ∃ i, i < 6 ∧ (nI i9) = nI i ∧ ¬ isI i = 0) ∨ (¬ ∃ j, j < 6 ∧ (nI j9) = nI j ∧ ¬ isI j = 0) ∨ (nI i9) = (nI j9)) ∧ r = -1 ∧ u = (ln, cn, se, isI, we, br, ma, sf, pa)) ∨ (∃ i j, i < 6 ∧ j < 6 ∧ (nI i9) = nI i ∧ (nI j9) = nI j ∧ i ≠ j ∧ ¬ isI i = 0 ∧ ¬ isI j = 0 ∧ (((¬ ma i = -9 ∨ ¬ ma j = -9 ∨ ¬ sf i = -9 ∨ ¬ sf j = -9) ∧ r = -3 ∧ u = (ln, cn, se, isI, we, br, ma, sf, pa)) ∨ (¬ (¬ ma i = -9 ∨ ¬ ma j = -9 ∨ ¬ sf i = -9 ∨ ¬ sf j = -9) ∧ r = 1 ∧ u = (ln, cn, se, isI, we, br, (upd (upd ma i (nI j)) j (nI i)), sf, pa))))) (w2 := fun u => mWt cI cZ k up lo tm u) (ln, cn, se, isI, we, br, ma, sf, pa) hx hb hr hlocks (by first | exact Or.inl ⟨Or.inl hw_2, rfl, rfl⟩ | exact Or.inl ⟨Or.inr (Or.inl hw_10), rfl, rfl⟩ | exact Or.inl ⟨Or.inr (Or.inr c_18), rfl, rfl⟩ | exact Or.inr ⟨i9, j9, hi, hj, rfl, rfl, hij, hbi, hbj, Or.inl ⟨by first | exact Or.inl c_31 | exact Or.inr (Or.inl c_42) | exact Or.inr (Or.inr (Or.inl c_53)) | exact Or.inr (Or.inr (Or.inr c_64)), rfl, rfl⟩⟩ | exact Or.inr ⟨i9, j9, hi, hj, rfl, rfl, hij, hbi, hbj, Or.inr ⟨fun h => by rcases h with h | h | h | h; exact h c_31; exact h c_42; exact h c_53; exact h c_64, rfl, rfl⟩⟩) hP hK hD hS dX4_pair_69
            · refine lv_aload_n hx hb dX4_pair_56 rfl (lv_at hl 0 rfl) ?_
              refine va_get (D := (dC, dI)) (ci := 4) (v := .ref (k 6)) (C := RX4) (T := TX4) (N := 22) hx hb hT hiX4 hown hK hP 0 rfl rfl 9 (by decide) (hT _ kf_X4_30) (fun _ h9 => h9) rfl dX4_pair_57 ?_
              refine lv_iload_n hx hb dX4_pair_60 rfl (lv_at hl 2 rfl) ?_
              refine ald_i hx hb hK hP 6 0 rfl rfl (by decide) (w := j9) rfl (by omega) dX4_pair_61 ?_
              refine lv_bipush (v := (-9)) hx hb dX4_pair_62 (by decide) ?_
              refine lv_icmp_eq (tgt := 70) hx hb dX4_pair_64 (by decide) (fun c_64 => ?_) (fun c_64 => ?_)
              · refine lv_aload_n hx hb dX4_pair_70 rfl (lv_at hl 0 rfl) ?_
                refine va_get (D := (dC, dI)) (ci := 4) (v := .ref (k 5)) (C := RX4) (T := TX4) (N := 22) hx hb hT hiX4 hown hK hP 0 rfl rfl 8 (by decide) (hT _ kf_X4_27) (fun _ h9 => h9) rfl dX4_pair_71 ?_
                refine lv_iload_n hx hb dX4_pair_74 rfl (lv_at hl 1 rfl) ?_
                refine lv_iload_n hx hb dX4_pair_75 rfl (lv_at hl 2 rfl) ?_
                refine ast_i hx hb hK hP hD hS 5 0 rfl rfl (by decide) (w := i9) rfl (by omega) dX4_pair_76 (fun H locs hP hD hS => ?_)
                have hP : va_P (dC, dI) vwCl (mW cI cZ k up lo ln cn tm se isI we br (upd ma i9 (nI j9)) sf pa) H := hP
                have hD : va_D A (mW cI cZ k up lo ln cn tm se isI we br (upd ma i9 (nI j9)) sf pa) := hD
                refine lv_aload_n hx hb dX4_pair_77 rfl (lv_at hl 0 rfl) ?_
                refine va_get (D := (dC, dI)) (ci := 4) (v := .ref (k 5)) (C := RX4) (T := TX4) (N := 22) hx hb hT hiX4 hown hK hP 0 rfl rfl 8 (by decide) (hT _ kf_X4_27) (fun _ h9 => h9) rfl dX4_pair_78 ?_
                refine lv_iload_n hx hb dX4_pair_81 rfl (lv_at hl 2 rfl) ?_
                refine lv_iload_n hx hb dX4_pair_82 rfl (lv_at hl 1 rfl) ?_
                refine ast_i hx hb hK hP hD hS 5 0 rfl rfl (by decide) (w := j9) rfl (by omega) dX4_pair_83 (fun H locs hP hD hS => ?_)
                have hP : va_P (dC, dI) vwCl (mW cI cZ k up lo ln cn tm se isI we br (upd (upd ma i9 (nI j9)) j9 (nI i9)) sf pa) H := hP
                have hD : va_D A (mW cI cZ k up lo ln cn tm se isI we br (upd (upd ma i9 (nI j9)) j9 (nI i9)) sf pa) := hD
                refine lv_iconst (v := 1) hx hb dX4_pair_84 (by decide) ?_
                exact retM_i (S := MS) (post := fun r u => (((¬ ∃ i, i < 6 ∧ (nI i9) = nI i ∧ ¬ isI i = 0) ∨ (¬ ∃ j, j < 6 ∧ (nI j9) = nI j ∧ ¬ isI j = 0) ∨ (nI i9) = (nI j9)) ∧ r = -1 ∧ u = (ln, cn, se, isI, we, br, ma, sf, pa)) ∨ (∃ i j, i < 6 ∧ j < 6 ∧ (nI i9) = nI i ∧ (nI j9) = nI j ∧ i ≠ j ∧ ¬ isI i = 0 ∧ ¬ isI j = 0 ∧ (((¬ ma i = -9 ∨ ¬ ma j = -9 ∨ ¬ sf i = -9 ∨ ¬ sf j = -9) ∧ r = -3 ∧ u = (ln, cn, se, isI, we, br, ma, sf, pa)) ∨ (¬ (¬ ma i = -9 ∨ ¬ ma j = -9 ∨ ¬ sf i = -9 ∨ ¬ sf j = -9) ∧ r = 1 ∧ u = (ln, cn, se, isI, we, br, (upd (upd ma i (nI j)) j (nI i)), sf, pa))))) (w2 := fun u => mWt cI cZ k up lo tm u) (ln, cn, se, isI, we, br, (upd (upd ma i9 (nI j9)) j9 (nI i9)), sf, pa) hx hb hr hlocks (by first | exact Or.inl ⟨Or.inl hw_2, rfl, rfl⟩ | exact Or.inl ⟨Or.inr (Or.inl hw_10), rfl, rfl⟩ | exact Or.inl ⟨Or.inr (Or.inr c_18), rfl, rfl⟩ | exact Or.inr ⟨i9, j9, hi, hj, rfl, rfl, hij, hbi, hbj, Or.inl ⟨by first | exact Or.inl c_31 | exact Or.inr (Or.inl c_42) | exact Or.inr (Or.inr (Or.inl c_53)) | exact Or.inr (Or.inr (Or.inr c_64)), rfl, rfl⟩⟩ | exact Or.inr ⟨i9, j9, hi, hj, rfl, rfl, hij, hbi, hbj, Or.inr ⟨fun h => by rcases h with h | h | h | h; exact h c_31; exact h c_42; exact h c_53; exact h c_64, rfl, rfl⟩⟩) hP hK hD hS dX4_pair_85
              · refine lv_bipush (v := (-3)) hx hb dX4_pair_67 (by decide) ?_
                exact retM_i (S := MS) (post := fun r u => (((¬ ∃ i, i < 6 ∧ (nI i9) = nI i ∧ ¬ isI i = 0) ∨ (¬ ∃ j, j < 6 ∧ (nI j9) = nI j ∧ ¬ isI j = 0) ∨ (nI i9) = (nI j9)) ∧ r = -1 ∧ u = (ln, cn, se, isI, we, br, ma, sf, pa)) ∨ (∃ i j, i < 6 ∧ j < 6 ∧ (nI i9) = nI i ∧ (nI j9) = nI j ∧ i ≠ j ∧ ¬ isI i = 0 ∧ ¬ isI j = 0 ∧ (((¬ ma i = -9 ∨ ¬ ma j = -9 ∨ ¬ sf i = -9 ∨ ¬ sf j = -9) ∧ r = -3 ∧ u = (ln, cn, se, isI, we, br, ma, sf, pa)) ∨ (¬ (¬ ma i = -9 ∨ ¬ ma j = -9 ∨ ¬ sf i = -9 ∨ ¬ sf j = -9) ∧ r = 1 ∧ u = (ln, cn, se, isI, we, br, (upd (upd ma i (nI j)) j (nI i)), sf, pa))))) (w2 := fun u => mWt cI cZ k up lo tm u) (ln, cn, se, isI, we, br, ma, sf, pa) hx hb hr hlocks (by first | exact Or.inl ⟨Or.inl hw_2, rfl, rfl⟩ | exact Or.inl ⟨Or.inr (Or.inl hw_10), rfl, rfl⟩ | exact Or.inl ⟨Or.inr (Or.inr c_18), rfl, rfl⟩ | exact Or.inr ⟨i9, j9, hi, hj, rfl, rfl, hij, hbi, hbj, Or.inl ⟨by first | exact Or.inl c_31 | exact Or.inr (Or.inl c_42) | exact Or.inr (Or.inr (Or.inl c_53)) | exact Or.inr (Or.inr (Or.inr c_64)), rfl, rfl⟩⟩ | exact Or.inr ⟨i9, j9, hi, hj, rfl, rfl, hij, hbi, hbj, Or.inr ⟨fun h => by rcases h with h | h | h | h; exact h c_31; exact h c_42; exact h c_53; exact h c_64, rfl, rfl⟩⟩) hP hK hD hS dX4_pair_69
      · refine lv_iconst (v := (-1)) hx hb dX4_pair_21 (by decide) ?_
        exact retM_i (S := MS) (post := fun r u => (((¬ ∃ i, i < 6 ∧ (nI i9) = nI i ∧ ¬ isI i = 0) ∨ (¬ ∃ j, j < 6 ∧ (nI j9) = nI j ∧ ¬ isI j = 0) ∨ (nI i9) = (nI j9)) ∧ r = -1 ∧ u = (ln, cn, se, isI, we, br, ma, sf, pa)) ∨ (∃ i j, i < 6 ∧ j < 6 ∧ (nI i9) = nI i ∧ (nI j9) = nI j ∧ i ≠ j ∧ ¬ isI i = 0 ∧ ¬ isI j = 0 ∧ (((¬ ma i = -9 ∨ ¬ ma j = -9 ∨ ¬ sf i = -9 ∨ ¬ sf j = -9) ∧ r = -3 ∧ u = (ln, cn, se, isI, we, br, ma, sf, pa)) ∨ (¬ (¬ ma i = -9 ∨ ¬ ma j = -9 ∨ ¬ sf i = -9 ∨ ¬ sf j = -9) ∧ r = 1 ∧ u = (ln, cn, se, isI, we, br, (upd (upd ma i (nI j)) j (nI i)), sf, pa))))) (w2 := fun u => mWt cI cZ k up lo tm u) (ln, cn, se, isI, we, br, ma, sf, pa) hx hb hr hlocks (by first | exact Or.inl ⟨Or.inl hw_2, rfl, rfl⟩ | exact Or.inl ⟨Or.inr (Or.inl hw_10), rfl, rfl⟩ | exact Or.inl ⟨Or.inr (Or.inr c_18), rfl, rfl⟩ | exact Or.inr ⟨i9, j9, hi, hj, rfl, rfl, hij, hbi, hbj, Or.inl ⟨by first | exact Or.inl c_31 | exact Or.inr (Or.inl c_42) | exact Or.inr (Or.inr (Or.inl c_53)) | exact Or.inr (Or.inr (Or.inr c_64)), rfl, rfl⟩⟩ | exact Or.inr ⟨i9, j9, hi, hj, rfl, rfl, hij, hbi, hbj, Or.inr ⟨fun h => by rcases h with h | h | h | h; exact h c_31; exact h c_42; exact h c_53; exact h c_64, rfl, rfl⟩⟩) hP hK hD hS dX4_pair_22
    · refine lv_if_eq (tgt := 21) hx hb dX4_pair_13 (by decide) (fun c_13 => ?_) (fun h => absurd h (by decide))
      refine lv_iconst (v := (-1)) hx hb dX4_pair_21 (by decide) ?_
      exact retM_i (S := MS) (post := fun r u => (((¬ ∃ i, i < 6 ∧ (nI i9) = nI i ∧ ¬ isI i = 0) ∨ (¬ ∃ j, j < 6 ∧ w = nI j ∧ ¬ isI j = 0) ∨ (nI i9) = w) ∧ r = -1 ∧ u = (ln, cn, se, isI, we, br, ma, sf, pa)) ∨ (∃ i j, i < 6 ∧ j < 6 ∧ (nI i9) = nI i ∧ w = nI j ∧ i ≠ j ∧ ¬ isI i = 0 ∧ ¬ isI j = 0 ∧ (((¬ ma i = -9 ∨ ¬ ma j = -9 ∨ ¬ sf i = -9 ∨ ¬ sf j = -9) ∧ r = -3 ∧ u = (ln, cn, se, isI, we, br, ma, sf, pa)) ∨ (¬ (¬ ma i = -9 ∨ ¬ ma j = -9 ∨ ¬ sf i = -9 ∨ ¬ sf j = -9) ∧ r = 1 ∧ u = (ln, cn, se, isI, we, br, (upd (upd ma i (nI j)) j (nI i)), sf, pa))))) (w2 := fun u => mWt cI cZ k up lo tm u) (ln, cn, se, isI, we, br, ma, sf, pa) hx hb hr hlocks (by first | exact Or.inl ⟨Or.inl hw_2, rfl, rfl⟩ | exact Or.inl ⟨Or.inr (Or.inl hw_10), rfl, rfl⟩ | exact Or.inl ⟨Or.inr (Or.inr c_18), rfl, rfl⟩ | exact Or.inr ⟨i9, j9, hi, hj, rfl, rfl, hij, hbi, hbj, Or.inl ⟨by first | exact Or.inl c_31 | exact Or.inr (Or.inl c_42) | exact Or.inr (Or.inr (Or.inl c_53)) | exact Or.inr (Or.inr (Or.inr c_64)), rfl, rfl⟩⟩ | exact Or.inr ⟨i9, j9, hi, hj, rfl, rfl, hij, hbi, hbj, Or.inr ⟨fun h => by rcases h with h | h | h | h; exact h c_31; exact h c_42; exact h c_53; exact h c_64, rfl, rfl⟩⟩) hP hK hD hS dX4_pair_22
  · refine lv_if_eq (tgt := 21) hx hb dX4_pair_5 (by decide) (fun c_5 => ?_) (fun h => absurd h (by decide))
    refine lv_iconst (v := (-1)) hx hb dX4_pair_21 (by decide) ?_
    exact retM_i (S := MS) (post := fun r u => (((¬ ∃ i, i < 6 ∧ v = nI i ∧ ¬ isI i = 0) ∨ (¬ ∃ j, j < 6 ∧ w = nI j ∧ ¬ isI j = 0) ∨ v = w) ∧ r = -1 ∧ u = (ln, cn, se, isI, we, br, ma, sf, pa)) ∨ (∃ i j, i < 6 ∧ j < 6 ∧ v = nI i ∧ w = nI j ∧ i ≠ j ∧ ¬ isI i = 0 ∧ ¬ isI j = 0 ∧ (((¬ ma i = -9 ∨ ¬ ma j = -9 ∨ ¬ sf i = -9 ∨ ¬ sf j = -9) ∧ r = -3 ∧ u = (ln, cn, se, isI, we, br, ma, sf, pa)) ∨ (¬ (¬ ma i = -9 ∨ ¬ ma j = -9 ∨ ¬ sf i = -9 ∨ ¬ sf j = -9) ∧ r = 1 ∧ u = (ln, cn, se, isI, we, br, (upd (upd ma i (nI j)) j (nI i)), sf, pa))))) (w2 := fun u => mWt cI cZ k up lo tm u) (ln, cn, se, isI, we, br, ma, sf, pa) hx hb hr hlocks (by first | exact Or.inl ⟨Or.inl hw_2, rfl, rfl⟩ | exact Or.inl ⟨Or.inr (Or.inl hw_10), rfl, rfl⟩ | exact Or.inl ⟨Or.inr (Or.inr c_18), rfl, rfl⟩ | exact Or.inr ⟨i9, j9, hi, hj, rfl, rfl, hij, hbi, hbj, Or.inl ⟨by first | exact Or.inl c_31 | exact Or.inr (Or.inl c_42) | exact Or.inr (Or.inr (Or.inl c_53)) | exact Or.inr (Or.inr (Or.inr c_64)), rfl, rfl⟩⟩ | exact Or.inr ⟨i9, j9, hi, hj, rfl, rfl, hij, hbi, hbj, Or.inr ⟨fun h => by rcases h with h | h | h | h; exact h c_31; exact h c_42; exact h c_53; exact h c_64, rfl, rfl⟩⟩) hP hK hD hS dX4_pair_22
set_option maxHeartbeats 4000000 in
set_option maxRecDepth 100000 in
theorem c_X4_part (sz : Nat) (v : Int32) (hm : mok ma) : Met l yX4_part (wT yX4_part cX4_part 2 (some .int)) ({ frames := 2, cells := 0, slots := 0, locals := 43 }) (pM (dC, dI) (ty3 cI cJ cZ) (mW cI cZ k up lo ln cn tm se isI we br ma sf pa) [.ref (k 0), .int v] sz) (va_Qi (S := MS) (fun r u => xk (fun j => ¬ isI j = 0) v (r = -1 ∧ u = (ln, cn, se, isI, we, br, ma, sf, pa)) (fun j => ((ma j = -9 ∨ ¬ sf j = -9) ∧ r = -3 ∧ u = (ln, cn, se, isI, we, br, ma, sf, pa)) ∨ (¬ (ma j = -9 ∨ ¬ sf j = -9) ∧ r = 1 ∧ u = (ln, cn, se, isI, we, br, (upd (upd ma (m_mt ma j) (-9)) j (-9)), sf, pa)))) (fun u t9 => bM (dC, dI) (ty3 cI cJ cZ) (va_A (mW cI cZ k up lo ln cn tm se isI we br ma sf pa) sz) (mWt cI cZ k up lo tm u) t9) (va_A (mW cI cZ k up lo ln cn tm se isI we br ma sf pa) sz)) 0 0 (va_A (mW cI cZ k up lo ln cn tm se isI we br ma sf pa) sz) := by
  refine Met.ofW (cc := cX4_part) (maxL := 2) (ret := (some .int)) (by decide) rfl ?_
  intro p e s m args below meth c s₁ B hml hv
  obtain ⟨rfl, hsz, hP, hK, hD0⟩ := hv
  have hx := B.exec
  have hb := B.bytes
  have hr := B.returns
  have hts := atoms_spec (ws := wT yX4_part cX4_part 2 (some .int)) B.pre
  have hT := wT_T hts
  have hown : s.vm.findClass RX4 = some m.cls := findClass_of_methodNamed B.named
  have hlocks := B.notSynchronized
  subst hsz
  have hD := hD0.self (sz := s.heap.size)
  generalize hAe : va_A (mW cI cZ k up lo ln cn tm se isI we br ma sf pa) s.heap.size = A at hD ⊢
  have hA : ∀ q : Nat, s.heap.size ≤ q → A q := fun q h => by rw [← hAe]; exact Or.inr h
  have hS : va_S A s.heap s.heap [] := va_S.rf
  have hl := lv_entry ([.ref (k 0), .int v]) (n := 2) (Nat.le_of_ble_eq_true rfl)
  rw [lg_entry_eq]
  generalize (lg_sl ([.ref (k 0), .int v]) ++ List.replicate (2 - (lg_sl ([.ref (k 0), .int v])).length) Slot.unset).toArray = ls at hl ⊢
  have hl : lv_has ls 2 [(0, .ref (k 0)), (1, .int v)] := hl
  refine lv_aload_n hx hb dX4_part_0 rfl (lv_at hl 0 rfl) ?_
  refine lv_iload_n hx hb dX4_part_1 rfl (lv_at hl 1 rfl) ?_
  refine vp_callSi (rRV (As := [.int v]) (rest := []) ⟨hx, hb, hml, hown, hT⟩ (c_X4_isThere (l := l) v) (cwTV 1 hT kc_X4_isThere km_X4_98 ki_X4_isThere ks_X4_isThere kn_X4 rfl rfl md_X4_isThere ⟨Nat.le_of_ble_eq_true rfl, Nat.le_of_ble_eq_true rfl⟩) hP hK (va_recv hK hP (ci := 4) (q0 := 0) rfl rfl) rfl hl.1 rfl (Nat.le_of_ble_eq_true rfl) dX4_part_2 ⟨Nat.le_of_ble_eq_true rfl, Nat.le_of_ble_eq_true rfl⟩) (fun r_2 hw_2 => ?_)
  rcases hw_2 with ⟨rfl, hw_2⟩ | ⟨rfl, hw_2⟩
  · obtain ⟨j, hj, rfl, hbj⟩ := hw_2
    refine lv_if_ne (tgt := 10) hx hb dX4_part_5 (by decide) (fun c_5 => ?_) (fun h => absurd h (by decide))
    refine lv_aload_n hx hb dX4_part_10 rfl (lv_at hl 0 rfl) ?_
    refine va_get (D := (dC, dI)) (ci := 4) (v := .ref (k 5)) (C := RX4) (T := TX4) (N := 22) hx hb hT hiX4 hown hK hP 0 rfl rfl 8 (by decide) (hT _ kf_X4_27) (fun _ h9 => h9) rfl dX4_part_11 ?_
    refine lv_iload_n hx hb dX4_part_14 rfl (lv_at hl 1 rfl) ?_
    refine ald_i hx hb hK hP 5 0 rfl rfl (by decide) (w := j) rfl (by omega) dX4_part_15 ?_
    refine lv_bipush (v := (-9)) hx hb dX4_part_16 (by decide) ?_
    refine lv_icmp_eq (tgt := 32) hx hb dX4_part_18 (by decide) (fun c_18 => ?_) (fun c_18 => ?_)
    · refine lv_bipush (v := (-3)) hx hb dX4_part_32 (by decide) ?_
      exact retM_i (S := MS) (post := fun r u => xk (fun j => ¬ isI j = 0) (nI j) (r = -1 ∧ u = (ln, cn, se, isI, we, br, ma, sf, pa)) (fun j => ((ma j = -9 ∨ ¬ sf j = -9) ∧ r = -3 ∧ u = (ln, cn, se, isI, we, br, ma, sf, pa)) ∨ (¬ (ma j = -9 ∨ ¬ sf j = -9) ∧ r = 1 ∧ u = (ln, cn, se, isI, we, br, (upd (upd ma (m_mt ma j) (-9)) j (-9)), sf, pa)))) (w2 := fun u => mWt cI cZ k up lo tm u) (ln, cn, se, isI, we, br, ma, sf, pa) hx hb hr hlocks (by first | exact Or.inr ⟨hw_2, rfl, rfl⟩ | exact Or.inl ⟨j, hj, rfl, hbj, Or.inl ⟨Or.inl c_18, rfl, rfl⟩⟩ | exact Or.inl ⟨j, hj, rfl, hbj, Or.inl ⟨Or.inr c_29, rfl, rfl⟩⟩ | exact Or.inl ⟨j, hj, rfl, hbj, Or.inr ⟨fun h => h.elim c_18 (fun h2 => h2 c_29), rfl, rfl⟩⟩) hP hK hD hS dX4_part_34
    · refine lv_aload_n hx hb dX4_part_21 rfl (lv_at hl 0 rfl) ?_
      refine va_get (D := (dC, dI)) (ci := 4) (v := .ref (k 6)) (C := RX4) (T := TX4) (N := 22) hx hb hT hiX4 hown hK hP 0 rfl rfl 9 (by decide) (hT _ kf_X4_30) (fun _ h9 => h9) rfl dX4_part_22 ?_
      refine lv_iload_n hx hb dX4_part_25 rfl (lv_at hl 1 rfl) ?_
      refine ald_i hx hb hK hP 6 0 rfl rfl (by decide) (w := j) rfl (by omega) dX4_part_26 ?_
      refine lv_bipush (v := (-9)) hx hb dX4_part_27 (by decide) ?_
      refine lv_icmp_eq (tgt := 35) hx hb dX4_part_29 (by decide) (fun c_29 => ?_) (fun c_29 => ?_)
      · refine lv_aload_n hx hb dX4_part_35 rfl (lv_at hl 0 rfl) ?_
        refine va_get (D := (dC, dI)) (ci := 4) (v := .ref (k 5)) (C := RX4) (T := TX4) (N := 22) hx hb hT hiX4 hown hK hP 0 rfl rfl 8 (by decide) (hT _ kf_X4_27) (fun _ h9 => h9) rfl dX4_part_36 ?_
        refine lv_aload_n hx hb dX4_part_39 rfl (lv_at hl 0 rfl) ?_
        refine va_get (D := (dC, dI)) (ci := 4) (v := .ref (k 5)) (C := RX4) (T := TX4) (N := 22) hx hb hT hiX4 hown hK hP 0 rfl rfl 8 (by decide) (hT _ kf_X4_27) (fun _ h9 => h9) rfl dX4_part_40 ?_
        refine lv_iload_n hx hb dX4_part_43 rfl (lv_at hl 1 rfl) ?_
        refine ald_i hx hb hK hP 5 0 rfl rfl (by decide) (w := j) rfl (by omega) dX4_part_44 ?_
        refine lv_bipush (v := (-9)) hx hb dX4_part_45 (by decide) ?_
        refine ast_i hx hb hK hP hD hS 5 0 rfl rfl (by decide) (w := (m_mt ma j)) (m_idx hm hj c_18).1 (m_idx hm hj c_18).2 dX4_part_47 (fun H locs hP hD hS => ?_)
        have hP : va_P (dC, dI) vwCl (mW cI cZ k up lo ln cn tm se isI we br (upd ma (m_mt ma j) (-9)) sf pa) H := hP
        have hD : va_D A (mW cI cZ k up lo ln cn tm se isI we br (upd ma (m_mt ma j) (-9)) sf pa) := hD
        refine lv_aload_n hx hb dX4_part_48 rfl (lv_at hl 0 rfl) ?_
        refine va_get (D := (dC, dI)) (ci := 4) (v := .ref (k 5)) (C := RX4) (T := TX4) (N := 22) hx hb hT hiX4 hown hK hP 0 rfl rfl 8 (by decide) (hT _ kf_X4_27) (fun _ h9 => h9) rfl dX4_part_49 ?_
        refine lv_iload_n hx hb dX4_part_52 rfl (lv_at hl 1 rfl) ?_
        refine lv_bipush (v := (-9)) hx hb dX4_part_53 (by decide) ?_
        refine ast_i hx hb hK hP hD hS 5 0 rfl rfl (by decide) (w := j) rfl (by omega) dX4_part_55 (fun H locs hP hD hS => ?_)
        have hP : va_P (dC, dI) vwCl (mW cI cZ k up lo ln cn tm se isI we br (upd (upd ma (m_mt ma j) (-9)) j (-9)) sf pa) H := hP
        have hD : va_D A (mW cI cZ k up lo ln cn tm se isI we br (upd (upd ma (m_mt ma j) (-9)) j (-9)) sf pa) := hD
        refine lv_iconst (v := 1) hx hb dX4_part_56 (by decide) ?_
        exact retM_i (S := MS) (post := fun r u => xk (fun j => ¬ isI j = 0) (nI j) (r = -1 ∧ u = (ln, cn, se, isI, we, br, ma, sf, pa)) (fun j => ((ma j = -9 ∨ ¬ sf j = -9) ∧ r = -3 ∧ u = (ln, cn, se, isI, we, br, ma, sf, pa)) ∨ (¬ (ma j = -9 ∨ ¬ sf j = -9) ∧ r = 1 ∧ u = (ln, cn, se, isI, we, br, (upd (upd ma (m_mt ma j) (-9)) j (-9)), sf, pa)))) (w2 := fun u => mWt cI cZ k up lo tm u) (ln, cn, se, isI, we, br, (upd (upd ma (m_mt ma j) (-9)) j (-9)), sf, pa) hx hb hr hlocks (by first | exact Or.inr ⟨hw_2, rfl, rfl⟩ | exact Or.inl ⟨j, hj, rfl, hbj, Or.inl ⟨Or.inl c_18, rfl, rfl⟩⟩ | exact Or.inl ⟨j, hj, rfl, hbj, Or.inl ⟨Or.inr c_29, rfl, rfl⟩⟩ | exact Or.inl ⟨j, hj, rfl, hbj, Or.inr ⟨fun h => h.elim c_18 (fun h2 => h2 c_29), rfl, rfl⟩⟩) hP hK hD hS dX4_part_57
      · refine lv_bipush (v := (-3)) hx hb dX4_part_32 (by decide) ?_
        exact retM_i (S := MS) (post := fun r u => xk (fun j => ¬ isI j = 0) (nI j) (r = -1 ∧ u = (ln, cn, se, isI, we, br, ma, sf, pa)) (fun j => ((ma j = -9 ∨ ¬ sf j = -9) ∧ r = -3 ∧ u = (ln, cn, se, isI, we, br, ma, sf, pa)) ∨ (¬ (ma j = -9 ∨ ¬ sf j = -9) ∧ r = 1 ∧ u = (ln, cn, se, isI, we, br, (upd (upd ma (m_mt ma j) (-9)) j (-9)), sf, pa)))) (w2 := fun u => mWt cI cZ k up lo tm u) (ln, cn, se, isI, we, br, ma, sf, pa) hx hb hr hlocks (by first | exact Or.inr ⟨hw_2, rfl, rfl⟩ | exact Or.inl ⟨j, hj, rfl, hbj, Or.inl ⟨Or.inl c_18, rfl, rfl⟩⟩ | exact Or.inl ⟨j, hj, rfl, hbj, Or.inl ⟨Or.inr c_29, rfl, rfl⟩⟩ | exact Or.inl ⟨j, hj, rfl, hbj, Or.inr ⟨fun h => h.elim c_18 (fun h2 => h2 c_29), rfl, rfl⟩⟩) hP hK hD hS dX4_part_34
  · refine lv_if_ne (tgt := 10) hx hb dX4_part_5 (by decide) (fun h => absurd h (by decide)) (fun c_5 => ?_)
    refine lv_iconst (v := (-1)) hx hb dX4_part_8 (by decide) ?_
    exact retM_i (S := MS) (post := fun r u => xk (fun j => ¬ isI j = 0) v (r = -1 ∧ u = (ln, cn, se, isI, we, br, ma, sf, pa)) (fun j => ((ma j = -9 ∨ ¬ sf j = -9) ∧ r = -3 ∧ u = (ln, cn, se, isI, we, br, ma, sf, pa)) ∨ (¬ (ma j = -9 ∨ ¬ sf j = -9) ∧ r = 1 ∧ u = (ln, cn, se, isI, we, br, (upd (upd ma (m_mt ma j) (-9)) j (-9)), sf, pa)))) (w2 := fun u => mWt cI cZ k up lo tm u) (ln, cn, se, isI, we, br, ma, sf, pa) hx hb hr hlocks (by first | exact Or.inr ⟨hw_2, rfl, rfl⟩ | exact Or.inl ⟨j, hj, rfl, hbj, Or.inl ⟨Or.inl c_18, rfl, rfl⟩⟩ | exact Or.inl ⟨j, hj, rfl, hbj, Or.inl ⟨Or.inr c_29, rfl, rfl⟩⟩ | exact Or.inl ⟨j, hj, rfl, hbj, Or.inr ⟨fun h => h.elim c_18 (fun h2 => h2 c_29), rfl, rfl⟩⟩) hP hK hD hS dX4_part_9
set_option maxHeartbeats 4000000 in
set_option maxRecDepth 100000 in
theorem c_X4_settle (sz : Nat) (v x : Int32) (hm : mok ma) : Met l yX4_settle (wT yX4_settle cX4_settle 3 (some .int)) ({ frames := 2, cells := 0, slots := 0, locals := 43 }) (pM (dC, dI) (ty3 cI cJ cZ) (mW cI cZ k up lo ln cn tm se isI we br ma sf pa) [.ref (k 0), .int v, .int x] sz) (va_Qi (S := MS) (fun r u => xk (fun j => ¬ isI j = 0) v (r = -1 ∧ u = (ln, cn, se, isI, we, br, ma, sf, pa)) (fun j => (¬ (0 ≤ x ∧ x ≤ 1000000) ∧ r = -2 ∧ u = (ln, cn, se, isI, we, br, ma, sf, pa)) ∨ ((0 ≤ x ∧ x ≤ 1000000) ∧ (((¬ sf j = -9 ∨ 0 < pa j ∨ (¬ ma j = -9 ∧ ¬ pa (m_mt ma j) ≤ 0)) ∧ r = -3 ∧ u = (ln, cn, se, isI, we, br, ma, sf, pa)) ∨ (¬ (¬ sf j = -9 ∨ 0 < pa j ∨ (¬ ma j = -9 ∧ ¬ pa (m_mt ma j) ≤ 0)) ∧ r = 1 ∧ u = (ln, cn, se, isI, we, br, ma, (m_set ma sf j x), pa)))))) (fun u t9 => bM (dC, dI) (ty3 cI cJ cZ) (va_A (mW cI cZ k up lo ln cn tm se isI we br ma sf pa) sz) (mWt cI cZ k up lo tm u) t9) (va_A (mW cI cZ k up lo ln cn tm se isI we br ma sf pa) sz)) 0 0 (va_A (mW cI cZ k up lo ln cn tm se isI we br ma sf pa) sz) := by
  refine Met.ofW (cc := cX4_settle) (maxL := 3) (ret := (some .int)) (by decide) rfl ?_
  intro p e s m args below meth c s₁ B hml hv
  obtain ⟨rfl, hsz, hP, hK, hD0⟩ := hv
  have hx := B.exec
  have hb := B.bytes
  have hr := B.returns
  have hts := atoms_spec (ws := wT yX4_settle cX4_settle 3 (some .int)) B.pre
  have hT := wT_T hts
  have hown : s.vm.findClass RX4 = some m.cls := findClass_of_methodNamed B.named
  have hlocks := B.notSynchronized
  subst hsz
  have hD := hD0.self (sz := s.heap.size)
  generalize hAe : va_A (mW cI cZ k up lo ln cn tm se isI we br ma sf pa) s.heap.size = A at hD ⊢
  have hA : ∀ q : Nat, s.heap.size ≤ q → A q := fun q h => by rw [← hAe]; exact Or.inr h
  have hS : va_S A s.heap s.heap [] := va_S.rf
  have hl := lv_entry ([.ref (k 0), .int v, .int x]) (n := 3) (Nat.le_of_ble_eq_true rfl)
  rw [lg_entry_eq]
  generalize (lg_sl ([.ref (k 0), .int v, .int x]) ++ List.replicate (3 - (lg_sl ([.ref (k 0), .int v, .int x])).length) Slot.unset).toArray = ls at hl ⊢
  have hl : lv_has ls 3 [(0, .ref (k 0)), (1, .int v), (2, .int x)] := hl
  refine lv_aload_n hx hb dX4_settle_0 rfl (lv_at hl 0 rfl) ?_
  refine lv_iload_n hx hb dX4_settle_1 rfl (lv_at hl 1 rfl) ?_
  refine vp_callSi (rRV (As := [.int v]) (rest := []) ⟨hx, hb, hml, hown, hT⟩ (c_X4_isThere (l := l) v) (cwTV 1 hT kc_X4_isThere km_X4_98 ki_X4_isThere ks_X4_isThere kn_X4 rfl rfl md_X4_isThere ⟨Nat.le_of_ble_eq_true rfl, Nat.le_of_ble_eq_true rfl⟩) hP hK (va_recv hK hP (ci := 4) (q0 := 0) rfl rfl) rfl hl.1 rfl (Nat.le_of_ble_eq_true rfl) dX4_settle_2 ⟨Nat.le_of_ble_eq_true rfl, Nat.le_of_ble_eq_true rfl⟩) (fun r_2 hw_2 => ?_)
  rcases hw_2 with ⟨rfl, hw_2⟩ | ⟨rfl, hw_2⟩
  · obtain ⟨j, hj, rfl, hbj⟩ := hw_2
    refine lv_if_ne (tgt := 10) hx hb dX4_settle_5 (by decide) (fun c_5 => ?_) (fun h => absurd h (by decide))
    refine lv_iload_n hx hb dX4_settle_10 rfl (lv_at hl 2 rfl) ?_
    refine lv_iconst (v := 0) hx hb dX4_settle_11 (by decide) ?_
    refine lv_ldc hx hb hown (hT _ kk_X4_86) dX4_settle_12 ?_
    refine vp_callSi (rRS (As := [.int x, .int 0, .int 1000000]) (rest := []) ⟨hx, hb, hml, hown, hT⟩ (c_X4_within (l := l) x 0 1000000) (cwTS 3 hT kc_X4_within km_X4_82 kt_X4_within kn_X4 rfl rfl md_X4_within ⟨Nat.le_of_ble_eq_true rfl, Nat.le_of_ble_eq_true rfl⟩) nilP hK  rfl hl.1 rfl (Nat.le_of_ble_eq_true rfl) dX4_settle_14 ⟨Nat.le_of_ble_eq_true rfl, Nat.le_of_ble_eq_true rfl⟩) (fun r_14 hw_14 => ?_)
    rcases hw_14 with ⟨rfl, hw_14⟩ | ⟨rfl, hw_14⟩
    · refine lv_if_ne (tgt := 23) hx hb dX4_settle_17 (by decide) (fun c_17 => ?_) (fun h => absurd h (by decide))
      refine lv_aload_n hx hb dX4_settle_23 rfl (lv_at hl 0 rfl) ?_
      refine va_get (D := (dC, dI)) (ci := 4) (v := .ref (k 6)) (C := RX4) (T := TX4) (N := 22) hx hb hT hiX4 hown hK hP 0 rfl rfl 9 (by decide) (hT _ kf_X4_30) (fun _ h9 => h9) rfl dX4_settle_24 ?_
      refine lv_iload_n hx hb dX4_settle_27 rfl (lv_at hl 1 rfl) ?_
      refine ald_i hx hb hK hP 6 0 rfl rfl (by decide) (w := j) rfl (by omega) dX4_settle_28 ?_
      refine lv_bipush (v := (-9)) hx hb dX4_settle_29 (by decide) ?_
      refine lv_icmp_ne (tgt := 68) hx hb dX4_settle_31 (by decide) (fun c_31 => ?_) (fun c_31 => ?_)
      · refine lv_bipush (v := (-3)) hx hb dX4_settle_68 (by decide) ?_
        exact retM_i (S := MS) (post := fun r u => xk (fun j => ¬ isI j = 0) (nI j) (r = -1 ∧ u = (ln, cn, se, isI, we, br, ma, sf, pa)) (fun j => (¬ (0 ≤ x ∧ x ≤ 1000000) ∧ r = -2 ∧ u = (ln, cn, se, isI, we, br, ma, sf, pa)) ∨ ((0 ≤ x ∧ x ≤ 1000000) ∧ (((¬ sf j = -9 ∨ 0 < pa j ∨ (¬ ma j = -9 ∧ ¬ pa (m_mt ma j) ≤ 0)) ∧ r = -3 ∧ u = (ln, cn, se, isI, we, br, ma, sf, pa)) ∨ (¬ (¬ sf j = -9 ∨ 0 < pa j ∨ (¬ ma j = -9 ∧ ¬ pa (m_mt ma j) ≤ 0)) ∧ r = 1 ∧ u = (ln, cn, se, isI, we, br, ma, (m_set ma sf j x), pa)))))) (w2 := fun u => mWt cI cZ k up lo tm u) (ln, cn, se, isI, we, br, ma, sf, pa) hx hb hr hlocks (by first | exact Or.inr ⟨hw_2, rfl, rfl⟩ | exact Or.inl ⟨j, hj, rfl, hbj, Or.inl ⟨hw_14, rfl, rfl⟩⟩ | exact Or.inl ⟨j, hj, rfl, hbj, Or.inr ⟨hw_14, Or.inl ⟨Or.inl c_31, rfl, rfl⟩⟩⟩ | exact Or.inl ⟨j, hj, rfl, hbj, Or.inr ⟨hw_14, Or.inl ⟨Or.inr (Or.inl c_40), rfl, rfl⟩⟩⟩ | exact Or.inl ⟨j, hj, rfl, hbj, Or.inr ⟨hw_14, Or.inl ⟨Or.inr (Or.inr ⟨c_51, c_65⟩), rfl, rfl⟩⟩⟩ | exact Or.inl ⟨j, hj, rfl, hbj, Or.inr ⟨hw_14, Or.inr ⟨fun h => by rcases h with h | h | h; exact h c_31; exact c_40 h; exact h.1 c_51, rfl, rfl⟩⟩⟩ | exact Or.inl ⟨j, hj, rfl, hbj, Or.inr ⟨hw_14, Or.inr ⟨fun h => by rcases h with h | h | h; exact h c_31; exact c_40 h; exact h.2 c_65, rfl, rfl⟩⟩⟩) hP hK hD hS dX4_settle_70
      · refine lv_aload_n hx hb dX4_settle_34 rfl (lv_at hl 0 rfl) ?_
        refine va_get (D := (dC, dI)) (ci := 4) (v := .ref (k 7)) (C := RX4) (T := TX4) (N := 22) hx hb hT hiX4 hown hK hP 0 rfl rfl 10 (by decide) (hT _ kf_X4_33) (fun _ h9 => h9) rfl dX4_settle_35 ?_
        refine lv_iload_n hx hb dX4_settle_38 rfl (lv_at hl 1 rfl) ?_
        refine ald_i hx hb hK hP 7 0 rfl rfl (by decide) (w := j) rfl (by omega) dX4_settle_39 ?_
        refine lv_if_gt (tgt := 68) hx hb dX4_settle_40 (by decide) (fun c_40 => ?_) (fun c_40 => ?_)
        · refine lv_bipush (v := (-3)) hx hb dX4_settle_68 (by decide) ?_
          exact retM_i (S := MS) (post := fun r u => xk (fun j => ¬ isI j = 0) (nI j) (r = -1 ∧ u = (ln, cn, se, isI, we, br, ma, sf, pa)) (fun j => (¬ (0 ≤ x ∧ x ≤ 1000000) ∧ r = -2 ∧ u = (ln, cn, se, isI, we, br, ma, sf, pa)) ∨ ((0 ≤ x ∧ x ≤ 1000000) ∧ (((¬ sf j = -9 ∨ 0 < pa j ∨ (¬ ma j = -9 ∧ ¬ pa (m_mt ma j) ≤ 0)) ∧ r = -3 ∧ u = (ln, cn, se, isI, we, br, ma, sf, pa)) ∨ (¬ (¬ sf j = -9 ∨ 0 < pa j ∨ (¬ ma j = -9 ∧ ¬ pa (m_mt ma j) ≤ 0)) ∧ r = 1 ∧ u = (ln, cn, se, isI, we, br, ma, (m_set ma sf j x), pa)))))) (w2 := fun u => mWt cI cZ k up lo tm u) (ln, cn, se, isI, we, br, ma, sf, pa) hx hb hr hlocks (by first | exact Or.inr ⟨hw_2, rfl, rfl⟩ | exact Or.inl ⟨j, hj, rfl, hbj, Or.inl ⟨hw_14, rfl, rfl⟩⟩ | exact Or.inl ⟨j, hj, rfl, hbj, Or.inr ⟨hw_14, Or.inl ⟨Or.inl c_31, rfl, rfl⟩⟩⟩ | exact Or.inl ⟨j, hj, rfl, hbj, Or.inr ⟨hw_14, Or.inl ⟨Or.inr (Or.inl c_40), rfl, rfl⟩⟩⟩ | exact Or.inl ⟨j, hj, rfl, hbj, Or.inr ⟨hw_14, Or.inl ⟨Or.inr (Or.inr ⟨c_51, c_65⟩), rfl, rfl⟩⟩⟩ | exact Or.inl ⟨j, hj, rfl, hbj, Or.inr ⟨hw_14, Or.inr ⟨fun h => by rcases h with h | h | h; exact h c_31; exact c_40 h; exact h.1 c_51, rfl, rfl⟩⟩⟩ | exact Or.inl ⟨j, hj, rfl, hbj, Or.inr ⟨hw_14, Or.inr ⟨fun h => by rcases h with h | h | h; exact h c_31; exact c_40 h; exact h.2 c_65, rfl, rfl⟩⟩⟩) hP hK hD hS dX4_settle_70
        · refine lv_aload_n hx hb dX4_settle_43 rfl (lv_at hl 0 rfl) ?_
          refine va_get (D := (dC, dI)) (ci := 4) (v := .ref (k 5)) (C := RX4) (T := TX4) (N := 22) hx hb hT hiX4 hown hK hP 0 rfl rfl 8 (by decide) (hT _ kf_X4_27) (fun _ h9 => h9) rfl dX4_settle_44 ?_
          refine lv_iload_n hx hb dX4_settle_47 rfl (lv_at hl 1 rfl) ?_
          refine ald_i hx hb hK hP 5 0 rfl rfl (by decide) (w := j) rfl (by omega) dX4_settle_48 ?_
          refine lv_bipush (v := (-9)) hx hb dX4_settle_49 (by decide) ?_
          refine lv_icmp_eq (tgt := 71) hx hb dX4_settle_51 (by decide) (fun c_51 => ?_) (fun c_51 => ?_)
          · refine lv_aload_n hx hb dX4_settle_71 rfl (lv_at hl 0 rfl) ?_
            refine lv_iload_n hx hb dX4_settle_72 rfl (lv_at hl 1 rfl) ?_
            refine lv_iload_n hx hb dX4_settle_73 rfl (lv_at hl 2 rfl) ?_
            refine fM_v (wc := mW cI cZ k up lo ln cn tm se isI we br ma sf pa) (wr := []) (rMV (wc := mW cI cZ k up lo ln cn tm se isI we br ma sf pa) (As := [.int (nI j), .int x]) (rest := []) ⟨hx, hb, hml, hown, hT⟩ (c_X4_settles (l := l) s.heap.size j x hj hm) (cwTV 2 hT kc_X4_settles km_X4_102 ki_X4_settles ks_X4_settles kn_X4 rfl rfl md_X4_settles ⟨Nat.le_of_ble_eq_true rfl, Nat.le_of_ble_eq_true rfl⟩) hP hD hK (va_recv hK hP (ci := 4) (q0 := 0) rfl rfl) rfl hl.1 rfl (Nat.le_of_ble_eq_true rfl) dX4_settle_74 ⟨Nat.le_of_ble_eq_true rfl, Nat.le_of_ble_eq_true rfl⟩) hP hD hS hA (fun u_74 H locs hw_74 hP hD hS => ?_)
            have hP : va_P (dC, dI) vwCl (mW cI cZ k up lo ln cn tm se isI we br ma u_74 pa) H := hP
            have hD : va_D A (mW cI cZ k up lo ln cn tm se isI we br ma u_74 pa) := hD
            subst hw_74
            have hP : va_P (dC, dI) vwCl (mW cI cZ k up lo ln cn tm se isI we br ma (m_set ma sf j x) pa) H := hP
            have hD : va_D A (mW cI cZ k up lo ln cn tm se isI we br ma (m_set ma sf j x) pa) := hD
            refine lv_iconst (v := 1) hx hb dX4_settle_77 (by decide) ?_
            exact retM_i (S := MS) (post := fun r u => xk (fun j => ¬ isI j = 0) (nI j) (r = -1 ∧ u = (ln, cn, se, isI, we, br, ma, sf, pa)) (fun j => (¬ (0 ≤ x ∧ x ≤ 1000000) ∧ r = -2 ∧ u = (ln, cn, se, isI, we, br, ma, sf, pa)) ∨ ((0 ≤ x ∧ x ≤ 1000000) ∧ (((¬ sf j = -9 ∨ 0 < pa j ∨ (¬ ma j = -9 ∧ ¬ pa (m_mt ma j) ≤ 0)) ∧ r = -3 ∧ u = (ln, cn, se, isI, we, br, ma, sf, pa)) ∨ (¬ (¬ sf j = -9 ∨ 0 < pa j ∨ (¬ ma j = -9 ∧ ¬ pa (m_mt ma j) ≤ 0)) ∧ r = 1 ∧ u = (ln, cn, se, isI, we, br, ma, (m_set ma sf j x), pa)))))) (w2 := fun u => mWt cI cZ k up lo tm u) (ln, cn, se, isI, we, br, ma, (m_set ma sf j x), pa) hx hb hr hlocks (by first | exact Or.inr ⟨hw_2, rfl, rfl⟩ | exact Or.inl ⟨j, hj, rfl, hbj, Or.inl ⟨hw_14, rfl, rfl⟩⟩ | exact Or.inl ⟨j, hj, rfl, hbj, Or.inr ⟨hw_14, Or.inl ⟨Or.inl c_31, rfl, rfl⟩⟩⟩ | exact Or.inl ⟨j, hj, rfl, hbj, Or.inr ⟨hw_14, Or.inl ⟨Or.inr (Or.inl c_40), rfl, rfl⟩⟩⟩ | exact Or.inl ⟨j, hj, rfl, hbj, Or.inr ⟨hw_14, Or.inl ⟨Or.inr (Or.inr ⟨c_51, c_65⟩), rfl, rfl⟩⟩⟩ | exact Or.inl ⟨j, hj, rfl, hbj, Or.inr ⟨hw_14, Or.inr ⟨fun h => by rcases h with h | h | h; exact h c_31; exact c_40 h; exact h.1 c_51, rfl, rfl⟩⟩⟩ | exact Or.inl ⟨j, hj, rfl, hbj, Or.inr ⟨hw_14, Or.inr ⟨fun h => by rcases h with h | h | h; exact h c_31; exact c_40 h; exact h.2 c_65, rfl, rfl⟩⟩⟩) hP hK hD hS dX4_settle_78
          · refine lv_aload_n hx hb dX4_settle_54 rfl (lv_at hl 0 rfl) ?_
            refine va_get (D := (dC, dI)) (ci := 4) (v := .ref (k 7)) (C := RX4) (T := TX4) (N := 22) hx hb hT hiX4 hown hK hP 0 rfl rfl 10 (by decide) (hT _ kf_X4_33) (fun _ h9 => h9) rfl dX4_settle_55 ?_
            refine lv_aload_n hx hb dX4_settle_58 rfl (lv_at hl 0 rfl) ?_
            refine va_get (D := (dC, dI)) (ci := 4) (v := .ref (k 5)) (C := RX4) (T := TX4) (N := 22) hx hb hT hiX4 hown hK hP 0 rfl rfl 8 (by decide) (hT _ kf_X4_27) (fun _ h9 => h9) rfl dX4_settle_59 ?_
            refine lv_iload_n hx hb dX4_settle_62 rfl (lv_at hl 1 rfl) ?_
            refine ald_i hx hb hK hP 5 0 rfl rfl (by decide) (w := j) rfl (by omega) dX4_settle_63 ?_
            refine ald_i hx hb hK hP 7 0 rfl rfl (by decide) (w := (m_mt ma j)) (m_idx hm hj c_51).1 (m_idx hm hj c_51).2 dX4_settle_64 ?_
            refine lv_if_le (tgt := 71) hx hb dX4_settle_65 (by decide) (fun c_65 => ?_) (fun c_65 => ?_)
            · refine lv_aload_n hx hb dX4_settle_71 rfl (lv_at hl 0 rfl) ?_
              refine lv_iload_n hx hb dX4_settle_72 rfl (lv_at hl 1 rfl) ?_
              refine lv_iload_n hx hb dX4_settle_73 rfl (lv_at hl 2 rfl) ?_
              refine fM_v (wc := mW cI cZ k up lo ln cn tm se isI we br ma sf pa) (wr := []) (rMV (wc := mW cI cZ k up lo ln cn tm se isI we br ma sf pa) (As := [.int (nI j), .int x]) (rest := []) ⟨hx, hb, hml, hown, hT⟩ (c_X4_settles (l := l) s.heap.size j x hj hm) (cwTV 2 hT kc_X4_settles km_X4_102 ki_X4_settles ks_X4_settles kn_X4 rfl rfl md_X4_settles ⟨Nat.le_of_ble_eq_true rfl, Nat.le_of_ble_eq_true rfl⟩) hP hD hK (va_recv hK hP (ci := 4) (q0 := 0) rfl rfl) rfl hl.1 rfl (Nat.le_of_ble_eq_true rfl) dX4_settle_74 ⟨Nat.le_of_ble_eq_true rfl, Nat.le_of_ble_eq_true rfl⟩) hP hD hS hA (fun u_74 H locs hw_74 hP hD hS => ?_)
              have hP : va_P (dC, dI) vwCl (mW cI cZ k up lo ln cn tm se isI we br ma u_74 pa) H := hP
              have hD : va_D A (mW cI cZ k up lo ln cn tm se isI we br ma u_74 pa) := hD
              subst hw_74
              have hP : va_P (dC, dI) vwCl (mW cI cZ k up lo ln cn tm se isI we br ma (m_set ma sf j x) pa) H := hP
              have hD : va_D A (mW cI cZ k up lo ln cn tm se isI we br ma (m_set ma sf j x) pa) := hD
              refine lv_iconst (v := 1) hx hb dX4_settle_77 (by decide) ?_
              exact retM_i (S := MS) (post := fun r u => xk (fun j => ¬ isI j = 0) (nI j) (r = -1 ∧ u = (ln, cn, se, isI, we, br, ma, sf, pa)) (fun j => (¬ (0 ≤ x ∧ x ≤ 1000000) ∧ r = -2 ∧ u = (ln, cn, se, isI, we, br, ma, sf, pa)) ∨ ((0 ≤ x ∧ x ≤ 1000000) ∧ (((¬ sf j = -9 ∨ 0 < pa j ∨ (¬ ma j = -9 ∧ ¬ pa (m_mt ma j) ≤ 0)) ∧ r = -3 ∧ u = (ln, cn, se, isI, we, br, ma, sf, pa)) ∨ (¬ (¬ sf j = -9 ∨ 0 < pa j ∨ (¬ ma j = -9 ∧ ¬ pa (m_mt ma j) ≤ 0)) ∧ r = 1 ∧ u = (ln, cn, se, isI, we, br, ma, (m_set ma sf j x), pa)))))) (w2 := fun u => mWt cI cZ k up lo tm u) (ln, cn, se, isI, we, br, ma, (m_set ma sf j x), pa) hx hb hr hlocks (by first | exact Or.inr ⟨hw_2, rfl, rfl⟩ | exact Or.inl ⟨j, hj, rfl, hbj, Or.inl ⟨hw_14, rfl, rfl⟩⟩ | exact Or.inl ⟨j, hj, rfl, hbj, Or.inr ⟨hw_14, Or.inl ⟨Or.inl c_31, rfl, rfl⟩⟩⟩ | exact Or.inl ⟨j, hj, rfl, hbj, Or.inr ⟨hw_14, Or.inl ⟨Or.inr (Or.inl c_40), rfl, rfl⟩⟩⟩ | exact Or.inl ⟨j, hj, rfl, hbj, Or.inr ⟨hw_14, Or.inl ⟨Or.inr (Or.inr ⟨c_51, c_65⟩), rfl, rfl⟩⟩⟩ | exact Or.inl ⟨j, hj, rfl, hbj, Or.inr ⟨hw_14, Or.inr ⟨fun h => by rcases h with h | h | h; exact h c_31; exact c_40 h; exact h.1 c_51, rfl, rfl⟩⟩⟩ | exact Or.inl ⟨j, hj, rfl, hbj, Or.inr ⟨hw_14, Or.inr ⟨fun h => by rcases h with h | h | h; exact h c_31; exact c_40 h; exact h.2 c_65, rfl, rfl⟩⟩⟩) hP hK hD hS dX4_settle_78
            · refine lv_bipush (v := (-3)) hx hb dX4_settle_68 (by decide) ?_
              exact retM_i (S := MS) (post := fun r u => xk (fun j => ¬ isI j = 0) (nI j) (r = -1 ∧ u = (ln, cn, se, isI, we, br, ma, sf, pa)) (fun j => (¬ (0 ≤ x ∧ x ≤ 1000000) ∧ r = -2 ∧ u = (ln, cn, se, isI, we, br, ma, sf, pa)) ∨ ((0 ≤ x ∧ x ≤ 1000000) ∧ (((¬ sf j = -9 ∨ 0 < pa j ∨ (¬ ma j = -9 ∧ ¬ pa (m_mt ma j) ≤ 0)) ∧ r = -3 ∧ u = (ln, cn, se, isI, we, br, ma, sf, pa)) ∨ (¬ (¬ sf j = -9 ∨ 0 < pa j ∨ (¬ ma j = -9 ∧ ¬ pa (m_mt ma j) ≤ 0)) ∧ r = 1 ∧ u = (ln, cn, se, isI, we, br, ma, (m_set ma sf j x), pa)))))) (w2 := fun u => mWt cI cZ k up lo tm u) (ln, cn, se, isI, we, br, ma, sf, pa) hx hb hr hlocks (by first | exact Or.inr ⟨hw_2, rfl, rfl⟩ | exact Or.inl ⟨j, hj, rfl, hbj, Or.inl ⟨hw_14, rfl, rfl⟩⟩ | exact Or.inl ⟨j, hj, rfl, hbj, Or.inr ⟨hw_14, Or.inl ⟨Or.inl c_31, rfl, rfl⟩⟩⟩ | exact Or.inl ⟨j, hj, rfl, hbj, Or.inr ⟨hw_14, Or.inl ⟨Or.inr (Or.inl c_40), rfl, rfl⟩⟩⟩ | exact Or.inl ⟨j, hj, rfl, hbj, Or.inr ⟨hw_14, Or.inl ⟨Or.inr (Or.inr ⟨c_51, c_65⟩), rfl, rfl⟩⟩⟩ | exact Or.inl ⟨j, hj, rfl, hbj, Or.inr ⟨hw_14, Or.inr ⟨fun h => by rcases h with h | h | h; exact h c_31; exact c_40 h; exact h.1 c_51, rfl, rfl⟩⟩⟩ | exact Or.inl ⟨j, hj, rfl, hbj, Or.inr ⟨hw_14, Or.inr ⟨fun h => by rcases h with h | h | h; exact h c_31; exact c_40 h; exact h.2 c_65, rfl, rfl⟩⟩⟩) hP hK hD hS dX4_settle_70
    · refine lv_if_ne (tgt := 23) hx hb dX4_settle_17 (by decide) (fun h => absurd h (by decide)) (fun c_17 => ?_)
      refine lv_bipush (v := (-2)) hx hb dX4_settle_20 (by decide) ?_
      exact retM_i (S := MS) (post := fun r u => xk (fun j => ¬ isI j = 0) (nI j) (r = -1 ∧ u = (ln, cn, se, isI, we, br, ma, sf, pa)) (fun j => (¬ (0 ≤ x ∧ x ≤ 1000000) ∧ r = -2 ∧ u = (ln, cn, se, isI, we, br, ma, sf, pa)) ∨ ((0 ≤ x ∧ x ≤ 1000000) ∧ (((¬ sf j = -9 ∨ 0 < pa j ∨ (¬ ma j = -9 ∧ ¬ pa (m_mt ma j) ≤ 0)) ∧ r = -3 ∧ u = (ln, cn, se, isI, we, br, ma, sf, pa)) ∨ (¬ (¬ sf j = -9 ∨ 0 < pa j ∨ (¬ ma j = -9 ∧ ¬ pa (m_mt ma j) ≤ 0)) ∧ r = 1 ∧ u = (ln, cn, se, isI, we, br, ma, (m_set ma sf j x), pa)))))) (w2 := fun u => mWt cI cZ k up lo tm u) (ln, cn, se, isI, we, br, ma, sf, pa) hx hb hr hlocks (by first | exact Or.inr ⟨hw_2, rfl, rfl⟩ | exact Or.inl ⟨j, hj, rfl, hbj, Or.inl ⟨hw_14, rfl, rfl⟩⟩ | exact Or.inl ⟨j, hj, rfl, hbj, Or.inr ⟨hw_14, Or.inl ⟨Or.inl c_31, rfl, rfl⟩⟩⟩ | exact Or.inl ⟨j, hj, rfl, hbj, Or.inr ⟨hw_14, Or.inl ⟨Or.inr (Or.inl c_40), rfl, rfl⟩⟩⟩ | exact Or.inl ⟨j, hj, rfl, hbj, Or.inr ⟨hw_14, Or.inl ⟨Or.inr (Or.inr ⟨c_51, c_65⟩), rfl, rfl⟩⟩⟩ | exact Or.inl ⟨j, hj, rfl, hbj, Or.inr ⟨hw_14, Or.inr ⟨fun h => by rcases h with h | h | h; exact h c_31; exact c_40 h; exact h.1 c_51, rfl, rfl⟩⟩⟩ | exact Or.inl ⟨j, hj, rfl, hbj, Or.inr ⟨hw_14, Or.inr ⟨fun h => by rcases h with h | h | h; exact h c_31; exact c_40 h; exact h.2 c_65, rfl, rfl⟩⟩⟩) hP hK hD hS dX4_settle_22
  · refine lv_if_ne (tgt := 10) hx hb dX4_settle_5 (by decide) (fun h => absurd h (by decide)) (fun c_5 => ?_)
    refine lv_iconst (v := (-1)) hx hb dX4_settle_8 (by decide) ?_
    exact retM_i (S := MS) (post := fun r u => xk (fun j => ¬ isI j = 0) v (r = -1 ∧ u = (ln, cn, se, isI, we, br, ma, sf, pa)) (fun j => (¬ (0 ≤ x ∧ x ≤ 1000000) ∧ r = -2 ∧ u = (ln, cn, se, isI, we, br, ma, sf, pa)) ∨ ((0 ≤ x ∧ x ≤ 1000000) ∧ (((¬ sf j = -9 ∨ 0 < pa j ∨ (¬ ma j = -9 ∧ ¬ pa (m_mt ma j) ≤ 0)) ∧ r = -3 ∧ u = (ln, cn, se, isI, we, br, ma, sf, pa)) ∨ (¬ (¬ sf j = -9 ∨ 0 < pa j ∨ (¬ ma j = -9 ∧ ¬ pa (m_mt ma j) ≤ 0)) ∧ r = 1 ∧ u = (ln, cn, se, isI, we, br, ma, (m_set ma sf j x), pa)))))) (w2 := fun u => mWt cI cZ k up lo tm u) (ln, cn, se, isI, we, br, ma, sf, pa) hx hb hr hlocks (by first | exact Or.inr ⟨hw_2, rfl, rfl⟩ | exact Or.inl ⟨j, hj, rfl, hbj, Or.inl ⟨hw_14, rfl, rfl⟩⟩ | exact Or.inl ⟨j, hj, rfl, hbj, Or.inr ⟨hw_14, Or.inl ⟨Or.inl c_31, rfl, rfl⟩⟩⟩ | exact Or.inl ⟨j, hj, rfl, hbj, Or.inr ⟨hw_14, Or.inl ⟨Or.inr (Or.inl c_40), rfl, rfl⟩⟩⟩ | exact Or.inl ⟨j, hj, rfl, hbj, Or.inr ⟨hw_14, Or.inl ⟨Or.inr (Or.inr ⟨c_51, c_65⟩), rfl, rfl⟩⟩⟩ | exact Or.inl ⟨j, hj, rfl, hbj, Or.inr ⟨hw_14, Or.inr ⟨fun h => by rcases h with h | h | h; exact h c_31; exact c_40 h; exact h.1 c_51, rfl, rfl⟩⟩⟩ | exact Or.inl ⟨j, hj, rfl, hbj, Or.inr ⟨hw_14, Or.inr ⟨fun h => by rcases h with h | h | h; exact h c_31; exact c_40 h; exact h.2 c_65, rfl, rfl⟩⟩⟩) hP hK hD hS dX4_settle_9
set_option maxHeartbeats 4000000 in
set_option maxRecDepth 100000 in
theorem c_X4_reopen (sz : Nat) (v : Int32) (hm : mok ma) : Met l yX4_reopen (wT yX4_reopen cX4_reopen 3 (some .int)) ({ frames := 2, cells := 0, slots := 0, locals := 43 }) (pM (dC, dI) (ty3 cI cJ cZ) (mW cI cZ k up lo ln cn tm se isI we br ma sf pa) [.ref (k 0), .int v] sz) (va_Qi (S := MS) (fun r u => xk (fun j => ¬ isI j = 0) v (r = -1 ∧ u = (ln, cn, se, isI, we, br, ma, sf, pa)) (fun j => (sf j = -9 ∧ r = -3 ∧ u = (ln, cn, se, isI, we, br, ma, sf, pa)) ∨ (¬ sf j = -9 ∧ r = sf j ∧ u = (ln, cn, se, isI, we, br, ma, (m_set ma sf j (-9)), pa)))) (fun u t9 => bM (dC, dI) (ty3 cI cJ cZ) (va_A (mW cI cZ k up lo ln cn tm se isI we br ma sf pa) sz) (mWt cI cZ k up lo tm u) t9) (va_A (mW cI cZ k up lo ln cn tm se isI we br ma sf pa) sz)) 0 0 (va_A (mW cI cZ k up lo ln cn tm se isI we br ma sf pa) sz) := by
  refine Met.ofW (cc := cX4_reopen) (maxL := 3) (ret := (some .int)) (by decide) rfl ?_
  intro p e s m args below meth c s₁ B hml hv
  obtain ⟨rfl, hsz, hP, hK, hD0⟩ := hv
  have hx := B.exec
  have hb := B.bytes
  have hr := B.returns
  have hts := atoms_spec (ws := wT yX4_reopen cX4_reopen 3 (some .int)) B.pre
  have hT := wT_T hts
  have hown : s.vm.findClass RX4 = some m.cls := findClass_of_methodNamed B.named
  have hlocks := B.notSynchronized
  subst hsz
  have hD := hD0.self (sz := s.heap.size)
  generalize hAe : va_A (mW cI cZ k up lo ln cn tm se isI we br ma sf pa) s.heap.size = A at hD ⊢
  have hA : ∀ q : Nat, s.heap.size ≤ q → A q := fun q h => by rw [← hAe]; exact Or.inr h
  have hS : va_S A s.heap s.heap [] := va_S.rf
  have hl := lv_entry ([.ref (k 0), .int v]) (n := 3) (Nat.le_of_ble_eq_true rfl)
  rw [lg_entry_eq]
  generalize (lg_sl ([.ref (k 0), .int v]) ++ List.replicate (3 - (lg_sl ([.ref (k 0), .int v])).length) Slot.unset).toArray = ls at hl ⊢
  have hl : lv_has ls 3 [(0, .ref (k 0)), (1, .int v)] := hl
  refine lv_aload_n hx hb dX4_reopen_0 rfl (lv_at hl 0 rfl) ?_
  refine lv_iload_n hx hb dX4_reopen_1 rfl (lv_at hl 1 rfl) ?_
  refine vp_callSi (rRV (As := [.int v]) (rest := []) ⟨hx, hb, hml, hown, hT⟩ (c_X4_isThere (l := l) v) (cwTV 1 hT kc_X4_isThere km_X4_98 ki_X4_isThere ks_X4_isThere kn_X4 rfl rfl md_X4_isThere ⟨Nat.le_of_ble_eq_true rfl, Nat.le_of_ble_eq_true rfl⟩) hP hK (va_recv hK hP (ci := 4) (q0 := 0) rfl rfl) rfl hl.1 rfl (Nat.le_of_ble_eq_true rfl) dX4_reopen_2 ⟨Nat.le_of_ble_eq_true rfl, Nat.le_of_ble_eq_true rfl⟩) (fun r_2 hw_2 => ?_)
  rcases hw_2 with ⟨rfl, hw_2⟩ | ⟨rfl, hw_2⟩
  · obtain ⟨j, hj, rfl, hbj⟩ := hw_2
    refine lv_if_ne (tgt := 10) hx hb dX4_reopen_5 (by decide) (fun c_5 => ?_) (fun h => absurd h (by decide))
    refine lv_aload_n hx hb dX4_reopen_10 rfl (lv_at hl 0 rfl) ?_
    refine va_get (D := (dC, dI)) (ci := 4) (v := .ref (k 6)) (C := RX4) (T := TX4) (N := 22) hx hb hT hiX4 hown hK hP 0 rfl rfl 9 (by decide) (hT _ kf_X4_30) (fun _ h9 => h9) rfl dX4_reopen_11 ?_
    refine lv_iload_n hx hb dX4_reopen_14 rfl (lv_at hl 1 rfl) ?_
    refine ald_i hx hb hK hP 6 0 rfl rfl (by decide) (w := j) rfl (by omega) dX4_reopen_15 ?_
    refine lv_bipush (v := (-9)) hx hb dX4_reopen_16 (by decide) ?_
    refine lv_icmp_ne (tgt := 24) hx hb dX4_reopen_18 (by decide) (fun c_18 => ?_) (fun c_18 => ?_)
    · refine lv_aload_n hx hb dX4_reopen_24 rfl (lv_at hl 0 rfl) ?_
      refine va_get (D := (dC, dI)) (ci := 4) (v := .ref (k 6)) (C := RX4) (T := TX4) (N := 22) hx hb hT hiX4 hown hK hP 0 rfl rfl 9 (by decide) (hT _ kf_X4_30) (fun _ h9 => h9) rfl dX4_reopen_25 ?_
      refine lv_iload_n hx hb dX4_reopen_28 rfl (lv_at hl 1 rfl) ?_
      refine ald_i hx hb hK hP 6 0 rfl rfl (by decide) (w := j) rfl (by omega) dX4_reopen_29 ?_
      refine lv_istore_n (lv' := [(2, .int (sf j)), (0, .ref (k 0)), (1, .int (nI j))]) hx hb dX4_reopen_30 rfl hl (by decide) rfl (fun ls hl => ?_)
      refine lv_aload_n hx hb dX4_reopen_31 rfl (lv_at hl 1 rfl) ?_
      refine lv_iload_n hx hb dX4_reopen_32 rfl (lv_at hl 2 rfl) ?_
      refine lv_bipush (v := (-9)) hx hb dX4_reopen_33 (by decide) ?_
      refine fM_v (wc := mW cI cZ k up lo ln cn tm se isI we br ma sf pa) (wr := []) (rMV (wc := mW cI cZ k up lo ln cn tm se isI we br ma sf pa) (As := [.int (nI j), .int (-9)]) (rest := []) ⟨hx, hb, hml, hown, hT⟩ (c_X4_settles (l := l) s.heap.size j (-9) hj hm) (cwTV 2 hT kc_X4_settles km_X4_102 ki_X4_settles ks_X4_settles kn_X4 rfl rfl md_X4_settles ⟨Nat.le_of_ble_eq_true rfl, Nat.le_of_ble_eq_true rfl⟩) hP hD hK (va_recv hK hP (ci := 4) (q0 := 0) rfl rfl) rfl hl.1 rfl (Nat.le_of_ble_eq_true rfl) dX4_reopen_35 ⟨Nat.le_of_ble_eq_true rfl, Nat.le_of_ble_eq_true rfl⟩) hP hD hS hA (fun u_35 H locs hw_35 hP hD hS => ?_)
      have hP : va_P (dC, dI) vwCl (mW cI cZ k up lo ln cn tm se isI we br ma u_35 pa) H := hP
      have hD : va_D A (mW cI cZ k up lo ln cn tm se isI we br ma u_35 pa) := hD
      subst hw_35
      have hP : va_P (dC, dI) vwCl (mW cI cZ k up lo ln cn tm se isI we br ma (m_set ma sf j (-9)) pa) H := hP
      have hD : va_D A (mW cI cZ k up lo ln cn tm se isI we br ma (m_set ma sf j (-9)) pa) := hD
      refine lv_iload_n hx hb dX4_reopen_38 rfl (lv_at hl 0 rfl) ?_
      exact retM_i (S := MS) (post := fun r u => xk (fun j => ¬ isI j = 0) (nI j) (r = -1 ∧ u = (ln, cn, se, isI, we, br, ma, sf, pa)) (fun j => (sf j = -9 ∧ r = -3 ∧ u = (ln, cn, se, isI, we, br, ma, sf, pa)) ∨ (¬ sf j = -9 ∧ r = sf j ∧ u = (ln, cn, se, isI, we, br, ma, (m_set ma sf j (-9)), pa)))) (w2 := fun u => mWt cI cZ k up lo tm u) (ln, cn, se, isI, we, br, ma, (m_set ma sf j (-9)), pa) hx hb hr hlocks (by first | exact Or.inr ⟨hw_2, rfl, rfl⟩ | exact Or.inl ⟨j, hj, rfl, hbj, Or.inl ⟨c_18, rfl, rfl⟩⟩ | exact Or.inl ⟨j, hj, rfl, hbj, Or.inr ⟨c_18, rfl, rfl⟩⟩) hP hK hD hS dX4_reopen_39
    · refine lv_bipush (v := (-3)) hx hb dX4_reopen_21 (by decide) ?_
      exact retM_i (S := MS) (post := fun r u => xk (fun j => ¬ isI j = 0) (nI j) (r = -1 ∧ u = (ln, cn, se, isI, we, br, ma, sf, pa)) (fun j => (sf j = -9 ∧ r = -3 ∧ u = (ln, cn, se, isI, we, br, ma, sf, pa)) ∨ (¬ sf j = -9 ∧ r = sf j ∧ u = (ln, cn, se, isI, we, br, ma, (m_set ma sf j (-9)), pa)))) (w2 := fun u => mWt cI cZ k up lo tm u) (ln, cn, se, isI, we, br, ma, sf, pa) hx hb hr hlocks (by first | exact Or.inr ⟨hw_2, rfl, rfl⟩ | exact Or.inl ⟨j, hj, rfl, hbj, Or.inl ⟨c_18, rfl, rfl⟩⟩ | exact Or.inl ⟨j, hj, rfl, hbj, Or.inr ⟨c_18, rfl, rfl⟩⟩) hP hK hD hS dX4_reopen_23
  · refine lv_if_ne (tgt := 10) hx hb dX4_reopen_5 (by decide) (fun h => absurd h (by decide)) (fun c_5 => ?_)
    refine lv_iconst (v := (-1)) hx hb dX4_reopen_8 (by decide) ?_
    exact retM_i (S := MS) (post := fun r u => xk (fun j => ¬ isI j = 0) v (r = -1 ∧ u = (ln, cn, se, isI, we, br, ma, sf, pa)) (fun j => (sf j = -9 ∧ r = -3 ∧ u = (ln, cn, se, isI, we, br, ma, sf, pa)) ∨ (¬ sf j = -9 ∧ r = sf j ∧ u = (ln, cn, se, isI, we, br, ma, (m_set ma sf j (-9)), pa)))) (w2 := fun u => mWt cI cZ k up lo tm u) (ln, cn, se, isI, we, br, ma, sf, pa) hx hb hr hlocks (by first | exact Or.inr ⟨hw_2, rfl, rfl⟩ | exact Or.inl ⟨j, hj, rfl, hbj, Or.inl ⟨c_18, rfl, rfl⟩⟩ | exact Or.inl ⟨j, hj, rfl, hbj, Or.inr ⟨c_18, rfl, rfl⟩⟩) hP hK hD hS dX4_reopen_9
set_option maxHeartbeats 4000000 in
set_option maxRecDepth 100000 in
theorem c_X4_refund (sz : Nat) (v : Int32) : Met l yX4_refund (wT yX4_refund cX4_refund 3 (some .int)) ({ frames := 2, cells := 0, slots := 0, locals := 43 }) (pM (dC, dI) (ty3 cI cJ cZ) (mW cI cZ k up lo ln cn tm se isI we br ma sf pa) [.ref (k 0), .int v] sz) (va_Qi (S := MS) (fun r u => xk (fun j => ¬ isI j = 0) v (r = -1 ∧ u = (ln, cn, se, isI, we, br, ma, sf, pa)) (fun j => (pa j = 0 ∧ r = -3 ∧ u = (ln, cn, se, isI, we, br, ma, sf, pa)) ∨ (¬ pa j = 0 ∧ r = pa j ∧ u = (ln, cn, se, isI, we, br, ma, sf, (upd pa j 0))))) (fun u t9 => bM (dC, dI) (ty3 cI cJ cZ) (va_A (mW cI cZ k up lo ln cn tm se isI we br ma sf pa) sz) (mWt cI cZ k up lo tm u) t9) (va_A (mW cI cZ k up lo ln cn tm se isI we br ma sf pa) sz)) 0 0 (va_A (mW cI cZ k up lo ln cn tm se isI we br ma sf pa) sz) := by
  refine Met.ofW (cc := cX4_refund) (maxL := 3) (ret := (some .int)) (by decide) rfl ?_
  intro p e s m args below meth c s₁ B hml hv
  obtain ⟨rfl, hsz, hP, hK, hD0⟩ := hv
  have hx := B.exec
  have hb := B.bytes
  have hr := B.returns
  have hts := atoms_spec (ws := wT yX4_refund cX4_refund 3 (some .int)) B.pre
  have hT := wT_T hts
  have hown : s.vm.findClass RX4 = some m.cls := findClass_of_methodNamed B.named
  have hlocks := B.notSynchronized
  subst hsz
  have hD := hD0.self (sz := s.heap.size)
  generalize hAe : va_A (mW cI cZ k up lo ln cn tm se isI we br ma sf pa) s.heap.size = A at hD ⊢
  have hA : ∀ q : Nat, s.heap.size ≤ q → A q := fun q h => by rw [← hAe]; exact Or.inr h
  have hS : va_S A s.heap s.heap [] := va_S.rf
  have hl := lv_entry ([.ref (k 0), .int v]) (n := 3) (Nat.le_of_ble_eq_true rfl)
  rw [lg_entry_eq]
  generalize (lg_sl ([.ref (k 0), .int v]) ++ List.replicate (3 - (lg_sl ([.ref (k 0), .int v])).length) Slot.unset).toArray = ls at hl ⊢
  have hl : lv_has ls 3 [(0, .ref (k 0)), (1, .int v)] := hl
  refine lv_aload_n hx hb dX4_refund_0 rfl (lv_at hl 0 rfl) ?_
  refine lv_iload_n hx hb dX4_refund_1 rfl (lv_at hl 1 rfl) ?_
  refine vp_callSi (rRV (As := [.int v]) (rest := []) ⟨hx, hb, hml, hown, hT⟩ (c_X4_isThere (l := l) v) (cwTV 1 hT kc_X4_isThere km_X4_98 ki_X4_isThere ks_X4_isThere kn_X4 rfl rfl md_X4_isThere ⟨Nat.le_of_ble_eq_true rfl, Nat.le_of_ble_eq_true rfl⟩) hP hK (va_recv hK hP (ci := 4) (q0 := 0) rfl rfl) rfl hl.1 rfl (Nat.le_of_ble_eq_true rfl) dX4_refund_2 ⟨Nat.le_of_ble_eq_true rfl, Nat.le_of_ble_eq_true rfl⟩) (fun r_2 hw_2 => ?_)
  rcases hw_2 with ⟨rfl, hw_2⟩ | ⟨rfl, hw_2⟩
  · obtain ⟨j, hj, rfl, hbj⟩ := hw_2
    refine lv_if_ne (tgt := 10) hx hb dX4_refund_5 (by decide) (fun c_5 => ?_) (fun h => absurd h (by decide))
    refine lv_aload_n hx hb dX4_refund_10 rfl (lv_at hl 0 rfl) ?_
    refine va_get (D := (dC, dI)) (ci := 4) (v := .ref (k 7)) (C := RX4) (T := TX4) (N := 22) hx hb hT hiX4 hown hK hP 0 rfl rfl 10 (by decide) (hT _ kf_X4_33) (fun _ h9 => h9) rfl dX4_refund_11 ?_
    refine lv_iload_n hx hb dX4_refund_14 rfl (lv_at hl 1 rfl) ?_
    refine ald_i hx hb hK hP 7 0 rfl rfl (by decide) (w := j) rfl (by omega) dX4_refund_15 ?_
    refine lv_if_ne (tgt := 22) hx hb dX4_refund_16 (by decide) (fun c_16 => ?_) (fun c_16 => ?_)
    · refine lv_aload_n hx hb dX4_refund_22 rfl (lv_at hl 0 rfl) ?_
      refine va_get (D := (dC, dI)) (ci := 4) (v := .ref (k 7)) (C := RX4) (T := TX4) (N := 22) hx hb hT hiX4 hown hK hP 0 rfl rfl 10 (by decide) (hT _ kf_X4_33) (fun _ h9 => h9) rfl dX4_refund_23 ?_
      refine lv_iload_n hx hb dX4_refund_26 rfl (lv_at hl 1 rfl) ?_
      refine ald_i hx hb hK hP 7 0 rfl rfl (by decide) (w := j) rfl (by omega) dX4_refund_27 ?_
      refine lv_istore_n (lv' := [(2, .int (pa j)), (0, .ref (k 0)), (1, .int (nI j))]) hx hb dX4_refund_28 rfl hl (by decide) rfl (fun ls hl => ?_)
      refine lv_aload_n hx hb dX4_refund_29 rfl (lv_at hl 1 rfl) ?_
      refine va_get (D := (dC, dI)) (ci := 4) (v := .ref (k 7)) (C := RX4) (T := TX4) (N := 22) hx hb hT hiX4 hown hK hP 0 rfl rfl 10 (by decide) (hT _ kf_X4_33) (fun _ h9 => h9) rfl dX4_refund_30 ?_
      refine lv_iload_n hx hb dX4_refund_33 rfl (lv_at hl 2 rfl) ?_
      refine lv_iconst (v := 0) hx hb dX4_refund_34 (by decide) ?_
      refine ast_i hx hb hK hP hD hS 7 0 rfl rfl (by decide) (w := j) rfl (by omega) dX4_refund_35 (fun H locs hP hD hS => ?_)
      have hP : va_P (dC, dI) vwCl (mW cI cZ k up lo ln cn tm se isI we br ma sf (upd pa j 0)) H := hP
      have hD : va_D A (mW cI cZ k up lo ln cn tm se isI we br ma sf (upd pa j 0)) := hD
      refine lv_iload_n hx hb dX4_refund_36 rfl (lv_at hl 0 rfl) ?_
      exact retM_i (S := MS) (post := fun r u => xk (fun j => ¬ isI j = 0) (nI j) (r = -1 ∧ u = (ln, cn, se, isI, we, br, ma, sf, pa)) (fun j => (pa j = 0 ∧ r = -3 ∧ u = (ln, cn, se, isI, we, br, ma, sf, pa)) ∨ (¬ pa j = 0 ∧ r = pa j ∧ u = (ln, cn, se, isI, we, br, ma, sf, (upd pa j 0))))) (w2 := fun u => mWt cI cZ k up lo tm u) (ln, cn, se, isI, we, br, ma, sf, (upd pa j 0)) hx hb hr hlocks (by first | exact Or.inr ⟨hw_2, rfl, rfl⟩ | exact Or.inl ⟨j, hj, rfl, hbj, Or.inl ⟨c_16, rfl, rfl⟩⟩ | exact Or.inl ⟨j, hj, rfl, hbj, Or.inr ⟨c_16, rfl, rfl⟩⟩) hP hK hD hS dX4_refund_37
    · refine lv_bipush (v := (-3)) hx hb dX4_refund_19 (by decide) ?_
      exact retM_i (S := MS) (post := fun r u => xk (fun j => ¬ isI j = 0) (nI j) (r = -1 ∧ u = (ln, cn, se, isI, we, br, ma, sf, pa)) (fun j => (pa j = 0 ∧ r = -3 ∧ u = (ln, cn, se, isI, we, br, ma, sf, pa)) ∨ (¬ pa j = 0 ∧ r = pa j ∧ u = (ln, cn, se, isI, we, br, ma, sf, (upd pa j 0))))) (w2 := fun u => mWt cI cZ k up lo tm u) (ln, cn, se, isI, we, br, ma, sf, pa) hx hb hr hlocks (by first | exact Or.inr ⟨hw_2, rfl, rfl⟩ | exact Or.inl ⟨j, hj, rfl, hbj, Or.inl ⟨c_16, rfl, rfl⟩⟩ | exact Or.inl ⟨j, hj, rfl, hbj, Or.inr ⟨c_16, rfl, rfl⟩⟩) hP hK hD hS dX4_refund_21
  · refine lv_if_ne (tgt := 10) hx hb dX4_refund_5 (by decide) (fun h => absurd h (by decide)) (fun c_5 => ?_)
    refine lv_iconst (v := (-1)) hx hb dX4_refund_8 (by decide) ?_
    exact retM_i (S := MS) (post := fun r u => xk (fun j => ¬ isI j = 0) v (r = -1 ∧ u = (ln, cn, se, isI, we, br, ma, sf, pa)) (fun j => (pa j = 0 ∧ r = -3 ∧ u = (ln, cn, se, isI, we, br, ma, sf, pa)) ∨ (¬ pa j = 0 ∧ r = pa j ∧ u = (ln, cn, se, isI, we, br, ma, sf, (upd pa j 0))))) (w2 := fun u => mWt cI cZ k up lo tm u) (ln, cn, se, isI, we, br, ma, sf, pa) hx hb hr hlocks (by first | exact Or.inr ⟨hw_2, rfl, rfl⟩ | exact Or.inl ⟨j, hj, rfl, hbj, Or.inl ⟨c_16, rfl, rfl⟩⟩ | exact Or.inl ⟨j, hj, rfl, hbj, Or.inr ⟨c_16, rfl, rfl⟩⟩) hP hK hD hS dX4_refund_9
set_option maxHeartbeats 4000000 in
set_option maxRecDepth 100000 in
theorem c_X4_setting (sz : Nat) (v x : Int32) : Met l yX4_setting (wT yX4_setting cX4_setting 4 (some .int)) ({ frames := 1, cells := 0, slots := 0, locals := 22 }) (pM (dC, dI) (ty3 cI cJ cZ) (mW cI cZ k up lo ln cn tm se isI we br ma sf pa) [.ref (k 0), .int v, .int x] sz) (va_Qi (S := MS) (fun r u => (¬ ((0 ≤ v ∧ v ≤ 2) ∧ (0 ≤ x ∧ x ≤ (if v = 2 then 100 else 2))) ∧ r = -2 ∧ u = (ln, cn, se, isI, we, br, ma, sf, pa)) ∨ (((0 ≤ v ∧ v ≤ 2) ∧ (0 ≤ x ∧ x ≤ (if v = 2 then 100 else 2))) ∧ ∃ i7, i7 < 3 ∧ v = nI i7 ∧ r = se i7 ∧ u = (ln, cn, (upd se i7 x), isI, we, br, ma, sf, pa))) (fun u t9 => bM (dC, dI) (ty3 cI cJ cZ) (va_A (mW cI cZ k up lo ln cn tm se isI we br ma sf pa) sz) (mWt cI cZ k up lo tm u) t9) (va_A (mW cI cZ k up lo ln cn tm se isI we br ma sf pa) sz)) 0 0 (va_A (mW cI cZ k up lo ln cn tm se isI we br ma sf pa) sz) := by
  refine Met.ofW (cc := cX4_setting) (maxL := 4) (ret := (some .int)) (by decide) rfl ?_
  intro p e s m args below meth c s₁ B hml hv
  obtain ⟨rfl, hsz, hP, hK, hD0⟩ := hv
  have hx := B.exec
  have hb := B.bytes
  have hr := B.returns
  have hts := atoms_spec (ws := wT yX4_setting cX4_setting 4 (some .int)) B.pre
  have hT := wT_T hts
  have hown : s.vm.findClass RX4 = some m.cls := findClass_of_methodNamed B.named
  have hlocks := B.notSynchronized
  subst hsz
  have hD := hD0.self (sz := s.heap.size)
  generalize hAe : va_A (mW cI cZ k up lo ln cn tm se isI we br ma sf pa) s.heap.size = A at hD ⊢
  have hA : ∀ q : Nat, s.heap.size ≤ q → A q := fun q h => by rw [← hAe]; exact Or.inr h
  have hS : va_S A s.heap s.heap [] := va_S.rf
  have hl := lv_entry ([.ref (k 0), .int v, .int x]) (n := 4) (Nat.le_of_ble_eq_true rfl)
  rw [lg_entry_eq]
  generalize (lg_sl ([.ref (k 0), .int v, .int x]) ++ List.replicate (4 - (lg_sl ([.ref (k 0), .int v, .int x])).length) Slot.unset).toArray = ls at hl ⊢
  have hl : lv_has ls 4 [(0, .ref (k 0)), (1, .int v), (2, .int x)] := hl
  refine lv_iload_n hx hb dX4_setting_0 rfl (lv_at hl 1 rfl) ?_
  refine lv_iconst (v := 0) hx hb dX4_setting_1 (by decide) ?_
  refine lv_iconst (v := 2) hx hb dX4_setting_2 (by decide) ?_
  refine vp_callSi (rRS (As := [.int v, .int 0, .int 2]) (rest := []) ⟨hx, hb, hml, hown, hT⟩ (c_X4_within (l := l) v 0 2) (cwTS 3 hT kc_X4_within km_X4_82 kt_X4_within kn_X4 rfl rfl md_X4_within ⟨Nat.le_of_ble_eq_true rfl, Nat.le_of_ble_eq_true rfl⟩) nilP hK  rfl hl.1 rfl (Nat.le_of_ble_eq_true rfl) dX4_setting_3 ⟨Nat.le_of_ble_eq_true rfl, Nat.le_of_ble_eq_true rfl⟩) (fun r_3 hw_3 => ?_)
  rcases hw_3 with ⟨rfl, hw_3⟩ | ⟨rfl, hw_3⟩
  · refine lv_if_eq (tgt := 28) hx hb dX4_setting_6 (by decide) (fun h => absurd h (by decide)) (fun c_6 => ?_)
    refine lv_iload_n hx hb dX4_setting_9 rfl (lv_at hl 2 rfl) ?_
    refine lv_iconst (v := 0) hx hb dX4_setting_10 (by decide) ?_
    refine lv_iload_n hx hb dX4_setting_11 rfl (lv_at hl 1 rfl) ?_
    refine lv_iconst (v := 2) hx hb dX4_setting_12 (by decide) ?_
    refine lv_icmp_ne (tgt := 21) hx hb dX4_setting_13 (by decide) (fun c_13 => ?_) (fun c_13 => ?_)
    · refine lv_iconst (v := 2) hx hb dX4_setting_21 (by decide) ?_
      refine vp_callSi (rRS (As := [.int x, .int 0, .int 2]) (rest := []) ⟨hx, hb, hml, hown, hT⟩ (c_X4_within (l := l) x 0 2) (cwTS 3 hT kc_X4_within km_X4_82 kt_X4_within kn_X4 rfl rfl md_X4_within ⟨Nat.le_of_ble_eq_true rfl, Nat.le_of_ble_eq_true rfl⟩) nilP hK  rfl hl.1 rfl (Nat.le_of_ble_eq_true rfl) dX4_setting_22 ⟨Nat.le_of_ble_eq_true rfl, Nat.le_of_ble_eq_true rfl⟩) (fun r_22 hw_22 => ?_)
      rcases hw_22 with ⟨rfl, hw_22⟩ | ⟨rfl, hw_22⟩
      · obtain ⟨j, hj, rfl⟩ := th3_of hw_3
        refine lv_if_ne (tgt := 31) hx hb dX4_setting_25 (by decide) (fun c_25 => ?_) (fun h => absurd h (by decide))
        refine lv_aload_n hx hb dX4_setting_31 rfl (lv_at hl 0 rfl) ?_
        refine va_get (D := (dC, dI)) (ci := 4) (v := .ref (k 1)) (C := RX4) (T := TX4) (N := 22) hx hb hT hiX4 hown hK hP 0 rfl rfl 4 (by decide) (hT _ kf_X4_13) (fun _ h9 => h9) rfl dX4_setting_32 ?_
        refine lv_iload_n hx hb dX4_setting_35 rfl (lv_at hl 1 rfl) ?_
        refine ald_i hx hb hK hP 1 0 rfl rfl (by decide) (w := j) rfl (by omega) dX4_setting_36 ?_
        refine lv_istore_n (lv' := [(3, .int (se j)), (0, .ref (k 0)), (1, .int (nI j)), (2, .int x)]) hx hb dX4_setting_37 rfl hl (by decide) rfl (fun ls hl => ?_)
        refine lv_aload_n hx hb dX4_setting_38 rfl (lv_at hl 1 rfl) ?_
        refine va_get (D := (dC, dI)) (ci := 4) (v := .ref (k 1)) (C := RX4) (T := TX4) (N := 22) hx hb hT hiX4 hown hK hP 0 rfl rfl 4 (by decide) (hT _ kf_X4_13) (fun _ h9 => h9) rfl dX4_setting_39 ?_
        refine lv_iload_n hx hb dX4_setting_42 rfl (lv_at hl 2 rfl) ?_
        refine lv_iload_n hx hb dX4_setting_43 rfl (lv_at hl 3 rfl) ?_
        refine ast_i hx hb hK hP hD hS 1 0 rfl rfl (by decide) (w := j) rfl (by omega) dX4_setting_44 (fun H locs hP hD hS => ?_)
        have hP : va_P (dC, dI) vwCl (mW cI cZ k up lo ln cn tm (upd se j x) isI we br ma sf pa) H := hP
        have hD : va_D A (mW cI cZ k up lo ln cn tm (upd se j x) isI we br ma sf pa) := hD
        refine lv_iload_n hx hb dX4_setting_45 rfl (lv_at hl 0 rfl) ?_
        exact retM_i (S := MS) (post := fun r u => (¬ ((0 ≤ (nI j) ∧ (nI j) ≤ 2) ∧ (0 ≤ x ∧ x ≤ (if (nI j) = 2 then 100 else 2))) ∧ r = -2 ∧ u = (ln, cn, se, isI, we, br, ma, sf, pa)) ∨ (((0 ≤ (nI j) ∧ (nI j) ≤ 2) ∧ (0 ≤ x ∧ x ≤ (if (nI j) = 2 then 100 else 2))) ∧ ∃ i7, i7 < 3 ∧ (nI j) = nI i7 ∧ r = se i7 ∧ u = (ln, cn, (upd se i7 x), isI, we, br, ma, sf, pa))) (w2 := fun u => mWt cI cZ k up lo tm u) (ln, cn, (upd se j x), isI, we, br, ma, sf, pa) hx hb hr hlocks (by first | exact Or.inl ⟨fun h => hw_3 h.1, rfl, rfl⟩ | exact Or.inl ⟨fun h => hw_22 (by have h2 := h.2; rw [if_pos c_13] at h2; exact h2), rfl, rfl⟩ | exact Or.inl ⟨fun h => hw_22 (by have h2 := h.2; rw [if_neg c_13] at h2; exact h2), rfl, rfl⟩ | exact Or.inr ⟨⟨hw_3, by rw [if_pos c_13]; exact hw_22⟩, j, hj, rfl, rfl, rfl⟩ | exact Or.inr ⟨⟨hw_3, by rw [if_neg c_13]; exact hw_22⟩, j, hj, rfl, rfl, rfl⟩) hP hK hD hS dX4_setting_46
      · refine lv_if_ne (tgt := 31) hx hb dX4_setting_25 (by decide) (fun h => absurd h (by decide)) (fun c_25 => ?_)
        refine lv_bipush (v := (-2)) hx hb dX4_setting_28 (by decide) ?_
        exact retM_i (S := MS) (post := fun r u => (¬ ((0 ≤ v ∧ v ≤ 2) ∧ (0 ≤ x ∧ x ≤ (if v = 2 then 100 else 2))) ∧ r = -2 ∧ u = (ln, cn, se, isI, we, br, ma, sf, pa)) ∨ (((0 ≤ v ∧ v ≤ 2) ∧ (0 ≤ x ∧ x ≤ (if v = 2 then 100 else 2))) ∧ ∃ i7, i7 < 3 ∧ v = nI i7 ∧ r = se i7 ∧ u = (ln, cn, (upd se i7 x), isI, we, br, ma, sf, pa))) (w2 := fun u => mWt cI cZ k up lo tm u) (ln, cn, se, isI, we, br, ma, sf, pa) hx hb hr hlocks (by first | exact Or.inl ⟨fun h => hw_3 h.1, rfl, rfl⟩ | exact Or.inl ⟨fun h => hw_22 (by have h2 := h.2; rw [if_pos c_13] at h2; exact h2), rfl, rfl⟩ | exact Or.inl ⟨fun h => hw_22 (by have h2 := h.2; rw [if_neg c_13] at h2; exact h2), rfl, rfl⟩ | exact Or.inr ⟨⟨hw_3, by rw [if_pos c_13]; exact hw_22⟩, j, hj, rfl, rfl, rfl⟩ | exact Or.inr ⟨⟨hw_3, by rw [if_neg c_13]; exact hw_22⟩, j, hj, rfl, rfl, rfl⟩) hP hK hD hS dX4_setting_30
    · refine lv_bipush (v := 100) hx hb dX4_setting_16 (by decide) ?_
      refine lv_goto (tgt := 22) hx hb dX4_setting_18 (by decide) ?_
      refine vp_callSi (rRS (As := [.int x, .int 0, .int 100]) (rest := []) ⟨hx, hb, hml, hown, hT⟩ (c_X4_within (l := l) x 0 100) (cwTS 3 hT kc_X4_within km_X4_82 kt_X4_within kn_X4 rfl rfl md_X4_within ⟨Nat.le_of_ble_eq_true rfl, Nat.le_of_ble_eq_true rfl⟩) nilP hK  rfl hl.1 rfl (Nat.le_of_ble_eq_true rfl) dX4_setting_22 ⟨Nat.le_of_ble_eq_true rfl, Nat.le_of_ble_eq_true rfl⟩) (fun r_22 hw_22 => ?_)
      rcases hw_22 with ⟨rfl, hw_22⟩ | ⟨rfl, hw_22⟩
      · obtain ⟨j, hj, rfl⟩ := th3_of hw_3
        refine lv_if_ne (tgt := 31) hx hb dX4_setting_25 (by decide) (fun c_25 => ?_) (fun h => absurd h (by decide))
        refine lv_aload_n hx hb dX4_setting_31 rfl (lv_at hl 0 rfl) ?_
        refine va_get (D := (dC, dI)) (ci := 4) (v := .ref (k 1)) (C := RX4) (T := TX4) (N := 22) hx hb hT hiX4 hown hK hP 0 rfl rfl 4 (by decide) (hT _ kf_X4_13) (fun _ h9 => h9) rfl dX4_setting_32 ?_
        refine lv_iload_n hx hb dX4_setting_35 rfl (lv_at hl 1 rfl) ?_
        refine ald_i hx hb hK hP 1 0 rfl rfl (by decide) (w := j) rfl (by omega) dX4_setting_36 ?_
        refine lv_istore_n (lv' := [(3, .int (se j)), (0, .ref (k 0)), (1, .int (nI j)), (2, .int x)]) hx hb dX4_setting_37 rfl hl (by decide) rfl (fun ls hl => ?_)
        refine lv_aload_n hx hb dX4_setting_38 rfl (lv_at hl 1 rfl) ?_
        refine va_get (D := (dC, dI)) (ci := 4) (v := .ref (k 1)) (C := RX4) (T := TX4) (N := 22) hx hb hT hiX4 hown hK hP 0 rfl rfl 4 (by decide) (hT _ kf_X4_13) (fun _ h9 => h9) rfl dX4_setting_39 ?_
        refine lv_iload_n hx hb dX4_setting_42 rfl (lv_at hl 2 rfl) ?_
        refine lv_iload_n hx hb dX4_setting_43 rfl (lv_at hl 3 rfl) ?_
        refine ast_i hx hb hK hP hD hS 1 0 rfl rfl (by decide) (w := j) rfl (by omega) dX4_setting_44 (fun H locs hP hD hS => ?_)
        have hP : va_P (dC, dI) vwCl (mW cI cZ k up lo ln cn tm (upd se j x) isI we br ma sf pa) H := hP
        have hD : va_D A (mW cI cZ k up lo ln cn tm (upd se j x) isI we br ma sf pa) := hD
        refine lv_iload_n hx hb dX4_setting_45 rfl (lv_at hl 0 rfl) ?_
        exact retM_i (S := MS) (post := fun r u => (¬ ((0 ≤ (nI j) ∧ (nI j) ≤ 2) ∧ (0 ≤ x ∧ x ≤ (if (nI j) = 2 then 100 else 2))) ∧ r = -2 ∧ u = (ln, cn, se, isI, we, br, ma, sf, pa)) ∨ (((0 ≤ (nI j) ∧ (nI j) ≤ 2) ∧ (0 ≤ x ∧ x ≤ (if (nI j) = 2 then 100 else 2))) ∧ ∃ i7, i7 < 3 ∧ (nI j) = nI i7 ∧ r = se i7 ∧ u = (ln, cn, (upd se i7 x), isI, we, br, ma, sf, pa))) (w2 := fun u => mWt cI cZ k up lo tm u) (ln, cn, (upd se j x), isI, we, br, ma, sf, pa) hx hb hr hlocks (by first | exact Or.inl ⟨fun h => hw_3 h.1, rfl, rfl⟩ | exact Or.inl ⟨fun h => hw_22 (by have h2 := h.2; rw [if_pos c_13] at h2; exact h2), rfl, rfl⟩ | exact Or.inl ⟨fun h => hw_22 (by have h2 := h.2; rw [if_neg c_13] at h2; exact h2), rfl, rfl⟩ | exact Or.inr ⟨⟨hw_3, by rw [if_pos c_13]; exact hw_22⟩, j, hj, rfl, rfl, rfl⟩ | exact Or.inr ⟨⟨hw_3, by rw [if_neg c_13]; exact hw_22⟩, j, hj, rfl, rfl, rfl⟩) hP hK hD hS dX4_setting_46
      · refine lv_if_ne (tgt := 31) hx hb dX4_setting_25 (by decide) (fun h => absurd h (by decide)) (fun c_25 => ?_)
        refine lv_bipush (v := (-2)) hx hb dX4_setting_28 (by decide) ?_
        exact retM_i (S := MS) (post := fun r u => (¬ ((0 ≤ v ∧ v ≤ 2) ∧ (0 ≤ x ∧ x ≤ (if v = 2 then 100 else 2))) ∧ r = -2 ∧ u = (ln, cn, se, isI, we, br, ma, sf, pa)) ∨ (((0 ≤ v ∧ v ≤ 2) ∧ (0 ≤ x ∧ x ≤ (if v = 2 then 100 else 2))) ∧ ∃ i7, i7 < 3 ∧ v = nI i7 ∧ r = se i7 ∧ u = (ln, cn, (upd se i7 x), isI, we, br, ma, sf, pa))) (w2 := fun u => mWt cI cZ k up lo tm u) (ln, cn, se, isI, we, br, ma, sf, pa) hx hb hr hlocks (by first | exact Or.inl ⟨fun h => hw_3 h.1, rfl, rfl⟩ | exact Or.inl ⟨fun h => hw_22 (by have h2 := h.2; rw [if_pos c_13] at h2; exact h2), rfl, rfl⟩ | exact Or.inl ⟨fun h => hw_22 (by have h2 := h.2; rw [if_neg c_13] at h2; exact h2), rfl, rfl⟩ | exact Or.inr ⟨⟨hw_3, by rw [if_pos c_13]; exact hw_22⟩, j, hj, rfl, rfl, rfl⟩ | exact Or.inr ⟨⟨hw_3, by rw [if_neg c_13]; exact hw_22⟩, j, hj, rfl, rfl, rfl⟩) hP hK hD hS dX4_setting_30
  · refine lv_if_eq (tgt := 28) hx hb dX4_setting_6 (by decide) (fun c_6 => ?_) (fun h => absurd h (by decide))
    refine lv_bipush (v := (-2)) hx hb dX4_setting_28 (by decide) ?_
    exact retM_i (S := MS) (post := fun r u => (¬ ((0 ≤ v ∧ v ≤ 2) ∧ (0 ≤ x ∧ x ≤ (if v = 2 then 100 else 2))) ∧ r = -2 ∧ u = (ln, cn, se, isI, we, br, ma, sf, pa)) ∨ (((0 ≤ v ∧ v ≤ 2) ∧ (0 ≤ x ∧ x ≤ (if v = 2 then 100 else 2))) ∧ ∃ i7, i7 < 3 ∧ v = nI i7 ∧ r = se i7 ∧ u = (ln, cn, (upd se i7 x), isI, we, br, ma, sf, pa))) (w2 := fun u => mWt cI cZ k up lo tm u) (ln, cn, se, isI, we, br, ma, sf, pa) hx hb hr hlocks (by first | exact Or.inl ⟨fun h => hw_3 h.1, rfl, rfl⟩ | exact Or.inl ⟨fun h => hw_22 (by have h2 := h.2; rw [if_pos c_13] at h2; exact h2), rfl, rfl⟩ | exact Or.inl ⟨fun h => hw_22 (by have h2 := h.2; rw [if_neg c_13] at h2; exact h2), rfl, rfl⟩ | exact Or.inr ⟨⟨hw_3, by rw [if_pos c_13]; exact hw_22⟩, j, hj, rfl, rfl, rfl⟩ | exact Or.inr ⟨⟨hw_3, by rw [if_neg c_13]; exact hw_22⟩, j, hj, rfl, rfl, rfl⟩) hP hK hD hS dX4_setting_30
