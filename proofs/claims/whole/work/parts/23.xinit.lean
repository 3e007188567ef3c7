variable {l : Launch} {dC : Nat → ClassId} {dI : Nat → Nat → Nat} {cI cJ cZ : ClassId}
variable {q : Nat → Nat} {ln cw ic bs ss : Int32} {se we un sf pa : Nat → Int32}
variable {ct : Int32} {ov gf : Nat → Int64} {gi ta : Nat → Int32}
variable {k : Nat → Nat} {r : Rat} {up lo : Int64} {cn tm : Int32} {isI br ma : Nat → Int32} {aU aL uU uL oU oL gU gL : Nat → Int64}

section NEWA
variable {p : Program} {e : Env} {R : Room} {s : State} {m : MethodId} {args : Array Value} {below : List Frame} {meth : Method} {c : Code} {H : Heap} {locs : List Loc} {cells slots : Nat} {Q : State → Prop} {pc : Nat} {ls : Array Slot} {rest : List Value} {cc : ByteArray} {D : va_G} {A : Nat → Prop} {H0 : Heap}

theorem new_i {ws : va_W} (hx : p.tables.exec = Jvm.exec) (hb : c.code = cc) (harr : (Cond.arrayClass .int).before args s = true) (hK : va_K D vwCl (ty3 cI cJ cZ) s) (hP : va_P D vwCl ws H) (hD : va_D A ws) (hS : va_S A H0 H locs) (hA : ∀ q, H0.size ≤ q → A q) {n : Int32} (N : Nat) (hn : n = nI N) (hN : N ≤ 100) (hcells : cells + 1 ≤ R.cells) (hslots : slots + N ≤ R.slots) (hdg : decode cc pc = .ok (.newarray .int, 2))
    (kk : ∀ (q : Nat) (H1 : Heap), va_P D vwCl (ws ++ [(q, .inl (cI, N, .inl (fun _ => 0)))]) H1 → va_D A (ws ++ [(q, .inl (cI, N, .inl (fun _ => 0)))]) → va_S A H0 H1 locs → W p l e R s m args below meth c H1 locs (cells + 1) (slots + N) Q (F0 m (pc + 2) ls (.ref q :: rest))) : W p l e R s m args below meth c H locs cells slots Q (F0 m pc ls (.int n :: rest)) := by
  subst hn
  refine va_newa (atype := .int) (ty := .int) hx hb harr rfl hK hP hD hS hA (a0 := (N, .inl (fun _ => 0))) (fun cA => rfl) (nI_pos (by omega)) (nI_clamp (by omega)) (by show N * _ ≤ _; exact Nat.le_trans (Nat.mul_le_mul_right _ hN) (by decide)) hcells hslots hdg (fun q cA H1 hK1 hP1 hD1 hS1 => ?_)
  have e : cA = cI := by
    have h1 := (hK1.2 3 (cA, .int) rfl).2
    have h2 := (hK.2 0 (cI, .int) rfl).2
    exact Option.some.inj (h1.symm.trans h2)
  subst e
  exact kk q H1 hP1 hD1 hS1

theorem new_l {ws : va_W} (hx : p.tables.exec = Jvm.exec) (hb : c.code = cc) (harr : (Cond.arrayClass .long).before args s = true) (hK : va_K D vwCl (ty3 cI cJ cZ) s) (hP : va_P D vwCl ws H) (hD : va_D A ws) (hS : va_S A H0 H locs) (hA : ∀ q, H0.size ≤ q → A q) {n : Int32} (N : Nat) (hn : n = nI N) (hN : N ≤ 100) (hcells : cells + 1 ≤ R.cells) (hslots : slots + N ≤ R.slots) (hdg : decode cc pc = .ok (.newarray .long, 2))
    (kk : ∀ (q : Nat) (H1 : Heap), va_P D vwCl (ws ++ [(q, .inl (cJ, N, .inr (.inl (fun _ => 0))))]) H1 → va_D A (ws ++ [(q, .inl (cJ, N, .inr (.inl (fun _ => 0))))]) → va_S A H0 H1 locs → W p l e R s m args below meth c H1 locs (cells + 1) (slots + N) Q (F0 m (pc + 2) ls (.ref q :: rest))) : W p l e R s m args below meth c H locs cells slots Q (F0 m pc ls (.int n :: rest)) := by
  subst hn
  refine va_newa (atype := .long) (ty := .long) hx hb harr rfl hK hP hD hS hA (a0 := (N, .inr (.inl (fun _ => 0)))) (fun cA => rfl) (nI_pos (by omega)) (nI_clamp (by omega)) (by show N * _ ≤ _; exact Nat.le_trans (Nat.mul_le_mul_right _ hN) (by decide)) hcells hslots hdg (fun q cA H1 hK1 hP1 hD1 hS1 => ?_)
  have e : cA = cJ := by
    have h1 := (hK1.2 3 (cA, .long) rfl).2
    have h2 := (hK.2 1 (cJ, .long) rfl).2
    exact Option.some.inj (h1.symm.trans h2)
  subst e
  exact kk q H1 hP1 hD1 hS1

theorem new_z {ws : va_W} (hx : p.tables.exec = Jvm.exec) (hb : c.code = cc) (harr : (Cond.arrayClass .boolean).before args s = true) (hK : va_K D vwCl (ty3 cI cJ cZ) s) (hP : va_P D vwCl ws H) (hD : va_D A ws) (hS : va_S A H0 H locs) (hA : ∀ q, H0.size ≤ q → A q) {n : Int32} (N : Nat) (hn : n = nI N) (hN : N ≤ 100) (hcells : cells + 1 ≤ R.cells) (hslots : slots + N ≤ R.slots) (hdg : decode cc pc = .ok (.newarray .boolean, 2))
    (kk : ∀ (q : Nat) (H1 : Heap), va_P D vwCl (ws ++ [(q, .inl (cZ, N, .inl (fun _ => 0)))]) H1 → va_D A (ws ++ [(q, .inl (cZ, N, .inl (fun _ => 0)))]) → va_S A H0 H1 locs → W p l e R s m args below meth c H1 locs (cells + 1) (slots + N) Q (F0 m (pc + 2) ls (.ref q :: rest))) : W p l e R s m args below meth c H locs cells slots Q (F0 m pc ls (.int n :: rest)) := by
  subst hn
  refine va_newa (atype := .boolean) (ty := .boolean) hx hb harr rfl hK hP hD hS hA (a0 := (N, .inl (fun _ => 0))) (fun cA => rfl) (nI_pos (by omega)) (nI_clamp (by omega)) (by show N * _ ≤ _; exact Nat.le_trans (Nat.mul_le_mul_right _ hN) (by decide)) hcells hslots hdg (fun q cA H1 hK1 hP1 hD1 hS1 => ?_)
  have e : cA = cZ := by
    have h1 := (hK1.2 3 (cA, .boolean) rfl).2
    have h2 := (hK.2 2 (cZ, .boolean) rfl).2
    exact Option.some.inj (h1.symm.trans h2)
  subst e
  exact kk q H1 hP1 hD1 hS1

end NEWA
abbrev arI (cI : ClassId) (a n : Nat) (f : Nat → Int32) : va_W := [(a, .inl (cI, n, .inl f))]
abbrev arJ (cJ : ClassId) (a n : Nat) (f : Nat → Int64) : va_W := [(a, .inl (cJ, n, .inr (.inl f)))]
abbrev arZ (cZ : ClassId) (a n : Nat) (f : Nat → Int32) : va_W := [(a, .inl (cZ, n, .inl f))]
abbrev fN (a : Nat) (v1 v2 v3 v4 : Value) (ct : Int32) : va_W := [(a, .inr (0, [v1, v2, v3, v4, .int ct]))]
abbrev xN (a : Nat) (ln cw : Int32) (v1 : Value) (ic bs ss : Int32) (v2 v3 v4 v5 v6 : Value) : va_W := [(a, .inr (3, [.int ln, .int cw, v1, .int ic, .int bs, .int ss, v2, v3, v4, v5, v6]))]
set_option maxHeartbeats 4000000 in
set_option maxRecDepth 100000 in
theorem c_X0_init (sz : Nat) {a : Nat} : Met l yX0_init (wT yX0_init cX0_init 1 none) ({ frames := 1, cells := 4, slots := 24, locals := 12 }) (pM (dC, dI) (ty3 cI cJ cZ) (fN  a .null .null .null .null 0) [.ref a] sz) (va_Qv (S := Nat × Nat × Nat × Nat) (fun _ => True) (fun u t9 => bM (dC, dI) (ty3 cI cJ cZ) (va_A (fN  a .null .null .null .null 0) sz) (fN a (.ref u.1) (.ref u.2.1) (.ref u.2.2.1) (.ref u.2.2.2) 0 ++ arJ cJ u.1 6 (fun _ => 0) ++ arI cI u.2.1 6 (fun _ => 0) ++ arI cI u.2.2.1 6 (fun _ => 0) ++ arJ cJ u.2.2.2 6 (fun _ => 0)) t9) (va_A (fN  a .null .null .null .null 0) sz)) 4 24 (va_A (fN  a .null .null .null .null 0) sz) := by
  refine Met.ofW (cc := cX0_init) (maxL := 1) (ret := none) (by decide) rfl ?_
  intro p e s m args below meth c s₁ B hml hv
  obtain ⟨rfl, hsz, hP, hK, hD0⟩ := hv
  have hx := B.exec
  have hb := B.bytes
  have hr := B.returns
  have hts := atoms_spec (ws := wT yX0_init cX0_init 1 none) B.pre
  have hT := wT_T hts
  have hown : s.vm.findClass RX0 = some m.cls := findClass_of_methodNamed B.named
  have hlocks := B.notSynchronized
  have hin : meth.name = "<init>" := (name_of_methodNamed B.named B.method).1
  subst hsz
  have hD := hD0.self (sz := s.heap.size)
  generalize hAe : va_A (fN  a .null .null .null .null 0) s.heap.size = A at hD ⊢
  have hA : ∀ q : Nat, s.heap.size ≤ q → A q := fun q h => by rw [← hAe]; exact Or.inr h
  have hS : va_S A s.heap s.heap [] := va_S.rf
  have hl := lv_entry ([.ref a]) (n := 1) (Nat.le_of_ble_eq_true rfl)
  rw [lg_entry_eq]
  generalize (lg_sl ([.ref a]) ++ List.replicate (1 - (lg_sl ([.ref a])).length) Slot.unset).toArray = ls at hl ⊢
  have hl : lv_has ls 1 [(0, .ref a)] := hl
  refine lv_aload_n hx hb dX0_init_0 rfl (lv_at hl 0 rfl) ?_
  refine W.objInit hx hb hown (hT _ km_X0_3) (hT _ ki_obj) (hT _ kc_obj) rfl (by rw [hml]; exact hl.1) rfl dX0_init_1 (Nat.le_of_ble_eq_true rfl) (Nat.le_of_ble_eq_true rfl) ?_
  refine W.eq (g2 := F0 m 4 ls []) rfl ?_
  refine lv_aload_n hx hb dX0_init_4 rfl (lv_at hl 0 rfl) ?_
  refine lv_bipush (v := 6) hx hb dX0_init_5 (by decide) ?_
  refine new_l hx hb (hT _ ka_long) hK hP hD hS hA 6 rfl (by decide) (Nat.le_of_ble_eq_true rfl) (Nat.le_of_ble_eq_true rfl) dX0_init_7 (fun q7 H hP hD hS => ?_)
  have hP : va_P (dC, dI) vwCl ((fN  a .null .null .null .null 0) ++ (arJ cJ q7 6 (fun _ => 0))) H := hP
  have hD : va_D A ((fN  a .null .null .null .null 0) ++ (arJ cJ q7 6 (fun _ => 0))) := hD
  refine va_putF (D := (dC, dI)) (ci := 0) (v := .ref q7) (ty := .array .long) (C := RX0) (T := TX0) (N := 5) hx hb hT hiX0 tyX0 tyX0_ok nmX0 hown hK hP hD hS 0 rfl rfl 0 (by decide) (hT _ kf_X0_9) (fun _ h9 => h9) rfl hin rfl (by decide +kernel) rfl rfl (Nat.le_of_ble_eq_true rfl) dX0_init_9 (fun H locs hP hD hS => ?_)
  have hP : va_P (dC, dI) vwCl ((fN  a (.ref q7) .null .null .null 0) ++ (arJ cJ q7 6 (fun _ => 0))) H := hP
  have hD : va_D A ((fN  a (.ref q7) .null .null .null 0) ++ (arJ cJ q7 6 (fun _ => 0))) := hD
  refine lv_aload_n hx hb dX0_init_12 rfl (lv_at hl 0 rfl) ?_
  refine lv_bipush (v := 6) hx hb dX0_init_13 (by decide) ?_
  refine new_i hx hb (hT _ ka_int) hK hP hD hS hA 6 rfl (by decide) (Nat.le_of_ble_eq_true rfl) (Nat.le_of_ble_eq_true rfl) dX0_init_15 (fun q15 H hP hD hS => ?_)
  have hP : va_P (dC, dI) vwCl ((fN  a (.ref q7) .null .null .null 0) ++ (arJ cJ q7 6 (fun _ => 0)) ++ (arI cI q15 6 (fun _ => 0))) H := hP
  have hD : va_D A ((fN  a (.ref q7) .null .null .null 0) ++ (arJ cJ q7 6 (fun _ => 0)) ++ (arI cI q15 6 (fun _ => 0))) := hD
  refine va_putF (D := (dC, dI)) (ci := 0) (v := .ref q15) (ty := .array .int) (C := RX0) (T := TX0) (N := 5) hx hb hT hiX0 tyX0 tyX0_ok nmX0 hown hK hP hD hS 0 rfl rfl 1 (by decide) (hT _ kf_X0_15) (fun _ h9 => h9) rfl hin rfl (by decide +kernel) rfl rfl (Nat.le_of_ble_eq_true rfl) dX0_init_17 (fun H locs hP hD hS => ?_)
  have hP : va_P (dC, dI) vwCl ((fN  a (.ref q7) (.ref q15) .null .null 0) ++ (arJ cJ q7 6 (fun _ => 0)) ++ (arI cI q15 6 (fun _ => 0))) H := hP
  have hD : va_D A ((fN  a (.ref q7) (.ref q15) .null .null 0) ++ (arJ cJ q7 6 (fun _ => 0)) ++ (arI cI q15 6 (fun _ => 0))) := hD
  refine lv_aload_n hx hb dX0_init_20 rfl (lv_at hl 0 rfl) ?_
  refine lv_bipush (v := 6) hx hb dX0_init_21 (by decide) ?_
  refine new_i hx hb (hT _ ka_int) hK hP hD hS hA 6 rfl (by decide) (Nat.le_of_ble_eq_true rfl) (Nat.le_of_ble_eq_true rfl) dX0_init_23 (fun q23 H hP hD hS => ?_)
  have hP : va_P (dC, dI) vwCl ((fN  a (.ref q7) (.ref q15) .null .null 0) ++ (arJ cJ q7 6 (fun _ => 0)) ++ (arI cI q15 6 (fun _ => 0)) ++ (arI cI q23 6 (fun _ => 0))) H := hP
  have hD : va_D A ((fN  a (.ref q7) (.ref q15) .null .null 0) ++ (arJ cJ q7 6 (fun _ => 0)) ++ (arI cI q15 6 (fun _ => 0)) ++ (arI cI q23 6 (fun _ => 0))) := hD
  refine va_putF (D := (dC, dI)) (ci := 0) (v := .ref q23) (ty := .array .int) (C := RX0) (T := TX0) (N := 5) hx hb hT hiX0 tyX0 tyX0_ok nmX0 hown hK hP hD hS 0 rfl rfl 2 (by decide) (hT _ kf_X0_19) (fun _ h9 => h9) rfl hin rfl (by decide +kernel) rfl rfl (Nat.le_of_ble_eq_true rfl) dX0_init_25 (fun H locs hP hD hS => ?_)
  have hP : va_P (dC, dI) vwCl ((fN  a (.ref q7) (.ref q15) (.ref q23) .null 0) ++ (arJ cJ q7 6 (fun _ => 0)) ++ (arI cI q15 6 (fun _ => 0)) ++ (arI cI q23 6 (fun _ => 0))) H := hP
  have hD : va_D A ((fN  a (.ref q7) (.ref q15) (.ref q23) .null 0) ++ (arJ cJ q7 6 (fun _ => 0)) ++ (arI cI q15 6 (fun _ => 0)) ++ (arI cI q23 6 (fun _ => 0))) := hD
  refine lv_aload_n hx hb dX0_init_28 rfl (lv_at hl 0 rfl) ?_
  refine lv_bipush (v := 6) hx hb dX0_init_29 (by decide) ?_
  refine new_l hx hb (hT _ ka_long) hK hP hD hS hA 6 rfl (by decide) (Nat.le_of_ble_eq_true rfl) (Nat.le_of_ble_eq_true rfl) dX0_init_31 (fun q31 H hP hD hS => ?_)
  have hP : va_P (dC, dI) vwCl ((fN  a (.ref q7) (.ref q15) (.ref q23) .null 0) ++ (arJ cJ q7 6 (fun _ => 0)) ++ (arI cI q15 6 (fun _ => 0)) ++ (arI cI q23 6 (fun _ => 0)) ++ (arJ cJ q31 6 (fun _ => 0))) H := hP
  have hD : va_D A ((fN  a (.ref q7) (.ref q15) (.ref q23) .null 0) ++ (arJ cJ q7 6 (fun _ => 0)) ++ (arI cI q15 6 (fun _ => 0)) ++ (arI cI q23 6 (fun _ => 0)) ++ (arJ cJ q31 6 (fun _ => 0))) := hD
  refine va_putF (D := (dC, dI)) (ci := 0) (v := .ref q31) (ty := .array .long) (C := RX0) (T := TX0) (N := 5) hx hb hT hiX0 tyX0 tyX0_ok nmX0 hown hK hP hD hS 0 rfl rfl 3 (by decide) (hT _ kf_X0_22) (fun _ h9 => h9) rfl hin rfl (by decide +kernel) rfl rfl (Nat.le_of_ble_eq_true rfl) dX0_init_33 (fun H locs hP hD hS => ?_)
  have hP : va_P (dC, dI) vwCl ((fN  a (.ref q7) (.ref q15) (.ref q23) (.ref q31) 0) ++ (arJ cJ q7 6 (fun _ => 0)) ++ (arI cI q15 6 (fun _ => 0)) ++ (arI cI q23 6 (fun _ => 0)) ++ (arJ cJ q31 6 (fun _ => 0))) H := hP
  have hD : va_D A ((fN  a (.ref q7) (.ref q15) (.ref q23) (.ref q31) 0) ++ (arJ cJ q7 6 (fun _ => 0)) ++ (arI cI q15 6 (fun _ => 0)) ++ (arI cI q23 6 (fun _ => 0)) ++ (arJ cJ q31 6 (fun _ => 0))) := hD
  exact retM_v (S := Nat × Nat × Nat × Nat) (post := fun _ => True) (w2 := fun u => fN a (.ref u.1) (.ref u.2.1) (.ref u.2.2.1) (.ref u.2.2.2) 0 ++ arJ cJ u.1 6 (fun _ => 0) ++ arI cI u.2.1 6 (fun _ => 0) ++ arI cI u.2.2.1 6 (fun _ => 0) ++ arJ cJ u.2.2.2 6 (fun _ => 0)) (q7, q15, q23, q31) hx hb hr hlocks trivial hP hK hD hS dX0_init_36
