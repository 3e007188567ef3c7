variable {l : Launch} {dC : Nat → ClassId} {dI : Nat → Nat → Nat} {cI cJ cZ : ClassId}
variable {q : Nat → Nat} {ln cw ic bs ss : Int32} {se we un sf pa : Nat → Int32}
variable {ct : Int32} {ov gf : Nat → Int64} {gi ta : Nat → Int32}
variable {k : Nat → Nat} {up lo : Int64} {cn tm : Int32} {isI br ma : Nat → Int32} {aU aL uU uL oU oL gU gL : Nat → Int64}

abbrev FS : Type := Nat × Nat × Nat × (Nat → Int64) × (Nat → Int32) × (Nat → Int32) × (Nat → Int64)
abbrev FV : Type := Int32 × (Nat → Int64) × (Nat → Int32) × (Nat → Int32) × (Nat → Int64)
abbrev fWv (cI cJ : ClassId) (q : Nat → Nat) (u : FV) : va_W := fW cI cJ q u.1 u.2.1 u.2.2.1 u.2.2.2.1 u.2.2.2.2
def f_min (a b : Int64) : Int64 := if b < a then b else a
def f_ov (ov : Nat → Int64) (g t : Nat) : Nat → Int64 := vp_updL (vp_updL ov g (ov g + f_min (-(ov g)) (ov t))) t (vp_updL ov g (ov g + f_min (-(ov g)) (ov t)) t - f_min (-(ov g)) (ov t))
def f_step (s : FS) : FS := if 6 ≤ s.2.1 ∨ 6 ≤ s.2.2.1 ∨ 6 ≤ s.1 then s else if s.2.2.2.1 s.2.1 < 0 then (if 0 < s.2.2.2.1 s.2.2.1 then (s.1 + 1, s.2.1, s.2.2.1, f_ov s.2.2.2.1 s.2.1 s.2.2.1, upd s.2.2.2.2.1 s.1 (nI s.2.1), upd s.2.2.2.2.2.1 s.1 (nI s.2.2.1), vp_updL s.2.2.2.2.2.2 s.1 (f_min (-(s.2.2.2.1 s.2.1)) (s.2.2.2.1 s.2.2.1))) else (s.1, s.2.1, s.2.2.1 + 1, s.2.2.2)) else (s.1, s.2.1 + 1, s.2.2)
def f_it (s : FS) : Nat → FS
  | 0 => s
  | i + 1 => f_step (f_it s i)
theorem f_stuck {s : FS} {i : Nat} (h : f_step (f_it s i) = f_it s i) : ∀ k, f_it s (i + k) = f_it s i := by
  intro k
  induction k with
  | zero => rfl
  | succ k ih => show f_step (f_it s (i + k)) = _; rw [ih, h]
theorem f_stop {s u : FS} {i : Nat} (h : f_it s i = u) (h2 : 6 ≤ u.2.1 ∨ 6 ≤ u.2.2.1 ∨ 6 ≤ u.1) (hi : i ≤ 24) : u = f_it s 24 := by
  have h3 : f_step (f_it s i) = f_it s i := by rw [h]; unfold f_step; rw [if_pos h2]
  have := f_stuck h3 (24 - i)
  rw [← h, ← this]
  congr 1
  omega
theorem lt6_of {n : Nat} (hn : n < 100) (h : ¬ 6 ≤ nI n) : n < 6 := by
  rcases Nat.lt_or_ge n 6 with h2 | h2
  · exact h2
  · exact absurd (nI_le (a := 6) h2 (by omega)) h
theorem ge6_of {n : Nat} (hn : n < 100) (h : 6 ≤ nI n) : 6 ≤ n := by
  rcases Nat.lt_or_ge n 6 with h2 | h2
  · exact absurd h (nI_ge (b := 6) h2 (by decide))
  · exact h2
theorem lt6_of2 {n : Nat} (hn : n < 100) (h : nI n < 6) : n < 6 := lt6_of hn (Int32.not_le.mpr h)
theorem ge6_of2 {n : Nat} (hn : n < 100) (h : ¬ nI n < 6) : 6 ≤ n := ge6_of hn (Int32.not_lt.mp h)
def x_ovN (ic bs ss : Int32) (we un pa : Nat → Int32) (du fd : Int64) (ov : Nat → Int64) : Nat → (Nat → Int64)
  | 0 => ov
  | i + 1 => vp_updL (x_ovN ic bs ss we un pa du fd ov i) i (if bt ic i = true then x_overUp ic bs ss we un pa i du fd else 0)
/-- the flow behind an evening out -/
def x_flow (ic bs ss : Int32) (we un pa : Nat → Int32) (du fd : Int64) (ov : Nat → Int64) (gi ta : Nat → Int32) (gf : Nat → Int64) : FS := f_it (0, 0, 0, x_ovN ic bs ss we un pa du fd ov 6, gi, ta, gf) 24
set_option maxHeartbeats 4000000 in
set_option maxRecDepth 100000 in
theorem c_X0_give (sz : Nat) (n g t : Nat) (hn : n < 6) (hg : g < 6) (ht : t < 6) : Met l yX0_give (wT yX0_give cX0_give 5 none) ({ frames := 1, cells := 0, slots := 0, locals := 15 }) (pM (dC, dI) (ty3 cI cJ cZ) (fW cI cJ q (nI n) ov gi ta gf) [.ref (q 6), .int (nI g), .int (nI t)] sz) (va_Qv (S := Unit) (fun _ => True) (fun u t9 => bM (dC, dI) (ty3 cI cJ cZ) (va_A (fW cI cJ q (nI n) ov gi ta gf) sz) (fW cI cJ q (nI (n + 1)) (f_ov ov g t) (upd gi n (nI g)) (upd ta n (nI t)) (vp_updL gf n (f_min (-(ov g)) (ov t)))) t9) (va_A (fW cI cJ q (nI n) ov gi ta gf) sz)) 0 0 (va_A (fW cI cJ q (nI n) ov gi ta gf) sz) := by
  refine Met.ofW (cc := cX0_give) (maxL := 5) (ret := none) (by decide) rfl ?_
  intro p e s m args below meth c s₁ B hml hv
  obtain ⟨rfl, hsz, hP, hK, hD0⟩ := hv
  have hx := B.exec
  have hb := B.bytes
  have hr := B.returns
  have hts := atoms_spec (ws := wT yX0_give cX0_give 5 none) B.pre
  have hT := wT_T hts
  have hown : s.vm.findClass RX0 = some m.cls := findClass_of_methodNamed B.named
  have hlocks := B.notSynchronized
  subst hsz
  have hD := hD0.self (sz := s.heap.size)
  generalize hAe : va_A (fW cI cJ q (nI n) ov gi ta gf) s.heap.size = A at hD ⊢
  have hA : ∀ q : Nat, s.heap.size ≤ q → A q := fun q h => by rw [← hAe]; exact Or.inr h
  have hS : va_S A s.heap s.heap [] := va_S.rf
  have hl := lv_entry ([.ref (q 6), .int (nI g), .int (nI t)]) (n := 5) (Nat.le_of_ble_eq_true rfl)
  rw [lg_entry_eq]
  generalize (lg_sl ([.ref (q 6), .int (nI g), .int (nI t)]) ++ List.replicate (5 - (lg_sl ([.ref (q 6), .int (nI g), .int (nI t)])).length) Slot.unset).toArray = ls at hl ⊢
  have hl : lv_has ls 5 [(0, .ref (q 6)), (1, .int (nI g)), (2, .int (nI t))] := hl
  refine lv_aload_n hx hb dX0_give_0 rfl (lv_at hl 0 rfl) ?_
  refine va_get (D := (dC, dI)) (ci := 0) (v := .ref (q 7)) (C := RX0) (T := TX0) (N := 5) hx hb hT hiX0 hown hK hP 0 rfl rfl 0 (by decide) (hT _ kf_X0_9) (fun _ h9 => h9) rfl dX0_give_1 ?_
  refine lv_iload_n hx hb dX0_give_4 rfl (lv_at hl 1 rfl) ?_
  refine ald_l hx hb hK hP 1 1 rfl rfl (by decide) (w := g) rfl (by omega) dX0_give_5 ?_
  refine lv_lneg hx hb dX0_give_6 ?_
  refine lv_aload_n hx hb dX0_give_7 rfl (lv_at hl 0 rfl) ?_
  refine va_get (D := (dC, dI)) (ci := 0) (v := .ref (q 7)) (C := RX0) (T := TX0) (N := 5) hx hb hT hiX0 hown hK hP 0 rfl rfl 0 (by decide) (hT _ kf_X0_9) (fun _ h9 => h9) rfl dX0_give_8 ?_
  refine lv_iload_n hx hb dX0_give_11 rfl (lv_at hl 2 rfl) ?_
  refine ald_l hx hb hK hP 1 1 rfl rfl (by decide) (w := t) rfl (by omega) dX0_give_12 ?_
  refine va_mmin_long hx hb (by rw [hml]; exact hl.1.symm) hown (hT _ km_X0_33) (hT _ kt_minl) (hT _ kn_J9) (hT _ kc_minl) (Nat.le_of_ble_eq_true rfl) (Nat.le_of_ble_eq_true rfl) (Nat.le_of_ble_eq_true rfl) (Nat.le_of_ble_eq_true rfl) dX0_give_13 ?_
  refine topl_eq (y := (f_min (-(ov g)) (ov t))) rfl ?_
  refine lv_lstore_n (lv' := [(3, .long (f_min (-(ov g)) (ov t))), (0, .ref (q 6)), (1, .int (nI g)), (2, .int (nI t))]) hx hb dX0_give_16 rfl hl (by decide) rfl (fun ls hl => ?_)
  refine lv_aload_n hx hb dX0_give_17 rfl (lv_at hl 1 rfl) ?_
  refine va_get (D := (dC, dI)) (ci := 0) (v := .ref (q 7)) (C := RX0) (T := TX0) (N := 5) hx hb hT hiX0 hown hK hP 0 rfl rfl 0 (by decide) (hT _ kf_X0_9) (fun _ h9 => h9) rfl dX0_give_18 ?_
  refine lv_iload_n hx hb dX0_give_21 rfl (lv_at hl 2 rfl) ?_
  refine lv_dup2_11 hx hb dX0_give_22 rfl rfl ?_
  refine ald_l hx hb hK hP 1 1 rfl rfl (by decide) (w := g) rfl (by omega) dX0_give_23 ?_
  refine lv_lload_n hx hb dX0_give_24 rfl (lv_at hl 0 rfl) ?_
  refine lv_ladd hx hb dX0_give_25 ?_
  refine ast_l hx hb hK hP hD hS 1 1 rfl rfl (by decide) (w := g) rfl (by omega) dX0_give_26 (fun H locs hP hD hS => ?_)
  have hP : va_P (dC, dI) vwCl (fW cI cJ q (nI n) (vp_updL ov g ((ov g) + (f_min (-(ov g)) (ov t)))) gi ta gf) H := hP
  have hD : va_D A (fW cI cJ q (nI n) (vp_updL ov g ((ov g) + (f_min (-(ov g)) (ov t)))) gi ta gf) := hD
  refine lv_aload_n hx hb dX0_give_27 rfl (lv_at hl 1 rfl) ?_
  refine va_get (D := (dC, dI)) (ci := 0) (v := .ref (q 7)) (C := RX0) (T := TX0) (N := 5) hx hb hT hiX0 hown hK hP 0 rfl rfl 0 (by decide) (hT _ kf_X0_9) (fun _ h9 => h9) rfl dX0_give_28 ?_
  refine lv_iload_n hx hb dX0_give_31 rfl (lv_at hl 3 rfl) ?_
  refine lv_dup2_11 hx hb dX0_give_32 rfl rfl ?_
  refine ald_l hx hb hK hP 1 1 rfl rfl (by decide) (w := t) rfl (by omega) dX0_give_33 ?_
  refine lv_lload_n hx hb dX0_give_34 rfl (lv_at hl 0 rfl) ?_
  refine lv_lsub hx hb dX0_give_35 ?_
  refine ast_l hx hb hK hP hD hS 1 1 rfl rfl (by decide) (w := t) rfl (by omega) dX0_give_36 (fun H locs hP hD hS => ?_)
  have hP : va_P (dC, dI) vwCl (fW cI cJ q (nI n) (vp_updL (vp_updL ov g ((ov g) + (f_min (-(ov g)) (ov t)))) t (((vp_updL ov g ((ov g) + (f_min (-(ov g)) (ov t)))) t) - (f_min (-(ov g)) (ov t)))) gi ta gf) H := hP
  have hD : va_D A (fW cI cJ q (nI n) (vp_updL (vp_updL ov g ((ov g) + (f_min (-(ov g)) (ov t)))) t (((vp_updL ov g ((ov g) + (f_min (-(ov g)) (ov t)))) t) - (f_min (-(ov g)) (ov t)))) gi ta gf) := hD
  refine lv_aload_n hx hb dX0_give_37 rfl (lv_at hl 1 rfl) ?_
  refine va_get (D := (dC, dI)) (ci := 0) (v := .ref (q 8)) (C := RX0) (T := TX0) (N := 5) hx hb hT hiX0 hown hK hP 0 rfl rfl 1 (by decide) (hT _ kf_X0_15) (fun _ h9 => h9) rfl dX0_give_38 ?_
  refine lv_aload_n hx hb dX0_give_41 rfl (lv_at hl 1 rfl) ?_
  refine va_get (D := (dC, dI)) (ci := 0) (v := .int (nI n)) (C := RX0) (T := TX0) (N := 5) hx hb hT hiX0 hown hK hP 0 rfl rfl 4 (by decide) (hT _ kf_X0_25) (fun _ h9 => h9) rfl dX0_give_42 ?_
  refine lv_iload_n hx hb dX0_give_45 rfl (lv_at hl 2 rfl) ?_
  refine ast_i hx hb hK hP hD hS 2 0 rfl rfl (by decide) (w := n) rfl (by omega) dX0_give_46 (fun H locs hP hD hS => ?_)
  have hP : va_P (dC, dI) vwCl (fW cI cJ q (nI n) (vp_updL (vp_updL ov g ((ov g) + (f_min (-(ov g)) (ov t)))) t (((vp_updL ov g ((ov g) + (f_min (-(ov g)) (ov t)))) t) - (f_min (-(ov g)) (ov t)))) (upd gi n (nI g)) ta gf) H := hP
  have hD : va_D A (fW cI cJ q (nI n) (vp_updL (vp_updL ov g ((ov g) + (f_min (-(ov g)) (ov t)))) t (((vp_updL ov g ((ov g) + (f_min (-(ov g)) (ov t)))) t) - (f_min (-(ov g)) (ov t)))) (upd gi n (nI g)) ta gf) := hD
  refine lv_aload_n hx hb dX0_give_47 rfl (lv_at hl 1 rfl) ?_
  refine va_get (D := (dC, dI)) (ci := 0) (v := .ref (q 9)) (C := RX0) (T := TX0) (N := 5) hx hb hT hiX0 hown hK hP 0 rfl rfl 2 (by decide) (hT _ kf_X0_19) (fun _ h9 => h9) rfl dX0_give_48 ?_
  refine lv_aload_n hx hb dX0_give_51 rfl (lv_at hl 1 rfl) ?_
  refine va_get (D := (dC, dI)) (ci := 0) (v := .int (nI n)) (C := RX0) (T := TX0) (N := 5) hx hb hT hiX0 hown hK hP 0 rfl rfl 4 (by decide) (hT _ kf_X0_25) (fun _ h9 => h9) rfl dX0_give_52 ?_
  refine lv_iload_n hx hb dX0_give_55 rfl (lv_at hl 3 rfl) ?_
  refine ast_i hx hb hK hP hD hS 3 0 rfl rfl (by decide) (w := n) rfl (by omega) dX0_give_56 (fun H locs hP hD hS => ?_)
  have hP : va_P (dC, dI) vwCl (fW cI cJ q (nI n) (vp_updL (vp_updL ov g ((ov g) + (f_min (-(ov g)) (ov t)))) t (((vp_updL ov g ((ov g) + (f_min (-(ov g)) (ov t)))) t) - (f_min (-(ov g)) (ov t)))) (upd gi n (nI g)) (upd ta n (nI t)) gf) H := hP
  have hD : va_D A (fW cI cJ q (nI n) (vp_updL (vp_updL ov g ((ov g) + (f_min (-(ov g)) (ov t)))) t (((vp_updL ov g ((ov g) + (f_min (-(ov g)) (ov t)))) t) - (f_min (-(ov g)) (ov t)))) (upd gi n (nI g)) (upd ta n (nI t)) gf) := hD
  refine lv_aload_n hx hb dX0_give_57 rfl (lv_at hl 1 rfl) ?_
  refine va_get (D := (dC, dI)) (ci := 0) (v := .ref (q 10)) (C := RX0) (T := TX0) (N := 5) hx hb hT hiX0 hown hK hP 0 rfl rfl 3 (by decide) (hT _ kf_X0_22) (fun _ h9 => h9) rfl dX0_give_58 ?_
  refine lv_aload_n hx hb dX0_give_61 rfl (lv_at hl 1 rfl) ?_
  refine va_get (D := (dC, dI)) (ci := 0) (v := .int (nI n)) (C := RX0) (T := TX0) (N := 5) hx hb hT hiX0 hown hK hP 0 rfl rfl 4 (by decide) (hT _ kf_X0_25) (fun _ h9 => h9) rfl dX0_give_62 ?_
  refine lv_lload_n hx hb dX0_give_65 rfl (lv_at hl 0 rfl) ?_
  refine ast_l hx hb hK hP hD hS 4 1 rfl rfl (by decide) (w := n) rfl (by omega) dX0_give_66 (fun H locs hP hD hS => ?_)
  have hP : va_P (dC, dI) vwCl (fW cI cJ q (nI n) (vp_updL (vp_updL ov g ((ov g) + (f_min (-(ov g)) (ov t)))) t (((vp_updL ov g ((ov g) + (f_min (-(ov g)) (ov t)))) t) - (f_min (-(ov g)) (ov t)))) (upd gi n (nI g)) (upd ta n (nI t)) (vp_updL gf n (f_min (-(ov g)) (ov t)))) H := hP
  have hD : va_D A (fW cI cJ q (nI n) (vp_updL (vp_updL ov g ((ov g) + (f_min (-(ov g)) (ov t)))) t (((vp_updL ov g ((ov g) + (f_min (-(ov g)) (ov t)))) t) - (f_min (-(ov g)) (ov t)))) (upd gi n (nI g)) (upd ta n (nI t)) (vp_updL gf n (f_min (-(ov g)) (ov t)))) := hD
  refine lv_aload_n hx hb dX0_give_67 rfl (lv_at hl 1 rfl) ?_
  refine lv_dup hx hb dX0_give_68 rfl ?_
  refine va_get (D := (dC, dI)) (ci := 0) (v := .int (nI n)) (C := RX0) (T := TX0) (N := 5) hx hb hT hiX0 hown hK hP 0 rfl rfl 4 (by decide) (hT _ kf_X0_25) (fun _ h9 => h9) rfl dX0_give_69 ?_
  refine lv_iconst (v := 1) hx hb dX0_give_72 (by decide) ?_
  refine lv_iadd hx hb dX0_give_73 ?_
  refine topi_eq (y := (nI (n + 1))) (nI_1 n) ?_
  refine va_put (D := (dC, dI)) (ci := 0) (v := .int (nI (n + 1))) (ty := .int) (C := RX0) (T := TX0) (N := 5) hx hb hT hiX0 tyX0 tyX0_ok nmX0 hown hK hP hD hS 0 rfl rfl 4 (by decide) (hT _ kf_X0_25) (fun _ h9 => h9) rfl (by decide +kernel) rfl rfl (Nat.le_of_ble_eq_true rfl) dX0_give_74 (fun H locs hP hD hS => ?_)
  have hP : va_P (dC, dI) vwCl (fW cI cJ q (nI (n + 1)) (vp_updL (vp_updL ov g ((ov g) + (f_min (-(ov g)) (ov t)))) t (((vp_updL ov g ((ov g) + (f_min (-(ov g)) (ov t)))) t) - (f_min (-(ov g)) (ov t)))) (upd gi n (nI g)) (upd ta n (nI t)) (vp_updL gf n (f_min (-(ov g)) (ov t)))) H := hP
  have hD : va_D A (fW cI cJ q (nI (n + 1)) (vp_updL (vp_updL ov g ((ov g) + (f_min (-(ov g)) (ov t)))) t (((vp_updL ov g ((ov g) + (f_min (-(ov g)) (ov t)))) t) - (f_min (-(ov g)) (ov t)))) (upd gi n (nI g)) (upd ta n (nI t)) (vp_updL gf n (f_min (-(ov g)) (ov t)))) := hD
  exact retM_v (S := Unit) (post := fun _ => True) (w2 := fun u => fW cI cJ q (nI (n + 1)) (f_ov ov g t) (upd gi n (nI g)) (upd ta n (nI t)) (vp_updL gf n (f_min (-(ov g)) (ov t)))) () hx hb hr hlocks trivial hP hK hD hS dX0_give_77
set_option maxHeartbeats 4000000 in
set_option maxRecDepth 100000 in
theorem c_X0_find (sz : Nat)  : Met l yX0_find (wT yX0_find cX0_find 4 none) ({ frames := 2, cells := 0, slots := 0, locals := 39 }) (pM (dC, dI) (ty3 cI cJ cZ) (fW cI cJ q ct ov gi ta gf) [.ref (q 6)] sz) (va_Qv (S := FS) (fun u => u = f_it (0, 0, 0, ov, gi, ta, gf) 24) (fun u t9 => bM (dC, dI) (ty3 cI cJ cZ) (va_A (fW cI cJ q ct ov gi ta gf) sz) (fW cI cJ q (nI u.1) u.2.2.2.1 u.2.2.2.2.1 u.2.2.2.2.2.1 u.2.2.2.2.2.2) t9) (va_A (fW cI cJ q ct ov gi ta gf) sz)) 0 0 (va_A (fW cI cJ q ct ov gi ta gf) sz) := by
  refine Met.ofW (cc := cX0_find) (maxL := 4) (ret := none) (by decide) rfl ?_
  intro p e s m args below meth c s₁ B hml hv
  obtain ⟨rfl, hsz, hP, hK, hD0⟩ := hv
  have hx := B.exec
  have hb := B.bytes
  have hr := B.returns
  have hts := atoms_spec (ws := wT yX0_find cX0_find 4 none) B.pre
  have hT := wT_T hts
  have hown : s.vm.findClass RX0 = some m.cls := findClass_of_methodNamed B.named
  have hlocks := B.notSynchronized
  subst hsz
  have hD := hD0.self (sz := s.heap.size)
  generalize hAe : va_A (fW cI cJ q ct ov gi ta gf) s.heap.size = A at hD ⊢
  have hA : ∀ q : Nat, s.heap.size ≤ q → A q := fun q h => by rw [← hAe]; exact Or.inr h
  have hS : va_S A s.heap s.heap [] := va_S.rf
  have hl := lv_entry ([.ref (q 6)]) (n := 4) (Nat.le_of_ble_eq_true rfl)
  rw [lg_entry_eq]
  generalize (lg_sl ([.ref (q 6)]) ++ List.replicate (4 - (lg_sl ([.ref (q 6)])).length) Slot.unset).toArray = ls at hl ⊢
  have hl : lv_has ls 4 [(0, .ref (q 6))] := hl
  refine lv_aload_n hx hb dX0_find_0 rfl (lv_at hl 0 rfl) ?_
  refine lv_iconst (v := 0) hx hb dX0_find_1 (by decide) ?_
  refine va_put (D := (dC, dI)) (ci := 0) (v := .int 0) (ty := .int) (C := RX0) (T := TX0) (N := 5) hx hb hT hiX0 tyX0 tyX0_ok nmX0 hown hK hP hD hS 0 rfl rfl 4 (by decide) (hT _ kf_X0_25) (fun _ h9 => h9) rfl (by decide +kernel) rfl rfl (Nat.le_of_ble_eq_true rfl) dX0_find_2 (fun H locs hP hD hS => ?_)
  have hP : va_P (dC, dI) vwCl (fW cI cJ q 0 ov gi ta gf) H := hP
  have hD : va_D A (fW cI cJ q 0 ov gi ta gf) := hD
  refine lv_iconst (v := 0) hx hb dX0_find_5 (by decide) ?_
  refine lv_istore_n (lv' := [(1, .int 0), (0, .ref (q 6))]) hx hb dX0_find_6 rfl hl (by decide) rfl (fun ls hl => ?_)
  refine lv_iconst (v := 0) hx hb dX0_find_7 (by decide) ?_
  refine lv_istore_n (lv' := [(2, .int 0), (1, .int 0), (0, .ref (q 6))]) hx hb dX0_find_8 rfl hl (by decide) rfl (fun ls hl => ?_)
  refine lv_iconst (v := 0) hx hb dX0_find_9 (by decide) ?_
  refine lv_istore_n (lv' := [(3, .int 0), (2, .int 0), (1, .int 0), (0, .ref (q 6))]) hx hb dX0_find_10 rfl hl (by decide) rfl (fun ls hl => ?_)
  refine loopM (fun nn ls H locs => ∃ i : Nat, ∃ (n g t : Nat) (ov1 : Nat → Int64) (gi1 ta1 : Nat → Int32) (gf1 : Nat → Int64), i ≤ 24 ∧ nn = 24 - i ∧ (f_it (0, 0, 0, ov, gi, ta, gf) i = (n, g, t, ov1, gi1, ta1, gf1) ∧ n ≤ i ∧ g ≤ i ∧ t ≤ i) ∧ lv_has ls 4 [(3, .int (nI i)), (2, .int (nI t)), (1, .int (nI g)), (0, .ref (q 6))] ∧ va_P (dC, dI) vwCl (fW cI cJ q (nI n) ov1 gi1 ta1 gf1) H ∧ va_D A (fW cI cJ q (nI n) ov1 gi1 ta1 gf1) ∧ va_S A s.heap H locs) (n0 := 24) ⟨0, 0, 0, 0, ov, gi, ta, gf, Nat.zero_le _, rfl, ⟨rfl, Nat.le_refl _, Nat.le_refl _, Nat.le_refl _⟩, lv_sub hl [0, 1, 2, 3] rfl, hP, hD, hS⟩ (fun nn ls H locs hI ih => ?_)
  obtain ⟨i, n, g, t, ov1, gi1, ta1, gf1, hle, hn9, hf, hl, hP, hD, hS⟩ := hI
  rcases Nat.lt_or_ge i 24 with hi | hge
  · refine lv_iload_n hx hb dX0_find_11 rfl (lv_at hl 0 rfl) ?_
    refine lv_bipush (v := 24) hx hb dX0_find_12 (by decide) ?_
    refine lv_icmp_ge (tgt := 88) hx hb dX0_find_14 (by decide) (fun h => absurd h (nI_ge (b := 24) hi (by decide))) (fun c_14 => ?_)
    refine lv_iload_n hx hb dX0_find_17 rfl (lv_at hl 2 rfl) ?_
    refine lv_bipush (v := 6) hx hb dX0_find_18 (by decide) ?_
    refine lv_icmp_ge (tgt := 41) hx hb dX0_find_20 (by decide) (fun c_20 => ?_) (fun c_20 => ?_)
    · exact retM_v (S := FS) (post := fun u => u = f_it (0, 0, 0, ov, gi, ta, gf) 24) (w2 := fun u => fW cI cJ q (nI u.1) u.2.2.2.1 u.2.2.2.2.1 u.2.2.2.2.2.1 u.2.2.2.2.2.2) (n, g, t, ov1, gi1, ta1, gf1) hx hb hr hlocks (by first | exact f_stop hf.1 (Or.inl (ge6_of (n := g) (by omega) c_20)) (by omega) | exact f_stop hf.1 (Or.inr (Or.inl (ge6_of (n := t) (by omega) c_26))) (by omega) | exact f_stop hf.1 (Or.inr (Or.inr (ge6_of2 (n := n) (by omega) c_38))) (by omega)) hP hK hD hS dX0_find_41
    · have hg := lt6_of (by omega) c_20
      refine lv_iload_n hx hb dX0_find_23 rfl (lv_at hl 1 rfl) ?_
      refine lv_bipush (v := 6) hx hb dX0_find_24 (by decide) ?_
      refine lv_icmp_ge (tgt := 41) hx hb dX0_find_26 (by decide) (fun c_26 => ?_) (fun c_26 => ?_)
      · exact retM_v (S := FS) (post := fun u => u = f_it (0, 0, 0, ov, gi, ta, gf) 24) (w2 := fun u => fW cI cJ q (nI u.1) u.2.2.2.1 u.2.2.2.2.1 u.2.2.2.2.2.1 u.2.2.2.2.2.2) (n, g, t, ov1, gi1, ta1, gf1) hx hb hr hlocks (by first | exact f_stop hf.1 (Or.inl (ge6_of (n := g) (by omega) c_20)) (by omega) | exact f_stop hf.1 (Or.inr (Or.inl (ge6_of (n := t) (by omega) c_26))) (by omega) | exact f_stop hf.1 (Or.inr (Or.inr (ge6_of2 (n := n) (by omega) c_38))) (by omega)) hP hK hD hS dX0_find_41
      · have ht := lt6_of (by omega) c_26
        refine lv_aload_n hx hb dX0_find_29 rfl (lv_at hl 3 rfl) ?_
        refine va_get (D := (dC, dI)) (ci := 0) (v := .int (nI n)) (C := RX0) (T := TX0) (N := 5) hx hb hT hiX0 hown hK hP 0 rfl rfl 4 (by decide) (hT _ kf_X0_25) (fun _ h9 => h9) rfl dX0_find_30 ?_
        refine lv_aload_n hx hb dX0_find_33 rfl (lv_at hl 3 rfl) ?_
        refine va_get (D := (dC, dI)) (ci := 0) (v := .ref (q 10)) (C := RX0) (T := TX0) (N := 5) hx hb hT hiX0 hown hK hP 0 rfl rfl 3 (by decide) (hT _ kf_X0_22) (fun _ h9 => h9) rfl dX0_find_34 ?_
        refine va_alen hx hb hK hP 4 1 rfl rfl (v := 6) rfl dX0_find_37 ?_
        refine lv_icmp_lt (tgt := 42) hx hb dX0_find_38 (by decide) (fun c_38 => ?_) (fun c_38 => ?_)
        · have hn := lt6_of2 (by omega) c_38
          refine lv_aload_n hx hb dX0_find_42 rfl (lv_at hl 3 rfl) ?_
          refine va_get (D := (dC, dI)) (ci := 0) (v := .ref (q 7)) (C := RX0) (T := TX0) (N := 5) hx hb hT hiX0 hown hK hP 0 rfl rfl 0 (by decide) (hT _ kf_X0_9) (fun _ h9 => h9) rfl dX0_find_43 ?_
          refine lv_iload_n hx hb dX0_find_46 rfl (lv_at hl 2 rfl) ?_
          refine ald_l hx hb hK hP 1 1 rfl rfl (by decide) (w := g) rfl (by omega) dX0_find_47 ?_
          refine lv_lconst (v := 0) hx hb dX0_find_48 (by decide) ?_
          refine lc_lt (tgt := 59) hx hb dX0_find_49 dX0_find_50 (by decide) (fun c_49 => ?_) (fun c_49 => ?_)
          · refine lv_aload_n hx hb dX0_find_59 rfl (lv_at hl 3 rfl) ?_
            refine va_get (D := (dC, dI)) (ci := 0) (v := .ref (q 7)) (C := RX0) (T := TX0) (N := 5) hx hb hT hiX0 hown hK hP 0 rfl rfl 0 (by decide) (hT _ kf_X0_9) (fun _ h9 => h9) rfl dX0_find_60 ?_
            refine lv_iload_n hx hb dX0_find_63 rfl (lv_at hl 1 rfl) ?_
            refine ald_l hx hb hK hP 1 1 rfl rfl (by decide) (w := t) rfl (by omega) dX0_find_64 ?_
            refine lv_lconst (v := 0) hx hb dX0_find_65 (by decide) ?_
            refine lc_gt (tgt := 76) hx hb dX0_find_66 dX0_find_67 (by decide) (fun c_66 => ?_) (fun c_66 => ?_)
            · refine lv_aload_n hx hb dX0_find_76 rfl (lv_at hl 3 rfl) ?_
              refine lv_iload_n hx hb dX0_find_77 rfl (lv_at hl 2 rfl) ?_
              refine lv_iload_n hx hb dX0_find_78 rfl (lv_at hl 1 rfl) ?_
              refine fM_v (wc := fW cI cJ q (nI n) ov1 gi1 ta1 gf1) (wr := []) (rMV (wc := fW cI cJ q (nI n) ov1 gi1 ta1 gf1) (As := [.int (nI g), .int (nI t)]) (rest := []) ⟨hx, hb, hml, hown, hT⟩ (c_X0_give (l := l) H.size n g t (by first | assumption | omega) (by first | assumption | omega) (by first | assumption | omega)) (cwTV 2 hT kc_X0_give km_X0_29 ki_X0_give ks_X0_give kn_X0 rfl rfl md_X0_give ⟨Nat.le_of_ble_eq_true rfl, Nat.le_of_ble_eq_true rfl⟩) hP hD hK (va_recv hK hP (ci := 0) (q0 := 0) rfl rfl) rfl hl.1 rfl (Nat.le_of_ble_eq_true rfl) dX0_find_79 ⟨Nat.le_of_ble_eq_true rfl, Nat.le_of_ble_eq_true rfl⟩) hP hD hS hA (fun u_79 H locs hw_79 hP hD hS => ?_)
              have hP : va_P (dC, dI) vwCl (fW cI cJ q (nI (n + 1)) (f_ov ov1 g t) (upd gi1 n (nI g)) (upd ta1 n (nI t)) (vp_updL gf1 n (f_min (-(ov1 g)) (ov1 t)))) H := hP
              have hD : va_D A (fW cI cJ q (nI (n + 1)) (f_ov ov1 g t) (upd gi1 n (nI g)) (upd ta1 n (nI t)) (vp_updL gf1 n (f_min (-(ov1 g)) (ov1 t)))) := hD
              refine lv_iinc (v := (nI (i + 1))) (lv' := [(3, .int (nI (i + 1))), (2, .int (nI t)), (1, .int (nI g)), (0, .ref (q 6))]) hx hb dX0_find_82 hl (k := 0) rfl (nI_1 i) (by decide) rfl (fun ls hl => ?_)
              refine lv_goto (tgt := 11) hx hb dX0_find_85 (by decide) ?_
              refine ih (24 - (i + 1)) ls H locs (by omega) ⟨(i + 1), (n + 1), g, t, (f_ov ov1 g t), (upd gi1 n (nI g)), (upd ta1 n (nI t)), (vp_updL gf1 n (f_min (-(ov1 g)) (ov1 t))), by omega, rfl, ⟨by show f_step (f_it (0, 0, 0, ov, gi, ta, gf) i) = _; rw [hf.1]; simp only [f_step, show ¬ (6 ≤ g ∨ 6 ≤ t ∨ 6 ≤ n) by omega, c_20, c_26, c_38, c_49, c_66, ↓reduceIte], by omega, by omega, by omega⟩, ?_, hP, hD, hS⟩
              exact lv_sub hl [0, 1, 2, 3] rfl
            · refine lv_iinc (v := (nI (t + 1))) (lv' := [(2, .int (nI (t + 1))), (3, .int (nI i)), (1, .int (nI g)), (0, .ref (q 6))]) hx hb dX0_find_70 hl (k := 1) rfl (nI_1 t) (by decide) rfl (fun ls hl => ?_)
              refine lv_goto (tgt := 82) hx hb dX0_find_73 (by decide) ?_
              refine lv_iinc (v := (nI (i + 1))) (lv' := [(3, .int (nI (i + 1))), (2, .int (nI (t + 1))), (1, .int (nI g)), (0, .ref (q 6))]) hx hb dX0_find_82 hl (k := 1) rfl (nI_1 i) (by decide) rfl (fun ls hl => ?_)
              refine lv_goto (tgt := 11) hx hb dX0_find_85 (by decide) ?_
              refine ih (24 - (i + 1)) ls H locs (by omega) ⟨(i + 1), n, g, (t + 1), ov1, gi1, ta1, gf1, by omega, rfl, ⟨by show f_step (f_it (0, 0, 0, ov, gi, ta, gf) i) = _; rw [hf.1]; simp only [f_step, show ¬ (6 ≤ g ∨ 6 ≤ t ∨ 6 ≤ n) by omega, c_20, c_26, c_38, c_49, c_66, ↓reduceIte], by omega, by omega, by omega⟩, ?_, hP, hD, hS⟩
              exact lv_sub hl [0, 1, 2, 3] rfl
          · refine lv_iinc (v := (nI (g + 1))) (lv' := [(1, .int (nI (g + 1))), (3, .int (nI i)), (2, .int (nI t)), (0, .ref (q 6))]) hx hb dX0_find_53 hl (k := 2) rfl (nI_1 g) (by decide) rfl (fun ls hl => ?_)
            refine lv_goto (tgt := 82) hx hb dX0_find_56 (by decide) ?_
            refine lv_iinc (v := (nI (i + 1))) (lv' := [(3, .int (nI (i + 1))), (1, .int (nI (g + 1))), (2, .int (nI t)), (0, .ref (q 6))]) hx hb dX0_find_82 hl (k := 1) rfl (nI_1 i) (by decide) rfl (fun ls hl => ?_)
            refine lv_goto (tgt := 11) hx hb dX0_find_85 (by decide) ?_
            refine ih (24 - (i + 1)) ls H locs (by omega) ⟨(i + 1), n, (g + 1), t, ov1, gi1, ta1, gf1, by omega, rfl, ⟨by show f_step (f_it (0, 0, 0, ov, gi, ta, gf) i) = _; rw [hf.1]; simp only [f_step, show ¬ (6 ≤ g ∨ 6 ≤ t ∨ 6 ≤ n) by omega, c_20, c_26, c_38, c_49, ↓reduceIte], by omega, by omega, by omega⟩, ?_, hP, hD, hS⟩
            exact lv_sub hl [0, 2, 1, 3] rfl
        · exact retM_v (S := FS) (post := fun u => u = f_it (0, 0, 0, ov, gi, ta, gf) 24) (w2 := fun u => fW cI cJ q (nI u.1) u.2.2.2.1 u.2.2.2.2.1 u.2.2.2.2.2.1 u.2.2.2.2.2.2) (n, g, t, ov1, gi1, ta1, gf1) hx hb hr hlocks (by first | exact f_stop hf.1 (Or.inl (ge6_of (n := g) (by omega) c_20)) (by omega) | exact f_stop hf.1 (Or.inr (Or.inl (ge6_of (n := t) (by omega) c_26))) (by omega) | exact f_stop hf.1 (Or.inr (Or.inr (ge6_of2 (n := n) (by omega) c_38))) (by omega)) hP hK hD hS dX0_find_41
  · have hE : i = 24 := by omega
    subst hE
    refine lv_iload_n hx hb dX0_find_11 rfl (lv_at hl 0 rfl) ?_
    refine lv_bipush (v := 24) hx hb dX0_find_12 (by decide) ?_
    refine lv_icmp_ge (tgt := 88) hx hb dX0_find_14 (by decide) (fun c_14 => ?_) (fun h => absurd h (by decide))
    exact retM_v (S := FS) (post := fun u => u = f_it (0, 0, 0, ov, gi, ta, gf) 24) (w2 := fun u => fW cI cJ q (nI u.1) u.2.2.2.1 u.2.2.2.2.1 u.2.2.2.2.2.1 u.2.2.2.2.2.2) (n, g, t, ov1, gi1, ta1, gf1) hx hb hr hlocks hf.1.symm hP hK hD hS dX0_find_88
set_option maxHeartbeats 4000000 in
set_option maxRecDepth 100000 in
theorem c_X0_holds (v : Int32) : Met l yX0_holds (wT yX0_holds cX0_holds 2 (some .boolean)) ({ frames := 0, cells := 0, slots := 0, locals := 0 }) (pR (dC, dI) (ty3 cI cJ cZ) (fW cI cJ q ct ov gi ta gf) [.ref (q 6), .int v]) (vp_Si (fun r => bp r (∃ n, n < 6 ∧ v = nI n ∧ nI n < ct))) 0 0 (fun _ => False) := by
  refine Met.ofW (cc := cX0_holds) (maxL := 2) (ret := (some .boolean)) (by decide) rfl ?_
  intro p e s m args below meth c s₁ B hml hv
  obtain ⟨rfl, hP, hK⟩ := hv
  have hx := B.exec
  have hb := B.bytes
  have hr := B.returns
  have hts := atoms_spec (ws := wT yX0_holds cX0_holds 2 (some .boolean)) B.pre
  have hT := wT_T hts
  have hown : s.vm.findClass RX0 = some m.cls := findClass_of_methodNamed B.named
  have hlocks := B.notSynchronized
  have hl := lv_entry ([.ref (q 6), .int v]) (n := 2) (Nat.le_of_ble_eq_true rfl)
  rw [lg_entry_eq]
  generalize (lg_sl ([.ref (q 6), .int v]) ++ List.replicate (2 - (lg_sl ([.ref (q 6), .int v])).length) Slot.unset).toArray = ls at hl ⊢
  have hl : lv_has ls 2 [(0, .ref (q 6)), (1, .int v)] := hl
  refine lv_iload_n hx hb dX0_holds_0 rfl (lv_at hl 1 rfl) ?_
  refine lv_if_lt (tgt := 25) hx hb dX0_holds_1 (by decide) (fun c_1 => ?_) (fun c_1 => ?_)
  · refine lv_iconst (v := 0) hx hb dX0_holds_25 (by decide) ?_
    exact retR_z hx hb hr hlocks (by first | exact Or.inl rfl | exact Or.inr rfl | assumption) (by first | exact Or.inr ⟨rfl, kn_neg c_1⟩ | exact Or.inr ⟨rfl, by rintro ⟨n, h1, rfl, h3⟩; exact absurd c_9 (Int32.not_le.mpr h3)⟩ | exact Or.inr ⟨rfl, kn_big c_18⟩ | exact Or.inl ⟨rfl, by obtain ⟨n, h1, h2⟩ := kn_of c_1 c_18; exact ⟨n, h1, h2, by rw [← h2]; exact Int32.not_le.mp c_9⟩⟩) dX0_holds_26
  · refine lv_iload_n hx hb dX0_holds_4 rfl (lv_at hl 1 rfl) ?_
    refine lv_aload_n hx hb dX0_holds_5 rfl (lv_at hl 0 rfl) ?_
    refine va_get (D := (dC, dI)) (ci := 0) (v := .int ct) (C := RX0) (T := TX0) (N := 5) hx hb hT hiX0 hown hK hP 0 rfl rfl 4 (by decide) (hT _ kf_X0_25) (fun _ h9 => h9) rfl dX0_holds_6 ?_
    refine lv_icmp_ge (tgt := 25) hx hb dX0_holds_9 (by decide) (fun c_9 => ?_) (fun c_9 => ?_)
    · refine lv_iconst (v := 0) hx hb dX0_holds_25 (by decide) ?_
      exact retR_z hx hb hr hlocks (by first | exact Or.inl rfl | exact Or.inr rfl | assumption) (by first | exact Or.inr ⟨rfl, kn_neg c_1⟩ | exact Or.inr ⟨rfl, by rintro ⟨n, h1, rfl, h3⟩; exact absurd c_9 (Int32.not_le.mpr h3)⟩ | exact Or.inr ⟨rfl, kn_big c_18⟩ | exact Or.inl ⟨rfl, by obtain ⟨n, h1, h2⟩ := kn_of c_1 c_18; exact ⟨n, h1, h2, by rw [← h2]; exact Int32.not_le.mp c_9⟩⟩) dX0_holds_26
    · refine lv_iload_n hx hb dX0_holds_12 rfl (lv_at hl 1 rfl) ?_
      refine lv_aload_n hx hb dX0_holds_13 rfl (lv_at hl 0 rfl) ?_
      refine va_get (D := (dC, dI)) (ci := 0) (v := .ref (q 10)) (C := RX0) (T := TX0) (N := 5) hx hb hT hiX0 hown hK hP 0 rfl rfl 3 (by decide) (hT _ kf_X0_22) (fun _ h9 => h9) rfl dX0_holds_14 ?_
      refine va_alen hx hb hK hP 4 1 rfl rfl (v := 6) rfl dX0_holds_17 ?_
      refine lv_icmp_ge (tgt := 25) hx hb dX0_holds_18 (by decide) (fun c_18 => ?_) (fun c_18 => ?_)
      · refine lv_iconst (v := 0) hx hb dX0_holds_25 (by decide) ?_
        exact retR_z hx hb hr hlocks (by first | exact Or.inl rfl | exact Or.inr rfl | assumption) (by first | exact Or.inr ⟨rfl, kn_neg c_1⟩ | exact Or.inr ⟨rfl, by rintro ⟨n, h1, rfl, h3⟩; exact absurd c_9 (Int32.not_le.mpr h3)⟩ | exact Or.inr ⟨rfl, kn_big c_18⟩ | exact Or.inl ⟨rfl, by obtain ⟨n, h1, h2⟩ := kn_of c_1 c_18; exact ⟨n, h1, h2, by rw [← h2]; exact Int32.not_le.mp c_9⟩⟩) dX0_holds_26
      · refine lv_iconst (v := 1) hx hb dX0_holds_21 (by decide) ?_
        refine lv_goto (tgt := 26) hx hb dX0_holds_22 (by decide) ?_
        exact retR_z hx hb hr hlocks (by first | exact Or.inl rfl | exact Or.inr rfl | assumption) (by first | exact Or.inr ⟨rfl, kn_neg c_1⟩ | exact Or.inr ⟨rfl, by rintro ⟨n, h1, rfl, h3⟩; exact absurd c_9 (Int32.not_le.mpr h3)⟩ | exact Or.inr ⟨rfl, kn_big c_18⟩ | exact Or.inl ⟨rfl, by obtain ⟨n, h1, h2⟩ := kn_of c_1 c_18; exact ⟨n, h1, h2, by rw [← h2]; exact Int32.not_le.mp c_9⟩⟩) dX0_holds_26
set_option maxHeartbeats 4000000 in
set_option maxRecDepth 100000 in
theorem c_X3_evenOut (sz : Nat) {o e1 e2 e3 e4 e5 e6 : Nat} {fd du dd : Int64} : Met l yX3_evenOut (wT yX3_evenOut cX3_evenOut 3 none) ({ frames := 5, cells := 0, slots := 0, locals := 110 }) (pM (dC, dI) (ty3 cI cJ cZ) ((fW cI cJ q ct ov gi ta gf) ++ (xW cI q ln cw ic bs ss se we un sf pa) ++ (owW  o e1 e2 e3 e4 e5 e6 fd) ++ (shW  e5 du dd)) [.ref (q 0), .ref o] sz) (va_Qv (S := FS) (fun u => u = x_flow ic bs ss we un pa du fd ov gi ta gf) (fun u t9 => bM (dC, dI) (ty3 cI cJ cZ) (va_A ((fW cI cJ q ct ov gi ta gf) ++ (xW cI q ln cw ic bs ss se we un sf pa) ++ (owW  o e1 e2 e3 e4 e5 e6 fd) ++ (shW  e5 du dd)) sz) ((fW cI cJ q (nI (u).1) ((u).2.2.2.1) ((u).2.2.2.2.1) ((u).2.2.2.2.2.1) ((u).2.2.2.2.2.2)) ++ (xW cI q ln cw ic bs ss se we un sf pa) ++ (owW  o e1 e2 e3 e4 e5 e6 fd) ++ (shW  e5 du dd)) t9) (va_A ((fW cI cJ q ct ov gi ta gf) ++ (xW cI q ln cw ic bs ss se we un sf pa) ++ (owW  o e1 e2 e3 e4 e5 e6 fd) ++ (shW  e5 du dd)) sz)) 0 0 (va_A ((fW cI cJ q ct ov gi ta gf) ++ (xW cI q ln cw ic bs ss se we un sf pa) ++ (owW  o e1 e2 e3 e4 e5 e6 fd) ++ (shW  e5 du dd)) sz) := by
  refine Met.ofW (cc := cX3_evenOut) (maxL := 3) (ret := none) (by decide) rfl ?_
  intro p e s m args below meth c s₁ B hml hv
  obtain ⟨rfl, hsz, hP, hK, hD0⟩ := hv
  have hx := B.exec
  have hb := B.bytes
  have hr := B.returns
  have hts := atoms_spec (ws := wT yX3_evenOut cX3_evenOut 3 none) B.pre
  have hT := wT_T hts
  have hown : s.vm.findClass RX3 = some m.cls := findClass_of_methodNamed B.named
  have hlocks := B.notSynchronized
  subst hsz
  have hD := hD0.self (sz := s.heap.size)
  generalize hAe : va_A ((fW cI cJ q ct ov gi ta gf) ++ (xW cI q ln cw ic bs ss se we un sf pa) ++ (owW  o e1 e2 e3 e4 e5 e6 fd) ++ (shW  e5 du dd)) s.heap.size = A at hD ⊢
  have hA : ∀ q : Nat, s.heap.size ≤ q → A q := fun q h => by rw [← hAe]; exact Or.inr h
  have hS : va_S A s.heap s.heap [] := va_S.rf
  have hl := lv_entry ([.ref (q 0), .ref o]) (n := 3) (Nat.le_of_ble_eq_true rfl)
  rw [lg_entry_eq]
  generalize (lg_sl ([.ref (q 0), .ref o]) ++ List.replicate (3 - (lg_sl ([.ref (q 0), .ref o])).length) Slot.unset).toArray = ls at hl ⊢
  have hl : lv_has ls 3 [(0, .ref (q 0)), (1, .ref o)] := hl
  refine lv_iconst (v := 0) hx hb dX3_evenOut_0 (by decide) ?_
  refine lv_istore_n (lv' := [(2, .int 0), (0, .ref (q 0)), (1, .ref o)]) hx hb dX3_evenOut_1 rfl hl (by decide) rfl (fun ls hl => ?_)
  refine loopM (fun nn ls H locs => ∃ i : Nat, i ≤ 6 ∧ nn = 6 - i ∧ lv_has ls 3 [(2, .int (nI i)), (0, .ref (q 0)), (1, .ref o)] ∧ va_P (dC, dI) vwCl ((fW cI cJ q ct (x_ovN ic bs ss we un pa du fd ov i) gi ta gf) ++ (xW cI q ln cw ic bs ss se we un sf pa) ++ (owW  o e1 e2 e3 e4 e5 e6 fd) ++ (shW  e5 du dd)) H ∧ va_D A ((fW cI cJ q ct (x_ovN ic bs ss we un pa du fd ov i) gi ta gf) ++ (xW cI q ln cw ic bs ss se we un sf pa) ++ (owW  o e1 e2 e3 e4 e5 e6 fd) ++ (shW  e5 du dd)) ∧ va_S A s.heap H locs) (n0 := 6) ⟨0, Nat.zero_le _, rfl, lv_sub hl [0, 1, 2] rfl, hP, hD, hS⟩ (fun nn ls H locs hI ih => ?_)
  obtain ⟨i, hle, hn9, hl, hP, hD, hS⟩ := hI
  rcases Nat.lt_or_ge i 6 with hi | hge
  · refine lv_iload_n hx hb dX3_evenOut_2 rfl (lv_at hl 0 rfl) ?_
    refine lv_bipush (v := 6) hx hb dX3_evenOut_3 (by decide) ?_
    refine lv_icmp_ge (tgt := 41) hx hb dX3_evenOut_5 (by decide) (fun h => absurd h (nI_ge (b := 6) hi (by decide))) (fun c_5 => ?_)
    refine lv_aload_n hx hb dX3_evenOut_8 rfl (lv_at hl 1 rfl) ?_
    refine va_get (D := (dC, dI)) (ci := 3) (v := .ref (q 6)) (C := RX3) (T := TX3) (N := 11) hx hb hT hiX3 hown hK hP 5 rfl rfl 10 (by decide) (hT _ kf_X3_30) (fun _ h9 => h9) rfl dX3_evenOut_9 ?_
    refine va_get (D := (dC, dI)) (ci := 0) (v := .ref (q 7)) (C := RX0) (T := TX0) (N := 5) hx hb hT hiX0 hown hK hP 0 rfl rfl 0 (by decide) (hT _ kf_X3_231) (fun _ h9 => h9) rfl dX3_evenOut_12 ?_
    refine lv_iload_n hx hb dX3_evenOut_15 rfl (lv_at hl 0 rfl) ?_
    refine lv_aload_n hx hb dX3_evenOut_16 rfl (lv_at hl 1 rfl) ?_
    refine lv_iload_n hx hb dX3_evenOut_17 rfl (lv_at hl 0 rfl) ?_
    refine vp_callSi (rRV (As := [.int (nI i)]) (rest := [.int (nI i), .ref (q 7)]) ⟨hx, hb, hml, hown, hT⟩ (c_X3_isKnown (l := l) (nI i)) (cwTV 1 hT kc_X3_isKnown km_X3_57 ki_X3_isKnown ks_X3_isKnown kn_X3 rfl rfl md_X3_isKnown ⟨Nat.le_of_ble_eq_true rfl, Nat.le_of_ble_eq_true rfl⟩) (va_P.sub (ws' := xW cI q ln cw ic bs ss se we un sf pa) hP [5, 6, 7, 8, 9, 10] rfl) hK (va_recv hK hP (ci := 3) (q0 := 5) rfl rfl) rfl hl.1 rfl (Nat.le_of_ble_eq_true rfl) dX3_evenOut_18 ⟨Nat.le_of_ble_eq_true rfl, Nat.le_of_ble_eq_true rfl⟩) (fun r_18 hw_18 => ?_)
    rcases hw_18 with ⟨rfl, hw_18⟩ | ⟨rfl, hw_18⟩
    · have hki : bt ic i = true := kn_at hi hw_18
      refine lv_if_eq (tgt := 33) hx hb dX3_evenOut_21 (by decide) (fun h => absurd h (by decide)) (fun c_21 => ?_)
      refine lv_aload_n hx hb dX3_evenOut_24 rfl (lv_at hl 1 rfl) ?_
      refine lv_iload_n hx hb dX3_evenOut_25 rfl (lv_at hl 0 rfl) ?_
      refine lv_aload_n hx hb dX3_evenOut_26 rfl (lv_at hl 2 rfl) ?_
      refine vp_callSl (rRV (As := [.int (nI i), .ref o]) (rest := [.int (nI i), .ref (q 7)]) ⟨hx, hb, hml, hown, hT⟩ (c_X3_overUp (l := l) i (by first | assumption | omega)) (cwTV 2 hT kc_X3_overUp km_X3_181 ki_X3_overUp ks_X3_overUp kn_X3 rfl rfl md_X3_overUp ⟨Nat.le_of_ble_eq_true rfl, Nat.le_of_ble_eq_true rfl⟩) (va_P.sub (ws' := (xW cI q ln cw ic bs ss se we un sf pa) ++ (owW  o e1 e2 e3 e4 e5 e6 fd) ++ (shW  e5 du dd)) hP [5, 6, 7, 8, 9, 10, 11, 12] rfl) hK (va_recv hK hP (ci := 3) (q0 := 5) rfl rfl) rfl hl.1 rfl (Nat.le_of_ble_eq_true rfl) dX3_evenOut_27 ⟨Nat.le_of_ble_eq_true rfl, Nat.le_of_ble_eq_true rfl⟩) (fun r_27 hw_27 => ?_)
      subst hw_27
      refine lv_goto (tgt := 34) hx hb dX3_evenOut_30 (by decide) ?_
      refine ast_l hx hb hK hP hD hS 1 1 rfl rfl (by decide) (w := i) rfl (by omega) dX3_evenOut_34 (fun H locs hP hD hS => ?_)
      have hP : va_P (dC, dI) vwCl ((fW cI cJ q ct (vp_updL (x_ovN ic bs ss we un pa du fd ov i) i (x_overUp ic bs ss we un pa i du fd)) gi ta gf) ++ (xW cI q ln cw ic bs ss se we un sf pa) ++ (owW  o e1 e2 e3 e4 e5 e6 fd) ++ (shW  e5 du dd)) H := hP
      have hD : va_D A ((fW cI cJ q ct (vp_updL (x_ovN ic bs ss we un pa du fd ov i) i (x_overUp ic bs ss we un pa i du fd)) gi ta gf) ++ (xW cI q ln cw ic bs ss se we un sf pa) ++ (owW  o e1 e2 e3 e4 e5 e6 fd) ++ (shW  e5 du dd)) := hD
      refine lv_iinc (v := (nI (i + 1))) (lv' := [(2, .int (nI (i + 1))), (0, .ref (q 0)), (1, .ref o)]) hx hb dX3_evenOut_35 hl (k := 0) rfl (nI_1 i) (by decide) rfl (fun ls hl => ?_)
      refine lv_goto (tgt := 2) hx hb dX3_evenOut_38 (by decide) ?_
      have ew0 : vp_updL (x_ovN ic bs ss we un pa du fd ov i) i (x_overUp ic bs ss we un pa i du fd) = (x_ovN ic bs ss we un pa du fd ov (i + 1)) := by simp only [x_ovN, hki, ↓reduceIte, Bool.false_eq_true, i10]
      rw [ew0] at hP hD
      refine ih (6 - (i + 1)) ls H locs (by omega) ⟨(i + 1), by omega, rfl, ?_, hP, hD, hS⟩
      exact lv_sub hl [0, 1, 2] rfl
    · have hki : ¬ bt ic i = true := fun h => hw_18 ⟨i, hi, rfl, h⟩
      refine lv_if_eq (tgt := 33) hx hb dX3_evenOut_21 (by decide) (fun c_21 => ?_) (fun h => absurd h (by decide))
      refine lv_lconst (v := 0) hx hb dX3_evenOut_33 (by decide) ?_
      refine ast_l hx hb hK hP hD hS 1 1 rfl rfl (by decide) (w := i) rfl (by omega) dX3_evenOut_34 (fun H locs hP hD hS => ?_)
      have hP : va_P (dC, dI) vwCl ((fW cI cJ q ct (vp_updL (x_ovN ic bs ss we un pa du fd ov i) i 0) gi ta gf) ++ (xW cI q ln cw ic bs ss se we un sf pa) ++ (owW  o e1 e2 e3 e4 e5 e6 fd) ++ (shW  e5 du dd)) H := hP
      have hD : va_D A ((fW cI cJ q ct (vp_updL (x_ovN ic bs ss we un pa du fd ov i) i 0) gi ta gf) ++ (xW cI q ln cw ic bs ss se we un sf pa) ++ (owW  o e1 e2 e3 e4 e5 e6 fd) ++ (shW  e5 du dd)) := hD
      refine lv_iinc (v := (nI (i + 1))) (lv' := [(2, .int (nI (i + 1))), (0, .ref (q 0)), (1, .ref o)]) hx hb dX3_evenOut_35 hl (k := 0) rfl (nI_1 i) (by decide) rfl (fun ls hl => ?_)
      refine lv_goto (tgt := 2) hx hb dX3_evenOut_38 (by decide) ?_
      have ew0 : vp_updL (x_ovN ic bs ss we un pa du fd ov i) i 0 = (x_ovN ic bs ss we un pa du fd ov (i + 1)) := by simp only [x_ovN, hki, ↓reduceIte, Bool.false_eq_true, i10]
      rw [ew0] at hP hD
      refine ih (6 - (i + 1)) ls H locs (by omega) ⟨(i + 1), by omega, rfl, ?_, hP, hD, hS⟩
      exact lv_sub hl [0, 1, 2] rfl
  · have hE : i = 6 := by omega
    subst hE
    refine lv_iload_n hx hb dX3_evenOut_2 rfl (lv_at hl 0 rfl) ?_
    refine lv_bipush (v := 6) hx hb dX3_evenOut_3 (by decide) ?_
    refine lv_icmp_ge (tgt := 41) hx hb dX3_evenOut_5 (by decide) (fun c_5 => ?_) (fun h => absurd h (by decide))
    refine lv_aload_n hx hb dX3_evenOut_41 rfl (lv_at hl 1 rfl) ?_
    refine va_get (D := (dC, dI)) (ci := 3) (v := .ref (q 6)) (C := RX3) (T := TX3) (N := 11) hx hb hT hiX3 hown hK hP 5 rfl rfl 10 (by decide) (hT _ kf_X3_30) (fun _ h9 => h9) rfl dX3_evenOut_42 ?_
    refine fM_v (wc := fW cI cJ q ct (x_ovN ic bs ss we un pa du fd ov 6) gi ta gf) (wr := (xW cI q ln cw ic bs ss se we un sf pa) ++ (owW  o e1 e2 e3 e4 e5 e6 fd) ++ (shW  e5 du dd)) (rMV (wc := fW cI cJ q ct (x_ovN ic bs ss we un pa du fd ov 6) gi ta gf) (As := []) (rest := []) ⟨hx, hb, hml, hown, hT⟩ (c_X0_find (l := l) H.size ) (cwTV 0 hT kc_X0_find km_X3_234 ki_X0_find ks_X0_find kn_X0 rfl rfl md_X0_find ⟨Nat.le_of_ble_eq_true rfl, Nat.le_of_ble_eq_true rfl⟩) (va_P.sub (ws' := fW cI cJ q ct (x_ovN ic bs ss we un pa du fd ov 6) gi ta gf) hP [0, 1, 2, 3, 4] rfl) (va_D.sub (ws' := fW cI cJ q ct (x_ovN ic bs ss we un pa du fd ov 6) gi ta gf) hD [0, 1, 2, 3, 4] (by decide) rfl) hK (va_recv hK hP (ci := 0) (q0 := 0) rfl rfl) rfl hl.1 rfl (Nat.le_of_ble_eq_true rfl) dX3_evenOut_45 ⟨Nat.le_of_ble_eq_true rfl, Nat.le_of_ble_eq_true rfl⟩) hP hD hS hA (fun u_45 H locs hw_45 hP hD hS => ?_)
    have hP : va_P (dC, dI) vwCl ((fW cI cJ q (nI (u_45).1) ((u_45).2.2.2.1) ((u_45).2.2.2.2.1) ((u_45).2.2.2.2.2.1) ((u_45).2.2.2.2.2.2)) ++ (xW cI q ln cw ic bs ss se we un sf pa) ++ (owW  o e1 e2 e3 e4 e5 e6 fd) ++ (shW  e5 du dd)) H := hP
    have hD : va_D A ((fW cI cJ q (nI (u_45).1) ((u_45).2.2.2.1) ((u_45).2.2.2.2.1) ((u_45).2.2.2.2.2.1) ((u_45).2.2.2.2.2.2)) ++ (xW cI q ln cw ic bs ss se we un sf pa) ++ (owW  o e1 e2 e3 e4 e5 e6 fd) ++ (shW  e5 du dd)) := hD
    exact retM_v (S := FS) (post := fun u => u = x_flow ic bs ss we un pa du fd ov gi ta gf) (w2 := fun u => (fW cI cJ q (nI (u).1) ((u).2.2.2.1) ((u).2.2.2.2.1) ((u).2.2.2.2.2.1) ((u).2.2.2.2.2.2)) ++ (xW cI q ln cw ic bs ss se we un sf pa) ++ (owW  o e1 e2 e3 e4 e5 e6 fd) ++ (shW  e5 du dd)) u_45 hx hb hr hlocks hw_45 hP hK hD hS dX3_evenOut_48
