variable {l : Launch} {dC : Nat → ClassId} {dI : Nat → Nat → Nat} {cI cJ cZ : ClassId}
variable {q : Nat → Nat} {ln cw ic bs ss : Int32} {se we un sf pa : Nat → Int32}
variable {ct : Int32} {ov gf : Nat → Int64} {gi ta : Nat → Int32}
variable {k : Nat → Nat} {r : Rat} {up lo : Int64} {cn tm : Int32} {isI br ma : Nat → Int32} {aU aL uU uL oU oL gU gL : Nat → Int64}

abbrev mN (a : Nat) (up lo : Int64) (ln cn tm : Int32) (v1 v2 v3 v4 v5 v6 v7 v8 v9 v10 v11 v12 v13 v14 v15 v16 v17 : Value) : va_W := [(a, .inr (4, [.long up, .long lo, .int ln, .int cn, v1, v2, v3, v4, v5, v6, v7, v8, v9, v10, v11, v12, v13, .int tm, v14, v15, v16, v17]))]
abbrev opW (W : va_W) : va_W := W
def m_cl (f : Nat → Int32) (x : Int32) : Nat → (Nat → Int32)
  | 0 => f
  | i + 1 => upd (m_cl f x i) i x
def m_se0 : Nat → Int32 := upd (fun _ => 0) 2 100
theorem mk_k (P : va_W → Prop) {a q11 q19 q27 q35 q43 q51 q59 q66 q73 q81 q89 q97 q105 q113 q121 q129 q137 : Nat} (h : P ((mN a 0 1 0 0 0 (.ref q11) (.ref q19) (.ref q27) (.ref q35) (.ref q43) (.ref q51) (.ref q59) (.ref q66) (.ref q73) (.ref q81) (.ref q89) (.ref q97) (.ref q105) (.ref q113) (.ref q121) (.ref q129) (.ref q137)) ++ opW (([] : va_W) ++ (arI cI q11 3 (fun _ => 0)) ++ (arZ cZ q19 6 (fun _ => 0)) ++ (arI cI q27 6 (fun _ => 0)) ++ (arZ cZ q35 6 (fun _ => 0)) ++ (arI cI q43 6 (fun _ => 0)) ++ (arI cI q51 6 (fun _ => 0)) ++ (arI cI q59 6 (fun _ => 0)) ++ (arJ cJ q66 5 (fun _ => 0)) ++ (arJ cJ q73 5 (fun _ => 0)) ++ (arJ cJ q81 6 (fun _ => 0)) ++ (arJ cJ q89 6 (fun _ => 0)) ++ (arJ cJ q97 6 (fun _ => 0)) ++ (arJ cJ q105 6 (fun _ => 0)) ++ (arI cI q113 12 (fun _ => 0)) ++ (arI cI q121 12 (fun _ => 0)) ++ (arJ cJ q129 12 (fun _ => 0)) ++ (arJ cJ q137 12 (fun _ => 0))))) : ∃ k9 : Nat → Nat, k9 0 = a ∧ P ((mW cI cZ k9 0 1 0 0 0 (fun _ => 0) (fun _ => 0) (fun _ => 0) (fun _ => 0) (fun _ => 0) (fun _ => 0) (fun _ => 0)) ++ (mS cJ k9 (fun _ => 0) (fun _ => 0) (fun _ => 0) (fun _ => 0)) ++ (mT cI cJ k9 (fun _ => 0) (fun _ => 0) (fun _ => 0) (fun _ => 0) (fun _ => 0) (fun _ => 0))) := ⟨(fun i : Nat => if i = 0 then a else if i = 1 then q11 else if i = 2 then q19 else if i = 3 then q27 else if i = 4 then q35 else if i = 5 then q43 else if i = 6 then q51 else if i = 7 then q59 else if i = 8 then q66 else if i = 9 then q73 else if i = 10 then q81 else if i = 11 then q89 else if i = 12 then q97 else if i = 13 then q105 else if i = 14 then q113 else if i = 15 then q121 else if i = 16 then q129 else if i = 17 then q137 else 0), rfl, h⟩
set_option maxHeartbeats 4000000 in
set_option maxRecDepth 100000 in
theorem c_X4_init (sz : Nat) {a : Nat} : Met l yX4_init (wT yX4_init cX4_init 2 none) ({ frames := 1, cells := 17, slots := 121, locals := 21 }) (pM (dC, dI) (ty3 cI cJ cZ) (mN  a 0 0 0 0 0 .null .null .null .null .null .null .null .null .null .null .null .null .null .null .null .null .null) [.ref a] sz) (va_Qv (S := Nat → Nat) (fun u => u 0 = a) (fun u t9 => bM (dC, dI) (ty3 cI cJ cZ) (va_A (mN  a 0 0 0 0 0 .null .null .null .null .null .null .null .null .null .null .null .null .null .null .null .null .null) sz) ((mW cI cZ u 0 1 0 0 0 m_se0 (m_cl (fun _ => 0) 0 6) (m_cl (fun _ => 0) 0 6) (m_cl (fun _ => 0) 0 6) (m_cl (fun _ => 0) (-9) 6) (m_cl (fun _ => 0) (-9) 6) (m_cl (fun _ => 0) 0 6)) ++ (mS cJ u (fun _ => 0) (fun _ => 0) (fun _ => 0) (fun _ => 0)) ++ (mT cI cJ u (fun _ => 0) (fun _ => 0) (fun _ => 0) (fun _ => 0) (fun _ => 0) (fun _ => 0))) t9) (va_A (mN  a 0 0 0 0 0 .null .null .null .null .null .null .null .null .null .null .null .null .null .null .null .null .null) sz)) 17 121 (va_A (mN  a 0 0 0 0 0 .null .null .null .null .null .null .null .null .null .null .null .null .null .null .null .null .null) sz) := by
  refine Met.ofW (cc := cX4_init) (maxL := 2) (ret := none) (by decide) rfl ?_
  intro p e s m args below meth c s₁ B hml hv
  obtain ⟨rfl, hsz, hP, hK, hD0⟩ := hv
  have hx := B.exec
  have hb := B.bytes
  have hr := B.returns
  have hts := atoms_spec (ws := wT yX4_init cX4_init 2 none) B.pre
  have hT := wT_T hts
  have hown : s.vm.findClass RX4 = some m.cls := findClass_of_methodNamed B.named
  have hlocks := B.notSynchronized
  have hin : meth.name = "<init>" := (name_of_methodNamed B.named B.method).1
  subst hsz
  have hD := hD0.self (sz := s.heap.size)
  generalize hAe : va_A (mN  a 0 0 0 0 0 .null .null .null .null .null .null .null .null .null .null .null .null .null .null .null .null .null) s.heap.size = A at hD ⊢
  have hA : ∀ q : Nat, s.heap.size ≤ q → A q := fun q h => by rw [← hAe]; exact Or.inr h
  have hS : va_S A s.heap s.heap [] := va_S.rf
  have hl := lv_entry ([.ref a]) (n := 2) (Nat.le_of_ble_eq_true rfl)
  rw [lg_entry_eq]
  generalize (lg_sl ([.ref a]) ++ List.replicate (2 - (lg_sl ([.ref a])).length) Slot.unset).toArray = ls at hl ⊢
  have hl : lv_has ls 2 [(0, .ref a)] := hl
  have hP : va_P (dC, dI) vwCl ((mN a 0 0 0 0 0 .null .null .null .null .null .null .null .null .null .null .null .null .null .null .null .null .null) ++ opW ([] : va_W)) s.heap := hP
  have hD : va_D A ((mN a 0 0 0 0 0 .null .null .null .null .null .null .null .null .null .null .null .null .null .null .null .null .null) ++ opW ([] : va_W)) := hD
  refine lv_aload_n hx hb dX4_init_0 rfl (lv_at hl 0 rfl) ?_
  refine W.objInit hx hb hown (hT _ km_X4_1) (hT _ ki_obj) (hT _ kc_obj) rfl (by rw [hml]; exact hl.1) rfl dX4_init_1 (Nat.le_of_ble_eq_true rfl) (Nat.le_of_ble_eq_true rfl) ?_
  refine W.eq (g2 := F0 m 4 ls []) rfl ?_
  refine lv_aload_n hx hb dX4_init_4 rfl (lv_at hl 0 rfl) ?_
  refine lv_lconst (v := 1) hx hb dX4_init_5 (by decide) ?_
  refine va_put (D := (dC, dI)) (ci := 4) (v := .long 1) (ty := .long) (C := RX4) (T := TX4) (N := 22) hx hb hT hiX4 tyX4 tyX4_ok nmX4 hown hK hP hD hS 0 rfl rfl 1 (by decide) (hT _ kf_X4_7) (fun _ h9 => h9) rfl (by decide +kernel) rfl rfl (Nat.le_of_ble_eq_true rfl) dX4_init_6 (fun H locs hP hD hS => ?_)
  have hP : va_P (dC, dI) vwCl ((mN  a 0 1 0 0 0 .null .null .null .null .null .null .null .null .null .null .null .null .null .null .null .null .null) ++ (opW  ([] : va_W))) H := hP
  have hD : va_D A ((mN  a 0 1 0 0 0 .null .null .null .null .null .null .null .null .null .null .null .null .null .null .null .null .null) ++ (opW  ([] : va_W))) := hD
  refine lv_aload_n hx hb dX4_init_9 rfl (lv_at hl 0 rfl) ?_
  refine lv_iconst (v := 3) hx hb dX4_init_10 (by decide) ?_
  refine new_i hx hb (hT _ ka_int) hK hP hD hS hA 3 rfl (by decide) (Nat.le_of_ble_eq_true rfl) (Nat.le_of_ble_eq_true rfl) dX4_init_11 (fun q11 H hP hD hS => ?_)
  have hP : va_P (dC, dI) vwCl ((mN  a 0 1 0 0 0 .null .null .null .null .null .null .null .null .null .null .null .null .null .null .null .null .null) ++ (opW  (([] : va_W) ++ arI cI q11 3 (fun _ => 0)))) H := hP
  have hD : va_D A ((mN  a 0 1 0 0 0 .null .null .null .null .null .null .null .null .null .null .null .null .null .null .null .null .null) ++ (opW  (([] : va_W) ++ arI cI q11 3 (fun _ => 0)))) := hD
  generalize hW11 : ([] : va_W) ++ arI cI q11 3 (fun _ => 0) = W11 at hP hD
  refine va_putF (D := (dC, dI)) (ci := 4) (v := .ref q11) (ty := .array .int) (C := RX4) (T := TX4) (N := 22) hx hb hT hiX4 tyX4 tyX4_ok nmX4 hown hK hP hD hS 0 rfl rfl 4 (by decide) (hT _ kf_X4_13) (fun _ h9 => h9) rfl hin rfl (by decide +kernel) rfl rfl (Nat.le_of_ble_eq_true rfl) dX4_init_13 (fun H locs hP hD hS => ?_)
  have hP : va_P (dC, dI) vwCl ((mN  a 0 1 0 0 0 (.ref q11) .null .null .null .null .null .null .null .null .null .null .null .null .null .null .null .null) ++ (opW  W11)) H := hP
  have hD : va_D A ((mN  a 0 1 0 0 0 (.ref q11) .null .null .null .null .null .null .null .null .null .null .null .null .null .null .null .null) ++ (opW  W11)) := hD
  refine lv_aload_n hx hb dX4_init_16 rfl (lv_at hl 0 rfl) ?_
  refine lv_bipush (v := 6) hx hb dX4_init_17 (by decide) ?_
  refine new_z hx hb (hT _ ka_boolean) hK hP hD hS hA 6 rfl (by decide) (Nat.le_of_ble_eq_true rfl) (Nat.le_of_ble_eq_true rfl) dX4_init_19 (fun q19 H hP hD hS => ?_)
  have hP : va_P (dC, dI) vwCl ((mN  a 0 1 0 0 0 (.ref q11) .null .null .null .null .null .null .null .null .null .null .null .null .null .null .null .null) ++ (opW  (W11 ++ arZ cZ q19 6 (fun _ => 0)))) H := hP
  have hD : va_D A ((mN  a 0 1 0 0 0 (.ref q11) .null .null .null .null .null .null .null .null .null .null .null .null .null .null .null .null) ++ (opW  (W11 ++ arZ cZ q19 6 (fun _ => 0)))) := hD
  generalize hW19 : W11 ++ arZ cZ q19 6 (fun _ => 0) = W19 at hP hD
  refine va_putF (D := (dC, dI)) (ci := 4) (v := .ref q19) (ty := .array .boolean) (C := RX4) (T := TX4) (N := 22) hx hb hT hiX4 tyX4 tyX4_ok nmX4 hown hK hP hD hS 0 rfl rfl 5 (by decide) (hT _ kf_X4_17) (fun _ h9 => h9) rfl hin rfl (by decide +kernel) rfl rfl (Nat.le_of_ble_eq_true rfl) dX4_init_21 (fun H locs hP hD hS => ?_)
  have hP : va_P (dC, dI) vwCl ((mN  a 0 1 0 0 0 (.ref q11) (.ref q19) .null .null .null .null .null .null .null .null .null .null .null .null .null .null .null) ++ (opW  W19)) H := hP
  have hD : va_D A ((mN  a 0 1 0 0 0 (.ref q11) (.ref q19) .null .null .null .null .null .null .null .null .null .null .null .null .null .null .null) ++ (opW  W19)) := hD
  refine lv_aload_n hx hb dX4_init_24 rfl (lv_at hl 0 rfl) ?_
  refine lv_bipush (v := 6) hx hb dX4_init_25 (by decide) ?_
  refine new_i hx hb (hT _ ka_int) hK hP hD hS hA 6 rfl (by decide) (Nat.le_of_ble_eq_true rfl) (Nat.le_of_ble_eq_true rfl) dX4_init_27 (fun q27 H hP hD hS => ?_)
  have hP : va_P (dC, dI) vwCl ((mN  a 0 1 0 0 0 (.ref q11) (.ref q19) .null .null .null .null .null .null .null .null .null .null .null .null .null .null .null) ++ (opW  (W19 ++ arI cI q27 6 (fun _ => 0)))) H := hP
  have hD : va_D A ((mN  a 0 1 0 0 0 (.ref q11) (.ref q19) .null .null .null .null .null .null .null .null .null .null .null .null .null .null .null) ++ (opW  (W19 ++ arI cI q27 6 (fun _ => 0)))) := hD
  generalize hW27 : W19 ++ arI cI q27 6 (fun _ => 0) = W27 at hP hD
  refine va_putF (D := (dC, dI)) (ci := 4) (v := .ref q27) (ty := .array .int) (C := RX4) (T := TX4) (N := 22) hx hb hT hiX4 tyX4 tyX4_ok nmX4 hown hK hP hD hS 0 rfl rfl 6 (by decide) (hT _ kf_X4_21) (fun _ h9 => h9) rfl hin rfl (by decide +kernel) rfl rfl (Nat.le_of_ble_eq_true rfl) dX4_init_29 (fun H locs hP hD hS => ?_)
  have hP : va_P (dC, dI) vwCl ((mN  a 0 1 0 0 0 (.ref q11) (.ref q19) (.ref q27) .null .null .null .null .null .null .null .null .null .null .null .null .null .null) ++ (opW  W27)) H := hP
  have hD : va_D A ((mN  a 0 1 0 0 0 (.ref q11) (.ref q19) (.ref q27) .null .null .null .null .null .null .null .null .null .null .null .null .null .null) ++ (opW  W27)) := hD
  refine lv_aload_n hx hb dX4_init_32 rfl (lv_at hl 0 rfl) ?_
  refine lv_bipush (v := 6) hx hb dX4_init_33 (by decide) ?_
  refine new_z hx hb (hT _ ka_boolean) hK hP hD hS hA 6 rfl (by decide) (Nat.le_of_ble_eq_true rfl) (Nat.le_of_ble_eq_true rfl) dX4_init_35 (fun q35 H hP hD hS => ?_)
  have hP : va_P (dC, dI) vwCl ((mN  a 0 1 0 0 0 (.ref q11) (.ref q19) (.ref q27) .null .null .null .null .null .null .null .null .null .null .null .null .null .null) ++ (opW  (W27 ++ arZ cZ q35 6 (fun _ => 0)))) H := hP
  have hD : va_D A ((mN  a 0 1 0 0 0 (.ref q11) (.ref q19) (.ref q27) .null .null .null .null .null .null .null .null .null .null .null .null .null .null) ++ (opW  (W27 ++ arZ cZ q35 6 (fun _ => 0)))) := hD
  generalize hW35 : W27 ++ arZ cZ q35 6 (fun _ => 0) = W35 at hP hD
  refine va_putF (D := (dC, dI)) (ci := 4) (v := .ref q35) (ty := .array .boolean) (C := RX4) (T := TX4) (N := 22) hx hb hT hiX4 tyX4 tyX4_ok nmX4 hown hK hP hD hS 0 rfl rfl 7 (by decide) (hT _ kf_X4_24) (fun _ h9 => h9) rfl hin rfl (by decide +kernel) rfl rfl (Nat.le_of_ble_eq_true rfl) dX4_init_37 (fun H locs hP hD hS => ?_)
  have hP : va_P (dC, dI) vwCl ((mN  a 0 1 0 0 0 (.ref q11) (.ref q19) (.ref q27) (.ref q35) .null .null .null .null .null .null .null .null .null .null .null .null .null) ++ (opW  W35)) H := hP
  have hD : va_D A ((mN  a 0 1 0 0 0 (.ref q11) (.ref q19) (.ref q27) (.ref q35) .null .null .null .null .null .null .null .null .null .null .null .null .null) ++ (opW  W35)) := hD
  refine lv_aload_n hx hb dX4_init_40 rfl (lv_at hl 0 rfl) ?_
  refine lv_bipush (v := 6) hx hb dX4_init_41 (by decide) ?_
  refine new_i hx hb (hT _ ka_int) hK hP hD hS hA 6 rfl (by decide) (Nat.le_of_ble_eq_true rfl) (Nat.le_of_ble_eq_true rfl) dX4_init_43 (fun q43 H hP hD hS => ?_)
  have hP : va_P (dC, dI) vwCl ((mN  a 0 1 0 0 0 (.ref q11) (.ref q19) (.ref q27) (.ref q35) .null .null .null .null .null .null .null .null .null .null .null .null .null) ++ (opW  (W35 ++ arI cI q43 6 (fun _ => 0)))) H := hP
  have hD : va_D A ((mN  a 0 1 0 0 0 (.ref q11) (.ref q19) (.ref q27) (.ref q35) .null .null .null .null .null .null .null .null .null .null .null .null .null) ++ (opW  (W35 ++ arI cI q43 6 (fun _ => 0)))) := hD
  generalize hW43 : W35 ++ arI cI q43 6 (fun _ => 0) = W43 at hP hD
  refine va_putF (D := (dC, dI)) (ci := 4) (v := .ref q43) (ty := .array .int) (C := RX4) (T := TX4) (N := 22) hx hb hT hiX4 tyX4 tyX4_ok nmX4 hown hK hP hD hS 0 rfl rfl 8 (by decide) (hT _ kf_X4_27) (fun _ h9 => h9) rfl hin rfl (by decide +kernel) rfl rfl (Nat.le_of_ble_eq_true rfl) dX4_init_45 (fun H locs hP hD hS => ?_)
  have hP : va_P (dC, dI) vwCl ((mN  a 0 1 0 0 0 (.ref q11) (.ref q19) (.ref q27) (.ref q35) (.ref q43) .null .null .null .null .null .null .null .null .null .null .null .null) ++ (opW  W43)) H := hP
  have hD : va_D A ((mN  a 0 1 0 0 0 (.ref q11) (.ref q19) (.ref q27) (.ref q35) (.ref q43) .null .null .null .null .null .null .null .null .null .null .null .null) ++ (opW  W43)) := hD
  refine lv_aload_n hx hb dX4_init_48 rfl (lv_at hl 0 rfl) ?_
  refine lv_bipush (v := 6) hx hb dX4_init_49 (by decide) ?_
  refine new_i hx hb (hT _ ka_int) hK hP hD hS hA 6 rfl (by decide) (Nat.le_of_ble_eq_true rfl) (Nat.le_of_ble_eq_true rfl) dX4_init_51 (fun q51 H hP hD hS => ?_)
  have hP : va_P (dC, dI) vwCl ((mN  a 0 1 0 0 0 (.ref q11) (.ref q19) (.ref q27) (.ref q35) (.ref q43) .null .null .null .null .null .null .null .null .null .null .null .null) ++ (opW  (W43 ++ arI cI q51 6 (fun _ => 0)))) H := hP
  have hD : va_D A ((mN  a 0 1 0 0 0 (.ref q11) (.ref q19) (.ref q27) (.ref q35) (.ref q43) .null .null .null .null .null .null .null .null .null .null .null .null) ++ (opW  (W43 ++ arI cI q51 6 (fun _ => 0)))) := hD
  generalize hW51 : W43 ++ arI cI q51 6 (fun _ => 0) = W51 at hP hD
  refine va_putF (D := (dC, dI)) (ci := 4) (v := .ref q51) (ty := .array .int) (C := RX4) (T := TX4) (N := 22) hx hb hT hiX4 tyX4 tyX4_ok nmX4 hown hK hP hD hS 0 rfl rfl 9 (by decide) (hT _ kf_X4_30) (fun _ h9 => h9) rfl hin rfl (by decide +kernel) rfl rfl (Nat.le_of_ble_eq_true rfl) dX4_init_53 (fun H locs hP hD hS => ?_)
  have hP : va_P (dC, dI) vwCl ((mN  a 0 1 0 0 0 (.ref q11) (.ref q19) (.ref q27) (.ref q35) (.ref q43) (.ref q51) .null .null .null .null .null .null .null .null .null .null .null) ++ (opW  W51)) H := hP
  have hD : va_D A ((mN  a 0 1 0 0 0 (.ref q11) (.ref q19) (.ref q27) (.ref q35) (.ref q43) (.ref q51) .null .null .null .null .null .null .null .null .null .null .null) ++ (opW  W51)) := hD
  refine lv_aload_n hx hb dX4_init_56 rfl (lv_at hl 0 rfl) ?_
  refine lv_bipush (v := 6) hx hb dX4_init_57 (by decide) ?_
  refine new_i hx hb (hT _ ka_int) hK hP hD hS hA 6 rfl (by decide) (Nat.le_of_ble_eq_true rfl) (Nat.le_of_ble_eq_true rfl) dX4_init_59 (fun q59 H hP hD hS => ?_)
  have hP : va_P (dC, dI) vwCl ((mN  a 0 1 0 0 0 (.ref q11) (.ref q19) (.ref q27) (.ref q35) (.ref q43) (.ref q51) .null .null .null .null .null .null .null .null .null .null .null) ++ (opW  (W51 ++ arI cI q59 6 (fun _ => 0)))) H := hP
  have hD : va_D A ((mN  a 0 1 0 0 0 (.ref q11) (.ref q19) (.ref q27) (.ref q35) (.ref q43) (.ref q51) .null .null .null .null .null .null .null .null .null .null .null) ++ (opW  (W51 ++ arI cI q59 6 (fun _ => 0)))) := hD
  generalize hW59 : W51 ++ arI cI q59 6 (fun _ => 0) = W59 at hP hD
  refine va_putF (D := (dC, dI)) (ci := 4) (v := .ref q59) (ty := .array .int) (C := RX4) (T := TX4) (N := 22) hx hb hT hiX4 tyX4 tyX4_ok nmX4 hown hK hP hD hS 0 rfl rfl 10 (by decide) (hT _ kf_X4_33) (fun _ h9 => h9) rfl hin rfl (by decide +kernel) rfl rfl (Nat.le_of_ble_eq_true rfl) dX4_init_61 (fun H locs hP hD hS => ?_)
  have hP : va_P (dC, dI) vwCl ((mN  a 0 1 0 0 0 (.ref q11) (.ref q19) (.ref q27) (.ref q35) (.ref q43) (.ref q51) (.ref q59) .null .null .null .null .null .null .null .null .null .null) ++ (opW  W59)) H := hP
  have hD : va_D A ((mN  a 0 1 0 0 0 (.ref q11) (.ref q19) (.ref q27) (.ref q35) (.ref q43) (.ref q51) (.ref q59) .null .null .null .null .null .null .null .null .null .null) ++ (opW  W59)) := hD
  refine lv_aload_n hx hb dX4_init_64 rfl (lv_at hl 0 rfl) ?_
  refine lv_iconst (v := 5) hx hb dX4_init_65 (by decide) ?_
  refine new_l hx hb (hT _ ka_long) hK hP hD hS hA 5 rfl (by decide) (Nat.le_of_ble_eq_true rfl) (Nat.le_of_ble_eq_true rfl) dX4_init_66 (fun q66 H hP hD hS => ?_)
  have hP : va_P (dC, dI) vwCl ((mN  a 0 1 0 0 0 (.ref q11) (.ref q19) (.ref q27) (.ref q35) (.ref q43) (.ref q51) (.ref q59) .null .null .null .null .null .null .null .null .null .null) ++ (opW  (W59 ++ arJ cJ q66 5 (fun _ => 0)))) H := hP
  have hD : va_D A ((mN  a 0 1 0 0 0 (.ref q11) (.ref q19) (.ref q27) (.ref q35) (.ref q43) (.ref q51) (.ref q59) .null .null .null .null .null .null .null .null .null .null) ++ (opW  (W59 ++ arJ cJ q66 5 (fun _ => 0)))) := hD
  generalize hW66 : W59 ++ arJ cJ q66 5 (fun _ => 0) = W66 at hP hD
  refine va_putF (D := (dC, dI)) (ci := 4) (v := .ref q66) (ty := .array .long) (C := RX4) (T := TX4) (N := 22) hx hb hT hiX4 tyX4 tyX4_ok nmX4 hown hK hP hD hS 0 rfl rfl 11 (by decide) (hT _ kf_X4_36) (fun _ h9 => h9) rfl hin rfl (by decide +kernel) rfl rfl (Nat.le_of_ble_eq_true rfl) dX4_init_68 (fun H locs hP hD hS => ?_)
  have hP : va_P (dC, dI) vwCl ((mN  a 0 1 0 0 0 (.ref q11) (.ref q19) (.ref q27) (.ref q35) (.ref q43) (.ref q51) (.ref q59) (.ref q66) .null .null .null .null .null .null .null .null .null) ++ (opW  W66)) H := hP
  have hD : va_D A ((mN  a 0 1 0 0 0 (.ref q11) (.ref q19) (.ref q27) (.ref q35) (.ref q43) (.ref q51) (.ref q59) (.ref q66) .null .null .null .null .null .null .null .null .null) ++ (opW  W66)) := hD
  refine lv_aload_n hx hb dX4_init_71 rfl (lv_at hl 0 rfl) ?_
  refine lv_iconst (v := 5) hx hb dX4_init_72 (by decide) ?_
  refine new_l hx hb (hT _ ka_long) hK hP hD hS hA 5 rfl (by decide) (Nat.le_of_ble_eq_true rfl) (Nat.le_of_ble_eq_true rfl) dX4_init_73 (fun q73 H hP hD hS => ?_)
  have hP : va_P (dC, dI) vwCl ((mN  a 0 1 0 0 0 (.ref q11) (.ref q19) (.ref q27) (.ref q35) (.ref q43) (.ref q51) (.ref q59) (.ref q66) .null .null .null .null .null .null .null .null .null) ++ (opW  (W66 ++ arJ cJ q73 5 (fun _ => 0)))) H := hP
  have hD : va_D A ((mN  a 0 1 0 0 0 (.ref q11) (.ref q19) (.ref q27) (.ref q35) (.ref q43) (.ref q51) (.ref q59) (.ref q66) .null .null .null .null .null .null .null .null .null) ++ (opW  (W66 ++ arJ cJ q73 5 (fun _ => 0)))) := hD
  generalize hW73 : W66 ++ arJ cJ q73 5 (fun _ => 0) = W73 at hP hD
  refine va_putF (D := (dC, dI)) (ci := 4) (v := .ref q73) (ty := .array .long) (C := RX4) (T := TX4) (N := 22) hx hb hT hiX4 tyX4 tyX4_ok nmX4 hown hK hP hD hS 0 rfl rfl 12 (by decide) (hT _ kf_X4_40) (fun _ h9 => h9) rfl hin rfl (by decide +kernel) rfl rfl (Nat.le_of_ble_eq_true rfl) dX4_init_75 (fun H locs hP hD hS => ?_)
  have hP : va_P (dC, dI) vwCl ((mN  a 0 1 0 0 0 (.ref q11) (.ref q19) (.ref q27) (.ref q35) (.ref q43) (.ref q51) (.ref q59) (.ref q66) (.ref q73) .null .null .null .null .null .null .null .null) ++ (opW  W73)) H := hP
  have hD : va_D A ((mN  a 0 1 0 0 0 (.ref q11) (.ref q19) (.ref q27) (.ref q35) (.ref q43) (.ref q51) (.ref q59) (.ref q66) (.ref q73) .null .null .null .null .null .null .null .null) ++ (opW  W73)) := hD
  refine lv_aload_n hx hb dX4_init_78 rfl (lv_at hl 0 rfl) ?_
  refine lv_bipush (v := 6) hx hb dX4_init_79 (by decide) ?_
  refine new_l hx hb (hT _ ka_long) hK hP hD hS hA 6 rfl (by decide) (Nat.le_of_ble_eq_true rfl) (Nat.le_of_ble_eq_true rfl) dX4_init_81 (fun q81 H hP hD hS => ?_)
  have hP : va_P (dC, dI) vwCl ((mN  a 0 1 0 0 0 (.ref q11) (.ref q19) (.ref q27) (.ref q35) (.ref q43) (.ref q51) (.ref q59) (.ref q66) (.ref q73) .null .null .null .null .null .null .null .null) ++ (opW  (W73 ++ arJ cJ q81 6 (fun _ => 0)))) H := hP
  have hD : va_D A ((mN  a 0 1 0 0 0 (.ref q11) (.ref q19) (.ref q27) (.ref q35) (.ref q43) (.ref q51) (.ref q59) (.ref q66) (.ref q73) .null .null .null .null .null .null .null .null) ++ (opW  (W73 ++ arJ cJ q81 6 (fun _ => 0)))) := hD
  generalize hW81 : W73 ++ arJ cJ q81 6 (fun _ => 0) = W81 at hP hD
  refine va_putF (D := (dC, dI)) (ci := 4) (v := .ref q81) (ty := .array .long) (C := RX4) (T := TX4) (N := 22) hx hb hT hiX4 tyX4 tyX4_ok nmX4 hown hK hP hD hS 0 rfl rfl 13 (by decide) (hT _ kf_X4_43) (fun _ h9 => h9) rfl hin rfl (by decide +kernel) rfl rfl (Nat.le_of_ble_eq_true rfl) dX4_init_83 (fun H locs hP hD hS => ?_)
  have hP : va_P (dC, dI) vwCl ((mN  a 0 1 0 0 0 (.ref q11) (.ref q19) (.ref q27) (.ref q35) (.ref q43) (.ref q51) (.ref q59) (.ref q66) (.ref q73) (.ref q81) .null .null .null .null .null .null .null) ++ (opW  W81)) H := hP
  have hD : va_D A ((mN  a 0 1 0 0 0 (.ref q11) (.ref q19) (.ref q27) (.ref q35) (.ref q43) (.ref q51) (.ref q59) (.ref q66) (.ref q73) (.ref q81) .null .null .null .null .null .null .null) ++ (opW  W81)) := hD
  refine lv_aload_n hx hb dX4_init_86 rfl (lv_at hl 0 rfl) ?_
  refine lv_bipush (v := 6) hx hb dX4_init_87 (by decide) ?_
  refine new_l hx hb (hT _ ka_long) hK hP hD hS hA 6 rfl (by decide) (Nat.le_of_ble_eq_true rfl) (Nat.le_of_ble_eq_true rfl) dX4_init_89 (fun q89 H hP hD hS => ?_)
  have hP : va_P (dC, dI) vwCl ((mN  a 0 1 0 0 0 (.ref q11) (.ref q19) (.ref q27) (.ref q35) (.ref q43) (.ref q51) (.ref q59) (.ref q66) (.ref q73) (.ref q81) .null .null .null .null .null .null .null) ++ (opW  (W81 ++ arJ cJ q89 6 (fun _ => 0)))) H := hP
  have hD : va_D A ((mN  a 0 1 0 0 0 (.ref q11) (.ref q19) (.ref q27) (.ref q35) (.ref q43) (.ref q51) (.ref q59) (.ref q66) (.ref q73) (.ref q81) .null .null .null .null .null .null .null) ++ (opW  (W81 ++ arJ cJ q89 6 (fun _ => 0)))) := hD
  generalize hW89 : W81 ++ arJ cJ q89 6 (fun _ => 0) = W89 at hP hD
  refine va_putF (D := (dC, dI)) (ci := 4) (v := .ref q89) (ty := .array .long) (C := RX4) (T := TX4) (N := 22) hx hb hT hiX4 tyX4 tyX4_ok nmX4 hown hK hP hD hS 0 rfl rfl 14 (by decide) (hT _ kf_X4_46) (fun _ h9 => h9) rfl hin rfl (by decide +kernel) rfl rfl (Nat.le_of_ble_eq_true rfl) dX4_init_91 (fun H locs hP hD hS => ?_)
  have hP : va_P (dC, dI) vwCl ((mN  a 0 1 0 0 0 (.ref q11) (.ref q19) (.ref q27) (.ref q35) (.ref q43) (.ref q51) (.ref q59) (.ref q66) (.ref q73) (.ref q81) (.ref q89) .null .null .null .null .null .null) ++ (opW  W89)) H := hP
  have hD : va_D A ((mN  a 0 1 0 0 0 (.ref q11) (.ref q19) (.ref q27) (.ref q35) (.ref q43) (.ref q51) (.ref q59) (.ref q66) (.ref q73) (.ref q81) (.ref q89) .null .null .null .null .null .null) ++ (opW  W89)) := hD
  refine lv_aload_n hx hb dX4_init_94 rfl (lv_at hl 0 rfl) ?_
  refine lv_bipush (v := 6) hx hb dX4_init_95 (by decide) ?_
  refine new_l hx hb (hT _ ka_long) hK hP hD hS hA 6 rfl (by decide) (Nat.le_of_ble_eq_true rfl) (Nat.le_of_ble_eq_true rfl) dX4_init_97 (fun q97 H hP hD hS => ?_)
  have hP : va_P (dC, dI) vwCl ((mN  a 0 1 0 0 0 (.ref q11) (.ref q19) (.ref q27) (.ref q35) (.ref q43) (.ref q51) (.ref q59) (.ref q66) (.ref q73) (.ref q81) (.ref q89) .null .null .null .null .null .null) ++ (opW  (W89 ++ arJ cJ q97 6 (fun _ => 0)))) H := hP
  have hD : va_D A ((mN  a 0 1 0 0 0 (.ref q11) (.ref q19) (.ref q27) (.ref q35) (.ref q43) (.ref q51) (.ref q59) (.ref q66) (.ref q73) (.ref q81) (.ref q89) .null .null .null .null .null .null) ++ (opW  (W89 ++ arJ cJ q97 6 (fun _ => 0)))) := hD
  generalize hW97 : W89 ++ arJ cJ q97 6 (fun _ => 0) = W97 at hP hD
  refine va_putF (D := (dC, dI)) (ci := 4) (v := .ref q97) (ty := .array .long) (C := RX4) (T := TX4) (N := 22) hx hb hT hiX4 tyX4 tyX4_ok nmX4 hown hK hP hD hS 0 rfl rfl 15 (by decide) (hT _ kf_X4_49) (fun _ h9 => h9) rfl hin rfl (by decide +kernel) rfl rfl (Nat.le_of_ble_eq_true rfl) dX4_init_99 (fun H locs hP hD hS => ?_)
  have hP : va_P (dC, dI) vwCl ((mN  a 0 1 0 0 0 (.ref q11) (.ref q19) (.ref q27) (.ref q35) (.ref q43) (.ref q51) (.ref q59) (.ref q66) (.ref q73) (.ref q81) (.ref q89) (.ref q97) .null .null .null .null .null) ++ (opW  W97)) H := hP
  have hD : va_D A ((mN  a 0 1 0 0 0 (.ref q11) (.ref q19) (.ref q27) (.ref q35) (.ref q43) (.ref q51) (.ref q59) (.ref q66) (.ref q73) (.ref q81) (.ref q89) (.ref q97) .null .null .null .null .null) ++ (opW  W97)) := hD
  refine lv_aload_n hx hb dX4_init_102 rfl (lv_at hl 0 rfl) ?_
  refine lv_bipush (v := 6) hx hb dX4_init_103 (by decide) ?_
  refine new_l hx hb (hT _ ka_long) hK hP hD hS hA 6 rfl (by decide) (Nat.le_of_ble_eq_true rfl) (Nat.le_of_ble_eq_true rfl) dX4_init_105 (fun q105 H hP hD hS => ?_)
  have hP : va_P (dC, dI) vwCl ((mN  a 0 1 0 0 0 (.ref q11) (.ref q19) (.ref q27) (.ref q35) (.ref q43) (.ref q51) (.ref q59) (.ref q66) (.ref q73) (.ref q81) (.ref q89) (.ref q97) .null .null .null .null .null) ++ (opW  (W97 ++ arJ cJ q105 6 (fun _ => 0)))) H := hP
  have hD : va_D A ((mN  a 0 1 0 0 0 (.ref q11) (.ref q19) (.ref q27) (.ref q35) (.ref q43) (.ref q51) (.ref q59) (.ref q66) (.ref q73) (.ref q81) (.ref q89) (.ref q97) .null .null .null .null .null) ++ (opW  (W97 ++ arJ cJ q105 6 (fun _ => 0)))) := hD
  generalize hW105 : W97 ++ arJ cJ q105 6 (fun _ => 0) = W105 at hP hD
  refine va_putF (D := (dC, dI)) (ci := 4) (v := .ref q105) (ty := .array .long) (C := RX4) (T := TX4) (N := 22) hx hb hT hiX4 tyX4 tyX4_ok nmX4 hown hK hP hD hS 0 rfl rfl 16 (by decide) (hT _ kf_X4_52) (fun _ h9 => h9) rfl hin rfl (by decide +kernel) rfl rfl (Nat.le_of_ble_eq_true rfl) dX4_init_107 (fun H locs hP hD hS => ?_)
  have hP : va_P (dC, dI) vwCl ((mN  a 0 1 0 0 0 (.ref q11) (.ref q19) (.ref q27) (.ref q35) (.ref q43) (.ref q51) (.ref q59) (.ref q66) (.ref q73) (.ref q81) (.ref q89) (.ref q97) (.ref q105) .null .null .null .null) ++ (opW  W105)) H := hP
  have hD : va_D A ((mN  a 0 1 0 0 0 (.ref q11) (.ref q19) (.ref q27) (.ref q35) (.ref q43) (.ref q51) (.ref q59) (.ref q66) (.ref q73) (.ref q81) (.ref q89) (.ref q97) (.ref q105) .null .null .null .null) ++ (opW  W105)) := hD
  refine lv_aload_n hx hb dX4_init_110 rfl (lv_at hl 0 rfl) ?_
  refine lv_bipush (v := 12) hx hb dX4_init_111 (by decide) ?_
  refine new_i hx hb (hT _ ka_int) hK hP hD hS hA 12 rfl (by decide) (Nat.le_of_ble_eq_true rfl) (Nat.le_of_ble_eq_true rfl) dX4_init_113 (fun q113 H hP hD hS => ?_)
  have hP : va_P (dC, dI) vwCl ((mN  a 0 1 0 0 0 (.ref q11) (.ref q19) (.ref q27) (.ref q35) (.ref q43) (.ref q51) (.ref q59) (.ref q66) (.ref q73) (.ref q81) (.ref q89) (.ref q97) (.ref q105) .null .null .null .null) ++ (opW  (W105 ++ arI cI q113 12 (fun _ => 0)))) H := hP
  have hD : va_D A ((mN  a 0 1 0 0 0 (.ref q11) (.ref q19) (.ref q27) (.ref q35) (.ref q43) (.ref q51) (.ref q59) (.ref q66) (.ref q73) (.ref q81) (.ref q89) (.ref q97) (.ref q105) .null .null .null .null) ++ (opW  (W105 ++ arI cI q113 12 (fun _ => 0)))) := hD
  generalize hW113 : W105 ++ arI cI q113 12 (fun _ => 0) = W113 at hP hD
  refine va_putF (D := (dC, dI)) (ci := 4) (v := .ref q113) (ty := .array .int) (C := RX4) (T := TX4) (N := 22) hx hb hT hiX4 tyX4 tyX4_ok nmX4 hown hK hP hD hS 0 rfl rfl 18 (by decide) (hT _ kf_X4_55) (fun _ h9 => h9) rfl hin rfl (by decide +kernel) rfl rfl (Nat.le_of_ble_eq_true rfl) dX4_init_115 (fun H locs hP hD hS => ?_)
  have hP : va_P (dC, dI) vwCl ((mN  a 0 1 0 0 0 (.ref q11) (.ref q19) (.ref q27) (.ref q35) (.ref q43) (.ref q51) (.ref q59) (.ref q66) (.ref q73) (.ref q81) (.ref q89) (.ref q97) (.ref q105) (.ref q113) .null .null .null) ++ (opW  W113)) H := hP
  have hD : va_D A ((mN  a 0 1 0 0 0 (.ref q11) (.ref q19) (.ref q27) (.ref q35) (.ref q43) (.ref q51) (.ref q59) (.ref q66) (.ref q73) (.ref q81) (.ref q89) (.ref q97) (.ref q105) (.ref q113) .null .null .null) ++ (opW  W113)) := hD
  refine lv_aload_n hx hb dX4_init_118 rfl (lv_at hl 0 rfl) ?_
  refine lv_bipush (v := 12) hx hb dX4_init_119 (by decide) ?_
  refine new_i hx hb (hT _ ka_int) hK hP hD hS hA 12 rfl (by decide) (Nat.le_of_ble_eq_true rfl) (Nat.le_of_ble_eq_true rfl) dX4_init_121 (fun q121 H hP hD hS => ?_)
  have hP : va_P (dC, dI) vwCl ((mN  a 0 1 0 0 0 (.ref q11) (.ref q19) (.ref q27) (.ref q35) (.ref q43) (.ref q51) (.ref q59) (.ref q66) (.ref q73) (.ref q81) (.ref q89) (.ref q97) (.ref q105) (.ref q113) .null .null .null) ++ (opW  (W113 ++ arI cI q121 12 (fun _ => 0)))) H := hP
  have hD : va_D A ((mN  a 0 1 0 0 0 (.ref q11) (.ref q19) (.ref q27) (.ref q35) (.ref q43) (.ref q51) (.ref q59) (.ref q66) (.ref q73) (.ref q81) (.ref q89) (.ref q97) (.ref q105) (.ref q113) .null .null .null) ++ (opW  (W113 ++ arI cI q121 12 (fun _ => 0)))) := hD
  generalize hW121 : W113 ++ arI cI q121 12 (fun _ => 0) = W121 at hP hD
  refine va_putF (D := (dC, dI)) (ci := 4) (v := .ref q121) (ty := .array .int) (C := RX4) (T := TX4) (N := 22) hx hb hT hiX4 tyX4 tyX4_ok nmX4 hown hK hP hD hS 0 rfl rfl 19 (by decide) (hT _ kf_X4_58) (fun _ h9 => h9) rfl hin rfl (by decide +kernel) rfl rfl (Nat.le_of_ble_eq_true rfl) dX4_init_123 (fun H locs hP hD hS => ?_)
  have hP : va_P (dC, dI) vwCl ((mN  a 0 1 0 0 0 (.ref q11) (.ref q19) (.ref q27) (.ref q35) (.ref q43) (.ref q51) (.ref q59) (.ref q66) (.ref q73) (.ref q81) (.ref q89) (.ref q97) (.ref q105) (.ref q113) (.ref q121) .null .null) ++ (opW  W121)) H := hP
  have hD : va_D A ((mN  a 0 1 0 0 0 (.ref q11) (.ref q19) (.ref q27) (.ref q35) (.ref q43) (.ref q51) (.ref q59) (.ref q66) (.ref q73) (.ref q81) (.ref q89) (.ref q97) (.ref q105) (.ref q113) (.ref q121) .null .null) ++ (opW  W121)) := hD
  refine lv_aload_n hx hb dX4_init_126 rfl (lv_at hl 0 rfl) ?_
  refine lv_bipush (v := 12) hx hb dX4_init_127 (by decide) ?_
  refine new_l hx hb (hT _ ka_long) hK hP hD hS hA 12 rfl (by decide) (Nat.le_of_ble_eq_true rfl) (Nat.le_of_ble_eq_true rfl) dX4_init_129 (fun q129 H hP hD hS => ?_)
  have hP : va_P (dC, dI) vwCl ((mN  a 0 1 0 0 0 (.ref q11) (.ref q19) (.ref q27) (.ref q35) (.ref q43) (.ref q51) (.ref q59) (.ref q66) (.ref q73) (.ref q81) (.ref q89) (.ref q97) (.ref q105) (.ref q113) (.ref q121) .null .null) ++ (opW  (W121 ++ arJ cJ q129 12 (fun _ => 0)))) H := hP
  have hD : va_D A ((mN  a 0 1 0 0 0 (.ref q11) (.ref q19) (.ref q27) (.ref q35) (.ref q43) (.ref q51) (.ref q59) (.ref q66) (.ref q73) (.ref q81) (.ref q89) (.ref q97) (.ref q105) (.ref q113) (.ref q121) .null .null) ++ (opW  (W121 ++ arJ cJ q129 12 (fun _ => 0)))) := hD
  generalize hW129 : W121 ++ arJ cJ q129 12 (fun _ => 0) = W129 at hP hD
  refine va_putF (D := (dC, dI)) (ci := 4) (v := .ref q129) (ty := .array .long) (C := RX4) (T := TX4) (N := 22) hx hb hT hiX4 tyX4 tyX4_ok nmX4 hown hK hP hD hS 0 rfl rfl 20 (by decide) (hT _ kf_X4_61) (fun _ h9 => h9) rfl hin rfl (by decide +kernel) rfl rfl (Nat.le_of_ble_eq_true rfl) dX4_init_131 (fun H locs hP hD hS => ?_)
  have hP : va_P (dC, dI) vwCl ((mN  a 0 1 0 0 0 (.ref q11) (.ref q19) (.ref q27) (.ref q35) (.ref q43) (.ref q51) (.ref q59) (.ref q66) (.ref q73) (.ref q81) (.ref q89) (.ref q97) (.ref q105) (.ref q113) (.ref q121) (.ref q129) .null) ++ (opW  W129)) H := hP
  have hD : va_D A ((mN  a 0 1 0 0 0 (.ref q11) (.ref q19) (.ref q27) (.ref q35) (.ref q43) (.ref q51) (.ref q59) (.ref q66) (.ref q73) (.ref q81) (.ref q89) (.ref q97) (.ref q105) (.ref q113) (.ref q121) (.ref q129) .null) ++ (opW  W129)) := hD
  refine lv_aload_n hx hb dX4_init_134 rfl (lv_at hl 0 rfl) ?_
  refine lv_bipush (v := 12) hx hb dX4_init_135 (by decide) ?_
  refine new_l hx hb (hT _ ka_long) hK hP hD hS hA 12 rfl (by decide) (Nat.le_of_ble_eq_true rfl) (Nat.le_of_ble_eq_true rfl) dX4_init_137 (fun q137 H hP hD hS => ?_)
  have hP : va_P (dC, dI) vwCl ((mN  a 0 1 0 0 0 (.ref q11) (.ref q19) (.ref q27) (.ref q35) (.ref q43) (.ref q51) (.ref q59) (.ref q66) (.ref q73) (.ref q81) (.ref q89) (.ref q97) (.ref q105) (.ref q113) (.ref q121) (.ref q129) .null) ++ (opW  (W129 ++ arJ cJ q137 12 (fun _ => 0)))) H := hP
  have hD : va_D A ((mN  a 0 1 0 0 0 (.ref q11) (.ref q19) (.ref q27) (.ref q35) (.ref q43) (.ref q51) (.ref q59) (.ref q66) (.ref q73) (.ref q81) (.ref q89) (.ref q97) (.ref q105) (.ref q113) (.ref q121) (.ref q129) .null) ++ (opW  (W129 ++ arJ cJ q137 12 (fun _ => 0)))) := hD
  generalize hW137 : W129 ++ arJ cJ q137 12 (fun _ => 0) = W137 at hP hD
  refine va_putF (D := (dC, dI)) (ci := 4) (v := .ref q137) (ty := .array .long) (C := RX4) (T := TX4) (N := 22) hx hb hT hiX4 tyX4 tyX4_ok nmX4 hown hK hP hD hS 0 rfl rfl 21 (by decide) (hT _ kf_X4_64) (fun _ h9 => h9) rfl hin rfl (by decide +kernel) rfl rfl (Nat.le_of_ble_eq_true rfl) dX4_init_139 (fun H locs hP hD hS => ?_)
  have hP : va_P (dC, dI) vwCl ((mN  a 0 1 0 0 0 (.ref q11) (.ref q19) (.ref q27) (.ref q35) (.ref q43) (.ref q51) (.ref q59) (.ref q66) (.ref q73) (.ref q81) (.ref q89) (.ref q97) (.ref q105) (.ref q113) (.ref q121) (.ref q129) (.ref q137)) ++ (opW  W137)) H := hP
  have hD : va_D A ((mN  a 0 1 0 0 0 (.ref q11) (.ref q19) (.ref q27) (.ref q35) (.ref q43) (.ref q51) (.ref q59) (.ref q66) (.ref q73) (.ref q81) (.ref q89) (.ref q97) (.ref q105) (.ref q113) (.ref q121) (.ref q129) (.ref q137)) ++ (opW  W137)) := hD
  subst hW11 hW19 hW27 hW35 hW43 hW51 hW59 hW66 hW73 hW81 hW89 hW97 hW105 hW113 hW121 hW129 hW137
  obtain ⟨k9, e0, hP9, hD9⟩ := mk_k (cI := cI) (cJ := cJ) (cZ := cZ) (fun w => va_P (dC, dI) vwCl w H ∧ va_D A w) ⟨hP, hD⟩
  clear hP hD
  subst e0
  have hP := hP9
  have hD := hD9
  have hP : va_P (dC, dI) vwCl ((mW cI cZ k9 0 1 0 0 0 (fun _ => 0) (fun _ => 0) (fun _ => 0) (fun _ => 0) (fun _ => 0) (fun _ => 0) (fun _ => 0)) ++ (mS cJ k9 (fun _ => 0) (fun _ => 0) (fun _ => 0) (fun _ => 0)) ++ (mT cI cJ k9 (fun _ => 0) (fun _ => 0) (fun _ => 0) (fun _ => 0) (fun _ => 0) (fun _ => 0))) H := hP
  have hD : va_D A ((mW cI cZ k9 0 1 0 0 0 (fun _ => 0) (fun _ => 0) (fun _ => 0) (fun _ => 0) (fun _ => 0) (fun _ => 0) (fun _ => 0)) ++ (mS cJ k9 (fun _ => 0) (fun _ => 0) (fun _ => 0) (fun _ => 0)) ++ (mT cI cJ k9 (fun _ => 0) (fun _ => 0) (fun _ => 0) (fun _ => 0) (fun _ => 0) (fun _ => 0))) := hD
  refine lv_aload_n hx hb dX4_init_142 rfl (lv_at hl 0 rfl) ?_
  refine va_get (D := (dC, dI)) (ci := 4) (v := .ref (k9 1)) (C := RX4) (T := TX4) (N := 22) hx hb hT hiX4 hown hK hP 0 rfl rfl 4 (by decide) (hT _ kf_X4_13) (fun _ h9 => h9) rfl dX4_init_143 ?_
  refine lv_iconst (v := 2) hx hb dX4_init_146 (by decide) ?_
  refine lv_bipush (v := 100) hx hb dX4_init_147 (by decide) ?_
  refine ast_i hx hb hK hP hD hS 1 0 rfl rfl (by decide) (w := 2) rfl (by decide) dX4_init_149 (fun H locs hP hD hS => ?_)
  have hP : va_P (dC, dI) vwCl ((mW cI cZ k9 0 1 0 0 0 (upd (fun _ => 0) 2 100) (fun _ => 0) (fun _ => 0) (fun _ => 0) (fun _ => 0) (fun _ => 0) (fun _ => 0)) ++ (mS cJ k9 (fun _ => 0) (fun _ => 0) (fun _ => 0) (fun _ => 0)) ++ (mT cI cJ k9 (fun _ => 0) (fun _ => 0) (fun _ => 0) (fun _ => 0) (fun _ => 0) (fun _ => 0))) H := hP
  have hD : va_D A ((mW cI cZ k9 0 1 0 0 0 (upd (fun _ => 0) 2 100) (fun _ => 0) (fun _ => 0) (fun _ => 0) (fun _ => 0) (fun _ => 0) (fun _ => 0)) ++ (mS cJ k9 (fun _ => 0) (fun _ => 0) (fun _ => 0) (fun _ => 0)) ++ (mT cI cJ k9 (fun _ => 0) (fun _ => 0) (fun _ => 0) (fun _ => 0) (fun _ => 0) (fun _ => 0))) := hD
  refine lv_iconst (v := 0) hx hb dX4_init_150 (by decide) ?_
  refine lv_istore_n (lv' := [(1, .int 0), (0, .ref (k9 0))]) hx hb dX4_init_151 rfl hl (by decide) rfl (fun ls hl => ?_)
  refine loopM (fun nn ls H locs => ∃ i : Nat, i ≤ 6 ∧ nn = 6 - i ∧ lv_has ls 2 [(1, .int (nI i)), (0, .ref (k9 0))] ∧ va_P (dC, dI) vwCl ((mW cI cZ k9 0 1 0 0 0 m_se0 (m_cl (fun _ => 0) 0 i) (m_cl (fun _ => 0) 0 i) (m_cl (fun _ => 0) 0 i) (m_cl (fun _ => 0) (-9) i) (m_cl (fun _ => 0) (-9) i) (m_cl (fun _ => 0) 0 i)) ++ (mS cJ k9 (fun _ => 0) (fun _ => 0) (fun _ => 0) (fun _ => 0)) ++ (mT cI cJ k9 (fun _ => 0) (fun _ => 0) (fun _ => 0) (fun _ => 0) (fun _ => 0) (fun _ => 0))) H ∧ va_D A ((mW cI cZ k9 0 1 0 0 0 m_se0 (m_cl (fun _ => 0) 0 i) (m_cl (fun _ => 0) 0 i) (m_cl (fun _ => 0) 0 i) (m_cl (fun _ => 0) (-9) i) (m_cl (fun _ => 0) (-9) i) (m_cl (fun _ => 0) 0 i)) ++ (mS cJ k9 (fun _ => 0) (fun _ => 0) (fun _ => 0) (fun _ => 0)) ++ (mT cI cJ k9 (fun _ => 0) (fun _ => 0) (fun _ => 0) (fun _ => 0) (fun _ => 0) (fun _ => 0))) ∧ va_S A s.heap H locs) (n0 := 6) ⟨0, Nat.zero_le _, rfl, lv_sub hl [0, 1] rfl, hP, hD, hS⟩ (fun nn ls H locs hI ih => ?_)
  obtain ⟨i, hle, hn9, hl, hP, hD, hS⟩ := hI
  rcases Nat.lt_or_ge i 6 with hi | hge
  · refine lv_iload_n hx hb dX4_init_152 rfl (lv_at hl 0 rfl) ?_
    refine lv_bipush (v := 6) hx hb dX4_init_153 (by decide) ?_
    refine lv_icmp_ge (tgt := 169) hx hb dX4_init_155 (by decide) (fun h => absurd h (nI_ge (b := 6) hi (by decide))) (fun c_155 => ?_)
    refine lv_aload_n hx hb dX4_init_158 rfl (lv_at hl 1 rfl) ?_
    refine lv_iload_n hx hb dX4_init_159 rfl (lv_at hl 0 rfl) ?_
    refine fM_v (wc := mW cI cZ k9 0 1 0 0 0 m_se0 (m_cl (fun _ => 0) 0 i) (m_cl (fun _ => 0) 0 i) (m_cl (fun _ => 0) 0 i) (m_cl (fun _ => 0) (-9) i) (m_cl (fun _ => 0) (-9) i) (m_cl (fun _ => 0) 0 i)) (wr := (mS cJ k9 (fun _ => 0) (fun _ => 0) (fun _ => 0) (fun _ => 0)) ++ (mT cI cJ k9 (fun _ => 0) (fun _ => 0) (fun _ => 0) (fun _ => 0) (fun _ => 0) (fun _ => 0))) (rMV (wc := mW cI cZ k9 0 1 0 0 0 m_se0 (m_cl (fun _ => 0) 0 i) (m_cl (fun _ => 0) 0 i) (m_cl (fun _ => 0) 0 i) (m_cl (fun _ => 0) (-9) i) (m_cl (fun _ => 0) (-9) i) (m_cl (fun _ => 0) 0 i)) (As := [.int (nI i)]) (rest := []) ⟨hx, hb, hml, hown, hT⟩ (c_X4_clears (l := l) H.size i (by first | assumption | omega)) (cwTV 1 hT kc_X4_clears km_X4_67 ki_X4_clears ks_X4_clears kn_X4 rfl rfl md_X4_clears ⟨Nat.le_of_ble_eq_true rfl, Nat.le_of_ble_eq_true rfl⟩) (va_P.sub (ws' := mW cI cZ k9 0 1 0 0 0 m_se0 (m_cl (fun _ => 0) 0 i) (m_cl (fun _ => 0) 0 i) (m_cl (fun _ => 0) 0 i) (m_cl (fun _ => 0) (-9) i) (m_cl (fun _ => 0) (-9) i) (m_cl (fun _ => 0) 0 i)) hP [0, 1, 2, 3, 4, 5, 6, 7] rfl) (va_D.sub (ws' := mW cI cZ k9 0 1 0 0 0 m_se0 (m_cl (fun _ => 0) 0 i) (m_cl (fun _ => 0) 0 i) (m_cl (fun _ => 0) 0 i) (m_cl (fun _ => 0) (-9) i) (m_cl (fun _ => 0) (-9) i) (m_cl (fun _ => 0) 0 i)) hD [0, 1, 2, 3, 4, 5, 6, 7] (by decide) rfl) hK (va_recv hK hP (ci := 4) (q0 := 0) rfl rfl) rfl hl.1 rfl (Nat.le_of_ble_eq_true rfl) dX4_init_160 ⟨Nat.le_of_ble_eq_true rfl, Nat.le_of_ble_eq_true rfl⟩) hP hD hS hA (fun u_160 H locs hw_160 hP hD hS => ?_)
    have hP : va_P (dC, dI) vwCl ((mW cI cZ k9 0 1 0 0 0 m_se0 (upd (m_cl (fun _ => 0) 0 i) i 0) (upd (m_cl (fun _ => 0) 0 i) i 0) (upd (m_cl (fun _ => 0) 0 i) i 0) (upd (m_cl (fun _ => 0) (-9) i) i (-9)) (upd (m_cl (fun _ => 0) (-9) i) i (-9)) (upd (m_cl (fun _ => 0) 0 i) i 0)) ++ (mS cJ k9 (fun _ => 0) (fun _ => 0) (fun _ => 0) (fun _ => 0)) ++ (mT cI cJ k9 (fun _ => 0) (fun _ => 0) (fun _ => 0) (fun _ => 0) (fun _ => 0) (fun _ => 0))) H := hP
    have hD : va_D A ((mW cI cZ k9 0 1 0 0 0 m_se0 (upd (m_cl (fun _ => 0) 0 i) i 0) (upd (m_cl (fun _ => 0) 0 i) i 0) (upd (m_cl (fun _ => 0) 0 i) i 0) (upd (m_cl (fun _ => 0) (-9) i) i (-9)) (upd (m_cl (fun _ => 0) (-9) i) i (-9)) (upd (m_cl (fun _ => 0) 0 i) i 0)) ++ (mS cJ k9 (fun _ => 0) (fun _ => 0) (fun _ => 0) (fun _ => 0)) ++ (mT cI cJ k9 (fun _ => 0) (fun _ => 0) (fun _ => 0) (fun _ => 0) (fun _ => 0) (fun _ => 0))) := hD
    refine lv_iinc (v := (nI (i + 1))) (lv' := [(1, .int (nI (i + 1))), (0, .ref (k9 0))]) hx hb dX4_init_163 hl (k := 0) rfl (nI_1 i) (by decide) rfl (fun ls hl => ?_)
    refine lv_goto (tgt := 152) hx hb dX4_init_166 (by decide) ?_
    refine ih (6 - (i + 1)) ls H locs (by omega) ⟨(i + 1), by omega, rfl, ?_, hP, hD, hS⟩
    exact lv_sub hl [0, 1] rfl
  · have hE : i = 6 := by omega
    subst hE
    refine lv_iload_n hx hb dX4_init_152 rfl (lv_at hl 0 rfl) ?_
    refine lv_bipush (v := 6) hx hb dX4_init_153 (by decide) ?_
    refine lv_icmp_ge (tgt := 169) hx hb dX4_init_155 (by decide) (fun c_155 => ?_) (fun h => absurd h (by decide))
    exact retM_v (S := Nat → Nat) (post := fun u => u 0 = (k9 0)) (w2 := fun u => (mW cI cZ u 0 1 0 0 0 m_se0 (m_cl (fun _ => 0) 0 6) (m_cl (fun _ => 0) 0 6) (m_cl (fun _ => 0) 0 6) (m_cl (fun _ => 0) (-9) 6) (m_cl (fun _ => 0) (-9) 6) (m_cl (fun _ => 0) 0 6)) ++ (mS cJ u (fun _ => 0) (fun _ => 0) (fun _ => 0) (fun _ => 0)) ++ (mT cI cJ u (fun _ => 0) (fun _ => 0) (fun _ => 0) (fun _ => 0) (fun _ => 0) (fun _ => 0))) k9 hx hb hr hlocks rfl hP hK hD hS dX4_init_169
