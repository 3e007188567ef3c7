variable {l : Launch} {dC : Nat → ClassId} {dI : Nat → Nat → Nat} {cI cJ cZ : ClassId}
variable {q : Nat → Nat} {ln cw ic bs ss : Int32} {se we un sf pa : Nat → Int32}
variable {ct : Int32} {ov gf : Nat → Int64} {gi ta : Nat → Int32}
variable {k : Nat → Nat} {r : Rat} {up lo : Int64} {cn tm : Int32} {isI br ma : Nat → Int32} {aU aL uU uL oU oL gU gL : Nat → Int64}

def nestW : Cond := .methodLinkNest RX3 29 yX0_init RX3
def pMn (D : va_G) (tys : List (ClassId × FieldType)) (ws : va_W) (av : List Value) (sz : Nat) : Array Value → State → Prop := va_Pc av (fun U => U.heap.size = sz ∧ va_P D vwCl ws U.heap ∧ va_K D vwCl tys U ∧ va_D (fun _ => True) ws ∧ va_Nw nestW U)
theorem pMn_blind {D : va_G} {tys : List (ClassId × FieldType)} {ws : va_W} {av : List Value} {sz : Nat} : FrameBlind (pMn D tys ws av sz) := fun a U g mk q => ⟨q.1, q.2.1, q.2.2.1, va_K.moved (u := U) (U := U.calling g mk a) (Vm.Alike.refl U.vm) q.2.2.2.1, q.2.2.2.2.1, va_Nw.same rfl (u := U) (U := U.calling g mk a) rfl q.2.2.2.2.2⟩
section NEST
variable {p : Program} {e : Env} {R : Room} {s : State} {m : MethodId} {args : Array Value} {below : List Frame} {meth : Method} {c : Code} {H : Heap} {locs : List Loc} {cells slots : Nat} {pc : Nat} {ls : Array Slot} {rest st0 : List Value} {cc : ByteArray} {D : va_G} {tys : List (ClassId × FieldType)} {wc : va_W}
theorem rMIN {own host : String} {index n maxL nL mc ms : Nat} {y : MethodName} {bytes : ByteArray} {rm : Room} {Qc : Array Value → State → Outcome → State → Prop} {free B : Addr → Prop} {b : Addr} {As : List Value} (S : CallFix p m c cc nL s args TT own) (hM : Met l y (wT y bytes maxL none) rm (pM D tys wc (.ref b :: As) H.size) Qc mc ms free) (hc : Cond.code y bytes maxL none ∈ TT) (hi : Cond.instanceMethod y ∈ TT) (hini : Cond.initialized y.cls ∈ TT) (hN : va_Nw (.methodLinkNest own index y host) s) (hrc : rm.cells = mc) (hrs : rm.slots = ms) (hy1 : y.name = "<init>")
    (hd : y.cls ≠ "java/lang/invoke/MethodHandle" ∧ y.cls ≠ "java/lang/invoke/VarHandle" ∧ (parseMethodDescriptor y.desc).map (fun d => d.parameters.length) = some n) (hR : rm.frames + 1 ≤ R.frames ∧ 8 + (maxL + 11) + rm.locals ≤ R.locals) (hP : va_P D vwCl wc H) (hD : va_D B wc) (hK : va_K D vwCl tys s) (hn : As.length = n) (hsz : ls.size = nL) (hst : st0 = As.reverse ++ .ref b :: rest) (hW : (rest.map fun v => v.category).sum ≤ 8) (hdg : decode cc pc = .ok (.invokespecial index, 3)) (hf : cells + mc ≤ R.cells ∧ slots + ms ≤ R.slots) :
    va_Run p l e R s m args below meth c H locs cells slots mc ms (F0 m pc ls st0) rest (Qc (Value.ref b :: As).toArray) free :=
  va_runIN S hM ⟨va_cnB (Ts := TT) n S.2.2.2.2 (wT_good hc) rfl hrc hrs hN (S.2.2.2.2 _ hini) hd hR, hy1, S.2.2.2.2 _ hi⟩ ⟨pM_blind, fun U hU hW => ⟨rfl, by rw [hU], by rw [hU]; exact hP, va_K.moved hW.alike hK, hD.weaken (fun _ _ _ _ => trivial)⟩⟩ rfl hn hsz hst (lv_room hW) hdg hf
end NEST
def x_se0 : Nat → Int32 := upd (upd (upd (fun _ => 0) 0 0) 1 0) 2 100
set_option maxHeartbeats 4000000 in
set_option maxRecDepth 100000 in
theorem c_X3_init (sz : Nat) {a : Nat} : Met l yX3_init (wT yX3_init cX3_init 1 none) ({ frames := 2, cells := 10, slots := 56, locals := 32 }) (pMn (dC, dI) (ty3 cI cJ cZ) (xN  a 0 0 .null 0 0 0 .null .null .null .null .null) [.ref a] sz) (va_Qv (S := Nat → Nat) (fun u => u 0 = a) (fun u t9 => bM (dC, dI) (ty3 cI cJ cZ) (va_A (xN  a 0 0 .null 0 0 0 .null .null .null .null .null) sz) (xW cI u 0 0 0 0 0 x_se0 (fun _ => 0) (fun _ => 0) (fun _ => 0) (fun _ => 0) ++ fW cI cJ u 0 (fun _ => 0) (fun _ => 0) (fun _ => 0) (fun _ => 0)) t9) (va_A (xN  a 0 0 .null 0 0 0 .null .null .null .null .null) sz)) 10 56 (va_A (xN  a 0 0 .null 0 0 0 .null .null .null .null .null) sz) := by
  refine Met.ofW (cc := cX3_init) (maxL := 1) (ret := none) (by decide) rfl ?_
  intro p e s m args below meth c s₁ B hml hv
  obtain ⟨rfl, hsz, hP, hK, hD0, hNw⟩ := hv
  have hx := B.exec
  have hb := B.bytes
  have hr := B.returns
  have hts := atoms_spec (ws := wT yX3_init cX3_init 1 none) B.pre
  have hT := wT_T hts
  have hown : s.vm.findClass RX3 = some m.cls := findClass_of_methodNamed B.named
  have hlocks := B.notSynchronized
  have hin : meth.name = "<init>" := (name_of_methodNamed B.named B.method).1
  subst hsz
  have hD := hD0.self (sz := s.heap.size)
  generalize hAe : va_A (xN  a 0 0 .null 0 0 0 .null .null .null .null .null) s.heap.size = A at hD ⊢
  have hA : ∀ q : Nat, s.heap.size ≤ q → A q := fun q h => by rw [← hAe]; exact Or.inr h
  have hS : va_S A s.heap s.heap [] := va_S.rf
  have hl := lv_entry ([.ref a]) (n := 1) (Nat.le_of_ble_eq_true rfl)
  rw [lg_entry_eq]
  generalize (lg_sl ([.ref a]) ++ List.replicate (1 - (lg_sl ([.ref a])).length) Slot.unset).toArray = ls at hl ⊢
  have hl : lv_has ls 1 [(0, .ref a)] := hl
  refine lv_aload_n hx hb dX3_init_0 rfl (lv_at hl 0 rfl) ?_
  refine W.objInit hx hb hown (hT _ km_X3_3) (hT _ ki_obj) (hT _ kc_obj) rfl (by rw [hml]; exact hl.1) rfl dX3_init_1 (Nat.le_of_ble_eq_true rfl) (Nat.le_of_ble_eq_true rfl) ?_
  refine W.eq (g2 := F0 m 4 ls []) rfl ?_
  refine lv_aload_n hx hb dX3_init_4 rfl (lv_at hl 0 rfl) ?_
  refine lv_iconst (v := 3) hx hb dX3_init_5 (by decide) ?_
  refine new_i hx hb (hT _ ka_int) hK hP hD hS hA 3 rfl (by decide) (Nat.le_of_ble_eq_true rfl) (Nat.le_of_ble_eq_true rfl) dX3_init_6 (fun q6 H hP hD hS => ?_)
  have hP : va_P (dC, dI) vwCl ((xN  a 0 0 .null 0 0 0 .null .null .null .null .null) ++ (arI cI q6 3 (fun _ => 0))) H := hP
  have hD : va_D A ((xN  a 0 0 .null 0 0 0 .null .null .null .null .null) ++ (arI cI q6 3 (fun _ => 0))) := hD
  refine lv_dup hx hb dX3_init_8 rfl ?_
  refine lv_iconst (v := 0) hx hb dX3_init_9 (by decide) ?_
  refine lv_iconst (v := 0) hx hb dX3_init_10 (by decide) ?_
  refine ast_i hx hb hK hP hD hS 1 0 rfl rfl (by decide) (w := 0) rfl (by decide) dX3_init_11 (fun H locs hP hD hS => ?_)
  have hP : va_P (dC, dI) vwCl ((xN  a 0 0 .null 0 0 0 .null .null .null .null .null) ++ (arI cI q6 3 (upd (fun _ => 0) 0 0))) H := hP
  have hD : va_D A ((xN  a 0 0 .null 0 0 0 .null .null .null .null .null) ++ (arI cI q6 3 (upd (fun _ => 0) 0 0))) := hD
  refine lv_dup hx hb dX3_init_12 rfl ?_
  refine lv_iconst (v := 1) hx hb dX3_init_13 (by decide) ?_
  refine lv_iconst (v := 0) hx hb dX3_init_14 (by decide) ?_
  refine ast_i hx hb hK hP hD hS 1 0 rfl rfl (by decide) (w := 1) rfl (by decide) dX3_init_15 (fun H locs hP hD hS => ?_)
  have hP : va_P (dC, dI) vwCl ((xN  a 0 0 .null 0 0 0 .null .null .null .null .null) ++ (arI cI q6 3 (upd (upd (fun _ => 0) 0 0) 1 0))) H := hP
  have hD : va_D A ((xN  a 0 0 .null 0 0 0 .null .null .null .null .null) ++ (arI cI q6 3 (upd (upd (fun _ => 0) 0 0) 1 0))) := hD
  refine lv_dup hx hb dX3_init_16 rfl ?_
  refine lv_iconst (v := 2) hx hb dX3_init_17 (by decide) ?_
  refine lv_bipush (v := 100) hx hb dX3_init_18 (by decide) ?_
  refine ast_i hx hb hK hP hD hS 1 0 rfl rfl (by decide) (w := 2) rfl (by decide) dX3_init_20 (fun H locs hP hD hS => ?_)
  have hP : va_P (dC, dI) vwCl ((xN  a 0 0 .null 0 0 0 .null .null .null .null .null) ++ (arI cI q6 3 (upd (upd (upd (fun _ => 0) 0 0) 1 0) 2 100))) H := hP
  have hD : va_D A ((xN  a 0 0 .null 0 0 0 .null .null .null .null .null) ++ (arI cI q6 3 (upd (upd (upd (fun _ => 0) 0 0) 1 0) 2 100))) := hD
  refine va_putF (D := (dC, dI)) (ci := 3) (v := .ref q6) (ty := .array .int) (C := RX3) (T := TX3) (N := 11) hx hb hT hiX3 tyX3 tyX3_ok nmX3 hown hK hP hD hS 0 rfl rfl 2 (by decide) (hT _ kf_X3_9) (fun _ h9 => h9) rfl hin rfl (by decide +kernel) rfl rfl (Nat.le_of_ble_eq_true rfl) dX3_init_21 (fun H locs hP hD hS => ?_)
  have hP : va_P (dC, dI) vwCl ((xN  a 0 0 (.ref q6) 0 0 0 .null .null .null .null .null) ++ (arI cI q6 3 (upd (upd (upd (fun _ => 0) 0 0) 1 0) 2 100))) H := hP
  have hD : va_D A ((xN  a 0 0 (.ref q6) 0 0 0 .null .null .null .null .null) ++ (arI cI q6 3 (upd (upd (upd (fun _ => 0) 0 0) 1 0) 2 100))) := hD
  refine lv_aload_n hx hb dX3_init_24 rfl (lv_at hl 0 rfl) ?_
  refine lv_bipush (v := 6) hx hb dX3_init_25 (by decide) ?_
  refine new_i hx hb (hT _ ka_int) hK hP hD hS hA 6 rfl (by decide) (Nat.le_of_ble_eq_true rfl) (Nat.le_of_ble_eq_true rfl) dX3_init_27 (fun q27 H hP hD hS => ?_)
  have hP : va_P (dC, dI) vwCl ((xN  a 0 0 (.ref q6) 0 0 0 .null .null .null .null .null) ++ (arI cI q6 3 (upd (upd (upd (fun _ => 0) 0 0) 1 0) 2 100)) ++ (arI cI q27 6 (fun _ => 0))) H := hP
  have hD : va_D A ((xN  a 0 0 (.ref q6) 0 0 0 .null .null .null .null .null) ++ (arI cI q6 3 (upd (upd (upd (fun _ => 0) 0 0) 1 0) 2 100)) ++ (arI cI q27 6 (fun _ => 0))) := hD
  refine va_putF (D := (dC, dI)) (ci := 3) (v := .ref q27) (ty := .array .int) (C := RX3) (T := TX3) (N := 11) hx hb hT hiX3 tyX3 tyX3_ok nmX3 hown hK hP hD hS 0 rfl rfl 6 (by decide) (hT _ kf_X3_15) (fun _ h9 => h9) rfl hin rfl (by decide +kernel) rfl rfl (Nat.le_of_ble_eq_true rfl) dX3_init_29 (fun H locs hP hD hS => ?_)
  have hP : va_P (dC, dI) vwCl ((xN  a 0 0 (.ref q6) 0 0 0 (.ref q27) .null .null .null .null) ++ (arI cI q6 3 (upd (upd (upd (fun _ => 0) 0 0) 1 0) 2 100)) ++ (arI cI q27 6 (fun _ => 0))) H := hP
  have hD : va_D A ((xN  a 0 0 (.ref q6) 0 0 0 (.ref q27) .null .null .null .null) ++ (arI cI q6 3 (upd (upd (upd (fun _ => 0) 0 0) 1 0) 2 100)) ++ (arI cI q27 6 (fun _ => 0))) := hD
  refine lv_aload_n hx hb dX3_init_32 rfl (lv_at hl 0 rfl) ?_
  refine lv_bipush (v := 6) hx hb dX3_init_33 (by decide) ?_
  refine new_i hx hb (hT _ ka_int) hK hP hD hS hA 6 rfl (by decide) (Nat.le_of_ble_eq_true rfl) (Nat.le_of_ble_eq_true rfl) dX3_init_35 (fun q35 H hP hD hS => ?_)
  have hP : va_P (dC, dI) vwCl ((xN  a 0 0 (.ref q6) 0 0 0 (.ref q27) .null .null .null .null) ++ (arI cI q6 3 (upd (upd (upd (fun _ => 0) 0 0) 1 0) 2 100)) ++ (arI cI q27 6 (fun _ => 0)) ++ (arI cI q35 6 (fun _ => 0))) H := hP
  have hD : va_D A ((xN  a 0 0 (.ref q6) 0 0 0 (.ref q27) .null .null .null .null) ++ (arI cI q6 3 (upd (upd (upd (fun _ => 0) 0 0) 1 0) 2 100)) ++ (arI cI q27 6 (fun _ => 0)) ++ (arI cI q35 6 (fun _ => 0))) := hD
  refine va_putF (D := (dC, dI)) (ci := 3) (v := .ref q35) (ty := .array .int) (C := RX3) (T := TX3) (N := 11) hx hb hT hiX3 tyX3 tyX3_ok nmX3 hown hK hP hD hS 0 rfl rfl 7 (by decide) (hT _ kf_X3_18) (fun _ h9 => h9) rfl hin rfl (by decide +kernel) rfl rfl (Nat.le_of_ble_eq_true rfl) dX3_init_37 (fun H locs hP hD hS => ?_)
  have hP : va_P (dC, dI) vwCl ((xN  a 0 0 (.ref q6) 0 0 0 (.ref q27) (.ref q35) .null .null .null) ++ (arI cI q6 3 (upd (upd (upd (fun _ => 0) 0 0) 1 0) 2 100)) ++ (arI cI q27 6 (fun _ => 0)) ++ (arI cI q35 6 (fun _ => 0))) H := hP
  have hD : va_D A ((xN  a 0 0 (.ref q6) 0 0 0 (.ref q27) (.ref q35) .null .null .null) ++ (arI cI q6 3 (upd (upd (upd (fun _ => 0) 0 0) 1 0) 2 100)) ++ (arI cI q27 6 (fun _ => 0)) ++ (arI cI q35 6 (fun _ => 0))) := hD
  refine lv_aload_n hx hb dX3_init_40 rfl (lv_at hl 0 rfl) ?_
  refine lv_bipush (v := 6) hx hb dX3_init_41 (by decide) ?_
  refine new_i hx hb (hT _ ka_int) hK hP hD hS hA 6 rfl (by decide) (Nat.le_of_ble_eq_true rfl) (Nat.le_of_ble_eq_true rfl) dX3_init_43 (fun q43 H hP hD hS => ?_)
  have hP : va_P (dC, dI) vwCl ((xN  a 0 0 (.ref q6) 0 0 0 (.ref q27) (.ref q35) .null .null .null) ++ (arI cI q6 3 (upd (upd (upd (fun _ => 0) 0 0) 1 0) 2 100)) ++ (arI cI q27 6 (fun _ => 0)) ++ (arI cI q35 6 (fun _ => 0)) ++ (arI cI q43 6 (fun _ => 0))) H := hP
  have hD : va_D A ((xN  a 0 0 (.ref q6) 0 0 0 (.ref q27) (.ref q35) .null .null .null) ++ (arI cI q6 3 (upd (upd (upd (fun _ => 0) 0 0) 1 0) 2 100)) ++ (arI cI q27 6 (fun _ => 0)) ++ (arI cI q35 6 (fun _ => 0)) ++ (arI cI q43 6 (fun _ => 0))) := hD
  refine va_putF (D := (dC, dI)) (ci := 3) (v := .ref q43) (ty := .array .int) (C := RX3) (T := TX3) (N := 11) hx hb hT hiX3 tyX3 tyX3_ok nmX3 hown hK hP hD hS 0 rfl rfl 8 (by decide) (hT _ kf_X3_21) (fun _ h9 => h9) rfl hin rfl (by decide +kernel) rfl rfl (Nat.le_of_ble_eq_true rfl) dX3_init_45 (fun H locs hP hD hS => ?_)
  have hP : va_P (dC, dI) vwCl ((xN  a 0 0 (.ref q6) 0 0 0 (.ref q27) (.ref q35) (.ref q43) .null .null) ++ (arI cI q6 3 (upd (upd (upd (fun _ => 0) 0 0) 1 0) 2 100)) ++ (arI cI q27 6 (fun _ => 0)) ++ (arI cI q35 6 (fun _ => 0)) ++ (arI cI q43 6 (fun _ => 0))) H := hP
  have hD : va_D A ((xN  a 0 0 (.ref q6) 0 0 0 (.ref q27) (.ref q35) (.ref q43) .null .null) ++ (arI cI q6 3 (upd (upd (upd (fun _ => 0) 0 0) 1 0) 2 100)) ++ (arI cI q27 6 (fun _ => 0)) ++ (arI cI q35 6 (fun _ => 0)) ++ (arI cI q43 6 (fun _ => 0))) := hD
  refine lv_aload_n hx hb dX3_init_48 rfl (lv_at hl 0 rfl) ?_
  refine lv_bipush (v := 6) hx hb dX3_init_49 (by decide) ?_
  refine new_i hx hb (hT _ ka_int) hK hP hD hS hA 6 rfl (by decide) (Nat.le_of_ble_eq_true rfl) (Nat.le_of_ble_eq_true rfl) dX3_init_51 (fun q51 H hP hD hS => ?_)
  have hP : va_P (dC, dI) vwCl ((xN  a 0 0 (.ref q6) 0 0 0 (.ref q27) (.ref q35) (.ref q43) .null .null) ++ (arI cI q6 3 (upd (upd (upd (fun _ => 0) 0 0) 1 0) 2 100)) ++ (arI cI q27 6 (fun _ => 0)) ++ (arI cI q35 6 (fun _ => 0)) ++ (arI cI q43 6 (fun _ => 0)) ++ (arI cI q51 6 (fun _ => 0))) H := hP
  have hD : va_D A ((xN  a 0 0 (.ref q6) 0 0 0 (.ref q27) (.ref q35) (.ref q43) .null .null) ++ (arI cI q6 3 (upd (upd (upd (fun _ => 0) 0 0) 1 0) 2 100)) ++ (arI cI q27 6 (fun _ => 0)) ++ (arI cI q35 6 (fun _ => 0)) ++ (arI cI q43 6 (fun _ => 0)) ++ (arI cI q51 6 (fun _ => 0))) := hD
  refine va_putF (D := (dC, dI)) (ci := 3) (v := .ref q51) (ty := .array .int) (C := RX3) (T := TX3) (N := 11) hx hb hT hiX3 tyX3 tyX3_ok nmX3 hown hK hP hD hS 0 rfl rfl 9 (by decide) (hT _ kf_X3_24) (fun _ h9 => h9) rfl hin rfl (by decide +kernel) rfl rfl (Nat.le_of_ble_eq_true rfl) dX3_init_53 (fun H locs hP hD hS => ?_)
  have hP : va_P (dC, dI) vwCl ((xN  a 0 0 (.ref q6) 0 0 0 (.ref q27) (.ref q35) (.ref q43) (.ref q51) .null) ++ (arI cI q6 3 (upd (upd (upd (fun _ => 0) 0 0) 1 0) 2 100)) ++ (arI cI q27 6 (fun _ => 0)) ++ (arI cI q35 6 (fun _ => 0)) ++ (arI cI q43 6 (fun _ => 0)) ++ (arI cI q51 6 (fun _ => 0))) H := hP
  have hD : va_D A ((xN  a 0 0 (.ref q6) 0 0 0 (.ref q27) (.ref q35) (.ref q43) (.ref q51) .null) ++ (arI cI q6 3 (upd (upd (upd (fun _ => 0) 0 0) 1 0) 2 100)) ++ (arI cI q27 6 (fun _ => 0)) ++ (arI cI q35 6 (fun _ => 0)) ++ (arI cI q43 6 (fun _ => 0)) ++ (arI cI q51 6 (fun _ => 0))) := hD
  refine lv_aload_n hx hb dX3_init_56 rfl (lv_at hl 0 rfl) ?_
  refine va_new (ci := 0) (fs := [.null, .null, .null, .null, .int 0]) (C := RX0) (T := TX0) (N := 5) hx hb hT hiX0 tyX0 tyX0_ok hown (hT _ kcl_X3_27) (hT _ kin_X0) (hT _ kn_X0) hK hP hD hS hA rfl (fun j hj => by rcases (show j = 0 ∨ j = 1 ∨ j = 2 ∨ j = 3 ∨ j = 4 by omega) with rfl | rfl | rfl | rfl | rfl <;> rfl) (Nat.le_of_ble_eq_true rfl) (Nat.le_of_ble_eq_true rfl) dX3_init_57 (fun q57 H hP hD hS => ?_)
  have hP : va_P (dC, dI) vwCl ((xN  a 0 0 (.ref q6) 0 0 0 (.ref q27) (.ref q35) (.ref q43) (.ref q51) .null) ++ (arI cI q6 3 (upd (upd (upd (fun _ => 0) 0 0) 1 0) 2 100)) ++ (arI cI q27 6 (fun _ => 0)) ++ (arI cI q35 6 (fun _ => 0)) ++ (arI cI q43 6 (fun _ => 0)) ++ (arI cI q51 6 (fun _ => 0)) ++ (fN  q57 .null .null .null .null 0)) H := hP
  have hD : va_D A ((xN  a 0 0 (.ref q6) 0 0 0 (.ref q27) (.ref q35) (.ref q43) (.ref q51) .null) ++ (arI cI q6 3 (upd (upd (upd (fun _ => 0) 0 0) 1 0) 2 100)) ++ (arI cI q27 6 (fun _ => 0)) ++ (arI cI q35 6 (fun _ => 0)) ++ (arI cI q43 6 (fun _ => 0)) ++ (arI cI q51 6 (fun _ => 0)) ++ (fN  q57 .null .null .null .null 0)) := hD
  refine lv_dup hx hb dX3_init_60 rfl ?_
  have hP := va_P.sub (ws' := (fN  q57 .null .null .null .null 0) ++ (xN  a 0 0 (.ref q6) 0 0 0 (.ref q27) (.ref q35) (.ref q43) (.ref q51) .null) ++ (arI cI q6 3 (upd (upd (upd (fun _ => 0) 0 0) 1 0) 2 100)) ++ (arI cI q27 6 (fun _ => 0)) ++ (arI cI q35 6 (fun _ => 0)) ++ (arI cI q43 6 (fun _ => 0)) ++ (arI cI q51 6 (fun _ => 0))) hP [6, 0, 1, 2, 3, 4, 5] rfl
  have hD := va_D.sub (ws' := (fN  q57 .null .null .null .null 0) ++ (xN  a 0 0 (.ref q6) 0 0 0 (.ref q27) (.ref q35) (.ref q43) (.ref q51) .null) ++ (arI cI q6 3 (upd (upd (upd (fun _ => 0) 0 0) 1 0) 2 100)) ++ (arI cI q27 6 (fun _ => 0)) ++ (arI cI q35 6 (fun _ => 0)) ++ (arI cI q43 6 (fun _ => 0)) ++ (arI cI q51 6 (fun _ => 0))) hD [6, 0, 1, 2, 3, 4, 5] (by decide) rfl
  refine fM_v (wc := fN  q57 .null .null .null .null 0) (wr := (xN  a 0 0 (.ref q6) 0 0 0 (.ref q27) (.ref q35) (.ref q43) (.ref q51) .null) ++ (arI cI q6 3 (upd (upd (upd (fun _ => 0) 0 0) 1 0) 2 100)) ++ (arI cI q27 6 (fun _ => 0)) ++ (arI cI q35 6 (fun _ => 0)) ++ (arI cI q43 6 (fun _ => 0)) ++ (arI cI q51 6 (fun _ => 0))) (rMIN (wc := fN  q57 .null .null .null .null 0) (As := []) (rest := [.ref q57, .ref a]) ⟨hx, hb, hml, hown, hT⟩ (c_X0_init (l := l) H.size ) kc_X0_init ki_X0_init kn_X0 hNw rfl rfl rfl md_X0_init ⟨Nat.le_of_ble_eq_true rfl, Nat.le_of_ble_eq_true rfl⟩ (va_P.sub (ws' := fN  q57 .null .null .null .null 0) hP [0] rfl) (va_D.sub (ws' := fN  q57 .null .null .null .null 0) hD [0] (by decide) rfl) hK rfl hl.1 rfl (Nat.le_of_ble_eq_true rfl) dX3_init_61 ⟨Nat.le_of_ble_eq_true rfl, Nat.le_of_ble_eq_true rfl⟩) hP hD hS hA (fun u_61 H locs hw_61 hP hD hS => ?_)
  have hP : va_P (dC, dI) vwCl ((fN  q57 (.ref (u_61).1) (.ref (u_61).2.1) (.ref (u_61).2.2.1) (.ref (u_61).2.2.2) 0) ++ (arJ cJ ((u_61).1) 6 (fun _ => 0)) ++ (arI cI ((u_61).2.1) 6 (fun _ => 0)) ++ (arI cI ((u_61).2.2.1) 6 (fun _ => 0)) ++ (arJ cJ ((u_61).2.2.2) 6 (fun _ => 0)) ++ (xN  a 0 0 (.ref q6) 0 0 0 (.ref q27) (.ref q35) (.ref q43) (.ref q51) .null) ++ (arI cI q6 3 (upd (upd (upd (fun _ => 0) 0 0) 1 0) 2 100)) ++ (arI cI q27 6 (fun _ => 0)) ++ (arI cI q35 6 (fun _ => 0)) ++ (arI cI q43 6 (fun _ => 0)) ++ (arI cI q51 6 (fun _ => 0))) H := hP
  have hD : va_D A ((fN  q57 (.ref (u_61).1) (.ref (u_61).2.1) (.ref (u_61).2.2.1) (.ref (u_61).2.2.2) 0) ++ (arJ cJ ((u_61).1) 6 (fun _ => 0)) ++ (arI cI ((u_61).2.1) 6 (fun _ => 0)) ++ (arI cI ((u_61).2.2.1) 6 (fun _ => 0)) ++ (arJ cJ ((u_61).2.2.2) 6 (fun _ => 0)) ++ (xN  a 0 0 (.ref q6) 0 0 0 (.ref q27) (.ref q35) (.ref q43) (.ref q51) .null) ++ (arI cI q6 3 (upd (upd (upd (fun _ => 0) 0 0) 1 0) 2 100)) ++ (arI cI q27 6 (fun _ => 0)) ++ (arI cI q35 6 (fun _ => 0)) ++ (arI cI q43 6 (fun _ => 0)) ++ (arI cI q51 6 (fun _ => 0))) := hD
  refine va_putF (D := (dC, dI)) (ci := 3) (v := .ref q57) (ty := .object "SharedFault$Flow") (C := RX3) (T := TX3) (N := 11) hx hb hT hiX3 tyX3 tyX3_ok nmX3 hown hK hP hD hS 5 rfl rfl 10 (by decide) (hT _ kf_X3_30) (fun _ h9 => h9) rfl hin rfl (by decide +kernel) rfl rfl (Nat.le_of_ble_eq_true rfl) dX3_init_64 (fun H locs hP hD hS => ?_)
  have hP : va_P (dC, dI) vwCl ((fN  q57 (.ref (u_61).1) (.ref (u_61).2.1) (.ref (u_61).2.2.1) (.ref (u_61).2.2.2) 0) ++ (arJ cJ ((u_61).1) 6 (fun _ => 0)) ++ (arI cI ((u_61).2.1) 6 (fun _ => 0)) ++ (arI cI ((u_61).2.2.1) 6 (fun _ => 0)) ++ (arJ cJ ((u_61).2.2.2) 6 (fun _ => 0)) ++ (xN  a 0 0 (.ref q6) 0 0 0 (.ref q27) (.ref q35) (.ref q43) (.ref q51) (.ref q57)) ++ (arI cI q6 3 (upd (upd (upd (fun _ => 0) 0 0) 1 0) 2 100)) ++ (arI cI q27 6 (fun _ => 0)) ++ (arI cI q35 6 (fun _ => 0)) ++ (arI cI q43 6 (fun _ => 0)) ++ (arI cI q51 6 (fun _ => 0))) H := hP
  have hD : va_D A ((fN  q57 (.ref (u_61).1) (.ref (u_61).2.1) (.ref (u_61).2.2.1) (.ref (u_61).2.2.2) 0) ++ (arJ cJ ((u_61).1) 6 (fun _ => 0)) ++ (arI cI ((u_61).2.1) 6 (fun _ => 0)) ++ (arI cI ((u_61).2.2.1) 6 (fun _ => 0)) ++ (arJ cJ ((u_61).2.2.2) 6 (fun _ => 0)) ++ (xN  a 0 0 (.ref q6) 0 0 0 (.ref q27) (.ref q35) (.ref q43) (.ref q51) (.ref q57)) ++ (arI cI q6 3 (upd (upd (upd (fun _ => 0) 0 0) 1 0) 2 100)) ++ (arI cI q27 6 (fun _ => 0)) ++ (arI cI q35 6 (fun _ => 0)) ++ (arI cI q43 6 (fun _ => 0)) ++ (arI cI q51 6 (fun _ => 0))) := hD
  have hP := va_P.sub (ws' := (xN  a 0 0 (.ref q6) 0 0 0 (.ref q27) (.ref q35) (.ref q43) (.ref q51) (.ref q57)) ++ (arI cI q6 3 (upd (upd (upd (fun _ => 0) 0 0) 1 0) 2 100)) ++ (arI cI q27 6 (fun _ => 0)) ++ (arI cI q35 6 (fun _ => 0)) ++ (arI cI q43 6 (fun _ => 0)) ++ (arI cI q51 6 (fun _ => 0)) ++ (fN  q57 (.ref (u_61).1) (.ref (u_61).2.1) (.ref (u_61).2.2.1) (.ref (u_61).2.2.2) 0) ++ (arJ cJ ((u_61).1) 6 (fun _ => 0)) ++ (arI cI ((u_61).2.1) 6 (fun _ => 0)) ++ (arI cI ((u_61).2.2.1) 6 (fun _ => 0)) ++ (arJ cJ ((u_61).2.2.2) 6 (fun _ => 0))) hP [5, 6, 7, 8, 9, 10, 0, 1, 2, 3, 4] rfl
  have hD := va_D.sub (ws' := (xN  a 0 0 (.ref q6) 0 0 0 (.ref q27) (.ref q35) (.ref q43) (.ref q51) (.ref q57)) ++ (arI cI q6 3 (upd (upd (upd (fun _ => 0) 0 0) 1 0) 2 100)) ++ (arI cI q27 6 (fun _ => 0)) ++ (arI cI q35 6 (fun _ => 0)) ++ (arI cI q43 6 (fun _ => 0)) ++ (arI cI q51 6 (fun _ => 0)) ++ (fN  q57 (.ref (u_61).1) (.ref (u_61).2.1) (.ref (u_61).2.2.1) (.ref (u_61).2.2.2) 0) ++ (arJ cJ ((u_61).1) 6 (fun _ => 0)) ++ (arI cI ((u_61).2.1) 6 (fun _ => 0)) ++ (arI cI ((u_61).2.2.1) 6 (fun _ => 0)) ++ (arJ cJ ((u_61).2.2.2) 6 (fun _ => 0))) hD [5, 6, 7, 8, 9, 10, 0, 1, 2, 3, 4] (by decide) rfl
  exact retM_v (S := Nat → Nat) (post := fun u => u 0 = a) (w2 := fun u => xW cI u 0 0 0 0 0 x_se0 (fun _ => 0) (fun _ => 0) (fun _ => 0) (fun _ => 0) ++ fW cI cJ u 0 (fun _ => 0) (fun _ => 0) (fun _ => 0) (fun _ => 0)) (fun i : Nat => (if i = 0 then a else (if i = 1 then q6 else (if i = 2 then q27 else (if i = 3 then q35 else (if i = 4 then q43 else (if i = 5 then q51 else (if i = 6 then q57 else (if i = 7 then ((u_61).1) else (if i = 8 then ((u_61).2.1) else (if i = 9 then ((u_61).2.2.1) else (if i = 10 then ((u_61).2.2.2) else 0)))))))))))) hx hb hr hlocks rfl hP hK hD hS dX3_init_67
