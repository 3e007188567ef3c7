variable {l : Launch} {dC : Nat → ClassId} {dI : Nat → Nat → Nat} {cI cJ cZ : ClassId}
variable {q : Nat → Nat} {ln cw ic bs ss : Int32} {se we un sf pa : Nat → Int32}
variable {ct : Int32} {ov gf : Nat → Int64} {gi ta : Nat → Int32}
variable {k : Nat → Nat} {up lo : Int64} {cn tm : Int32} {isI br ma : Nat → Int32} {aU aL uU uL oU oL gU gL : Nat → Int64}

abbrev XS : Type := Int32 × Int32 × Int32 × Int32 × Int32 × (Nat → Int32) × (Nat → Int32) × (Nat → Int32) × (Nat → Int32) × (Nat → Int32)
abbrev xWt (cI : ClassId) (q : Nat → Nat) (u : XS) : va_W := xW cI q u.1 u.2.1 u.2.2.1 u.2.2.2.1 u.2.2.2.2.1 u.2.2.2.2.2.1 u.2.2.2.2.2.2.1 u.2.2.2.2.2.2.2.1 u.2.2.2.2.2.2.2.2.1 u.2.2.2.2.2.2.2.2.2
/-- of one that may be in the case -/
def xk (b : Nat → Prop) (v : Int32) (no : Prop) (yes : Nat → Prop) : Prop := (∃ j, j < 6 ∧ v = nI j ∧ b j ∧ yes j) ∨ ((¬ ∃ j, j < 6 ∧ v = nI j ∧ b j) ∧ no)
def x_fill (unit am : Int32) (sf : Nat → Int32) : Nat → (Nat → Int32)
  | 0 => sf
  | i + 1 => if bt unit i = true then upd (x_fill unit am sf i) i am else x_fill unit am sf i
def x_part (unit : Int32) (un : Nat → Int32) : Nat → (Nat → Int32)
  | 0 => un
  | i + 1 => if bt unit i = true then upd (x_part unit un i) i (x_bit i) else x_part unit un i
def pc1 (x : Int32) : Int32 := x - (((x).toUInt32 >>> ((1 : Int32).toUInt32 &&& Int32.toUInt32 31)).toInt32 &&& 1431655765)
def pc2 (x : Int32) : Int32 := (x &&& 858993459) + (((x).toUInt32 >>> ((2 : Int32).toUInt32 &&& Int32.toUInt32 31)).toInt32 &&& 858993459)
def pc3 (x : Int32) : Int32 := (x + ((x).toUInt32 >>> ((4 : Int32).toUInt32 &&& Int32.toUInt32 31)).toInt32) &&& 252645135
def pc4 (x : Int32) : Int32 := x + ((x).toUInt32 >>> ((8 : Int32).toUInt32 &&& Int32.toUInt32 31)).toInt32
def pc5 (x : Int32) : Int32 := x + ((x).toUInt32 >>> ((16 : Int32).toUInt32 &&& Int32.toUInt32 31)).toInt32
def x_pc (x : Int32) : Int32 := pc5 (pc4 (pc3 (pc2 (pc1 x)))) &&& 63
set_option maxHeartbeats 4000000 in
set_option maxRecDepth 100000 in
theorem c_J6_bitCount_0f7a4 (x : Int32) : Met l yJ6_bitCount_0f7a4 (wT yJ6_bitCount_0f7a4 cJ6_bitCount_0f7a4 1 (some .int)) ({ frames := 0, cells := 0, slots := 0, locals := 0 }) (pR (dC, dI) (ty3 cI cJ cZ) ([] : va_W) [.int x]) (vp_Si (fun r9 => r9 = x_pc x)) 0 0 (fun _ => False) := by
  refine Met.ofW (cc := cJ6_bitCount_0f7a4) (maxL := 1) (ret := (some .int)) (by decide) rfl ?_
  intro p e s m args below meth c s₁ B hml hv
  obtain ⟨rfl, hP, hK⟩ := hv
  have hx := B.exec
  have hb := B.bytes
  have hr := B.returns
  have hts := atoms_spec (ws := wT yJ6_bitCount_0f7a4 cJ6_bitCount_0f7a4 1 (some .int)) B.pre
  have hT := wT_T hts
  have hown : s.vm.findClass RJ6 = some m.cls := findClass_of_methodNamed B.named
  have hlocks := B.notSynchronized
  have hl := lv_entry ([.int x]) (n := 1) (Nat.le_of_ble_eq_true rfl)
  rw [lg_entry_eq]
  generalize (lg_sl ([.int x]) ++ List.replicate (1 - (lg_sl ([.int x])).length) Slot.unset).toArray = ls at hl ⊢
  have hl : lv_has ls 1 [(0, .int x)] := hl
  refine lv_iload_n hx hb dJ6_bitCount_0f7a4_0 rfl (lv_at hl 0 rfl) ?_
  refine lv_iload_n hx hb dJ6_bitCount_0f7a4_1 rfl (lv_at hl 0 rfl) ?_
  refine lv_iconst (v := 1) hx hb dJ6_bitCount_0f7a4_2 (by decide) ?_
  refine lv_iushr (v := ((x).toUInt32 >>> ((1 : Int32).toUInt32 &&& Int32.toUInt32 31)).toInt32) hx hb dJ6_bitCount_0f7a4_3 rfl ?_
  refine lv_ldcw hx hb hown (hT _ kk_J6_265) dJ6_bitCount_0f7a4_4 ?_
  refine lv_iand hx hb dJ6_bitCount_0f7a4_7 ?_
  refine lv_isub hx hb dJ6_bitCount_0f7a4_8 ?_
  refine topi_eq (y := (pc1 x)) rfl ?_
  refine lv_istore_n (lv' := [(0, .int (pc1 x))]) hx hb dJ6_bitCount_0f7a4_9 rfl hl (by decide) rfl (fun ls hl => ?_)
  refine lv_iload_n hx hb dJ6_bitCount_0f7a4_10 rfl (lv_at hl 0 rfl) ?_
  refine lv_ldcw hx hb hown (hT _ kk_J6_266) dJ6_bitCount_0f7a4_11 ?_
  refine lv_iand hx hb dJ6_bitCount_0f7a4_14 ?_
  refine lv_iload_n hx hb dJ6_bitCount_0f7a4_15 rfl (lv_at hl 0 rfl) ?_
  refine lv_iconst (v := 2) hx hb dJ6_bitCount_0f7a4_16 (by decide) ?_
  refine lv_iushr (v := (((pc1 x)).toUInt32 >>> ((2 : Int32).toUInt32 &&& Int32.toUInt32 31)).toInt32) hx hb dJ6_bitCount_0f7a4_17 rfl ?_
  refine lv_ldcw hx hb hown (hT _ kk_J6_266) dJ6_bitCount_0f7a4_18 ?_
  refine lv_iand hx hb dJ6_bitCount_0f7a4_21 ?_
  refine lv_iadd hx hb dJ6_bitCount_0f7a4_22 ?_
  refine topi_eq (y := (pc2 (pc1 x))) rfl ?_
  refine lv_istore_n (lv' := [(0, .int (pc2 (pc1 x)))]) hx hb dJ6_bitCount_0f7a4_23 rfl hl (by decide) rfl (fun ls hl => ?_)
  refine lv_iload_n hx hb dJ6_bitCount_0f7a4_24 rfl (lv_at hl 0 rfl) ?_
  refine lv_iload_n hx hb dJ6_bitCount_0f7a4_25 rfl (lv_at hl 0 rfl) ?_
  refine lv_iconst (v := 4) hx hb dJ6_bitCount_0f7a4_26 (by decide) ?_
  refine lv_iushr (v := (((pc2 (pc1 x))).toUInt32 >>> ((4 : Int32).toUInt32 &&& Int32.toUInt32 31)).toInt32) hx hb dJ6_bitCount_0f7a4_27 rfl ?_
  refine lv_iadd hx hb dJ6_bitCount_0f7a4_28 ?_
  refine lv_ldcw hx hb hown (hT _ kk_J6_267) dJ6_bitCount_0f7a4_29 ?_
  refine lv_iand hx hb dJ6_bitCount_0f7a4_32 ?_
  refine topi_eq (y := (pc3 (pc2 (pc1 x)))) rfl ?_
  refine lv_istore_n (lv' := [(0, .int (pc3 (pc2 (pc1 x))))]) hx hb dJ6_bitCount_0f7a4_33 rfl hl (by decide) rfl (fun ls hl => ?_)
  refine lv_iload_n hx hb dJ6_bitCount_0f7a4_34 rfl (lv_at hl 0 rfl) ?_
  refine lv_iload_n hx hb dJ6_bitCount_0f7a4_35 rfl (lv_at hl 0 rfl) ?_
  refine lv_bipush (v := 8) hx hb dJ6_bitCount_0f7a4_36 (by decide) ?_
  refine lv_iushr (v := (((pc3 (pc2 (pc1 x)))).toUInt32 >>> ((8 : Int32).toUInt32 &&& Int32.toUInt32 31)).toInt32) hx hb dJ6_bitCount_0f7a4_38 rfl ?_
  refine lv_iadd hx hb dJ6_bitCount_0f7a4_39 ?_
  refine topi_eq (y := (pc4 (pc3 (pc2 (pc1 x))))) rfl ?_
  refine lv_istore_n (lv' := [(0, .int (pc4 (pc3 (pc2 (pc1 x)))))]) hx hb dJ6_bitCount_0f7a4_40 rfl hl (by decide) rfl (fun ls hl => ?_)
  refine lv_iload_n hx hb dJ6_bitCount_0f7a4_41 rfl (lv_at hl 0 rfl) ?_
  refine lv_iload_n hx hb dJ6_bitCount_0f7a4_42 rfl (lv_at hl 0 rfl) ?_
  refine lv_bipush (v := 16) hx hb dJ6_bitCount_0f7a4_43 (by decide) ?_
  refine lv_iushr (v := (((pc4 (pc3 (pc2 (pc1 x))))).toUInt32 >>> ((16 : Int32).toUInt32 &&& Int32.toUInt32 31)).toInt32) hx hb dJ6_bitCount_0f7a4_45 rfl ?_
  refine lv_iadd hx hb dJ6_bitCount_0f7a4_46 ?_
  refine topi_eq (y := (pc5 (pc4 (pc3 (pc2 (pc1 x)))))) rfl ?_
  refine lv_istore_n (lv' := [(0, .int (pc5 (pc4 (pc3 (pc2 (pc1 x))))))]) hx hb dJ6_bitCount_0f7a4_47 rfl hl (by decide) rfl (fun ls hl => ?_)
  refine lv_iload_n hx hb dJ6_bitCount_0f7a4_48 rfl (lv_at hl 0 rfl) ?_
  refine lv_bipush (v := 63) hx hb dJ6_bitCount_0f7a4_49 (by decide) ?_
  refine lv_iand hx hb dJ6_bitCount_0f7a4_51 ?_
  exact retR_i hx hb hr hlocks rfl dJ6_bitCount_0f7a4_52
set_option maxHeartbeats 4000000 in
set_option maxRecDepth 100000 in
theorem c_X3_fillUnit (sz : Nat) (w : Nat) (am : Int32) (hw : w < 6) : Met l yX3_fillUnit (wT yX3_fillUnit cX3_fillUnit 5 none) ({ frames := 1, cells := 0, slots := 0, locals := 21 }) (pM (dC, dI) (ty3 cI cJ cZ) (xW cI q ln cw ic bs ss se we un sf pa) [.ref (q 0), .int (nI w), .int am] sz) (va_Qv (S := Unit) (fun _ => True) (fun u t9 => bM (dC, dI) (ty3 cI cJ cZ) (va_A (xW cI q ln cw ic bs ss se we un sf pa) sz) (xW cI q ln cw ic bs ss se we un (x_fill (un w) am sf 6) pa) t9) (va_A (xW cI q ln cw ic bs ss se we un sf pa) sz)) 0 0 (va_A (xW cI q ln cw ic bs ss se we un sf pa) sz) := by
  refine Met.ofW (cc := cX3_fillUnit) (maxL := 5) (ret := none) (by decide) rfl ?_
  intro p e s m args below meth c s₁ B hml hv
  obtain ⟨rfl, hsz, hP, hK, hD0⟩ := hv
  have hx := B.exec
  have hb := B.bytes
  have hr := B.returns
  have hts := atoms_spec (ws := wT yX3_fillUnit cX3_fillUnit 5 none) B.pre
  have hT := wT_T hts
  have hown : s.vm.findClass RX3 = some m.cls := findClass_of_methodNamed B.named
  have hlocks := B.notSynchronized
  subst hsz
  have hD := hD0.self (sz := s.heap.size)
  generalize hAe : va_A (xW cI q ln cw ic bs ss se we un sf pa) s.heap.size = A at hD ⊢
  have hA : ∀ q : Nat, s.heap.size ≤ q → A q := fun q h => by rw [← hAe]; exact Or.inr h
  have hS : va_S A s.heap s.heap [] := va_S.rf
  have hl := lv_entry ([.ref (q 0), .int (nI w), .int am]) (n := 5) (Nat.le_of_ble_eq_true rfl)
  rw [lg_entry_eq]
  generalize (lg_sl ([.ref (q 0), .int (nI w), .int am]) ++ List.replicate (5 - (lg_sl ([.ref (q 0), .int (nI w), .int am])).length) Slot.unset).toArray = ls at hl ⊢
  have hl : lv_has ls 5 [(0, .ref (q 0)), (1, .int (nI w)), (2, .int am)] := hl
  refine lv_aload_n hx hb dX3_fillUnit_0 rfl (lv_at hl 0 rfl) ?_
  refine va_get (D := (dC, dI)) (ci := 3) (v := .ref (q 3)) (C := RX3) (T := TX3) (N := 11) hx hb hT hiX3 hown hK hP 0 rfl rfl 7 (by decide) (hT _ kf_X3_18) (fun _ h9 => h9) rfl dX3_fillUnit_1 ?_
  refine lv_iload_n hx hb dX3_fillUnit_4 rfl (lv_at hl 1 rfl) ?_
  refine ald_i hx hb hK hP 3 0 rfl rfl (by decide) (w := w) rfl (by omega) dX3_fillUnit_5 ?_
  refine lv_istore_n (lv' := [(3, .int (un w)), (0, .ref (q 0)), (1, .int (nI w)), (2, .int am)]) hx hb dX3_fillUnit_6 rfl hl (by decide) rfl (fun ls hl => ?_)
  refine lv_iconst (v := 0) hx hb dX3_fillUnit_7 (by decide) ?_
  refine lv_istore (lv' := [(4, .int 0), (3, .int (un w)), (0, .ref (q 0)), (1, .int (nI w)), (2, .int am)]) hx hb dX3_fillUnit_8 hl (by decide) rfl (fun ls hl => ?_)
  refine loopM (fun nn ls H locs => ∃ i : Nat, i ≤ 6 ∧ nn = 6 - i ∧ lv_has ls 5 [(4, .int (nI i)), (3, .int (un w)), (0, .ref (q 0)), (1, .int (nI w)), (2, .int am)] ∧ va_P (dC, dI) vwCl (xW cI q ln cw ic bs ss se we un (x_fill (un w) am sf i) pa) H ∧ va_D A (xW cI q ln cw ic bs ss se we un (x_fill (un w) am sf i) pa) ∧ va_S A s.heap H locs) (n0 := 6) ⟨0, Nat.zero_le _, rfl, lv_sub hl [0, 1, 2, 3, 4] rfl, hP, hD, hS⟩ (fun nn ls H locs hI ih => ?_)
  obtain ⟨i, hle, hn9, hl, hP, hD, hS⟩ := hI
  rcases Nat.lt_or_ge i 6 with hi | hge
  · refine lv_iload hx hb dX3_fillUnit_10 (lv_at hl 0 rfl) ?_
    refine lv_bipush (v := 6) hx hb dX3_fillUnit_12 (by decide) ?_
    refine lv_icmp_ge (tgt := 40) hx hb dX3_fillUnit_14 (by decide) (fun h => absurd h (nI_ge (b := 6) hi (by decide))) (fun c_14 => ?_)
    refine lv_iload_n hx hb dX3_fillUnit_17 rfl (lv_at hl 1 rfl) ?_
    refine lv_iload hx hb dX3_fillUnit_18 (lv_at hl 0 rfl) ?_
    refine vp_callSi (rRS (As := [.int (un w), .int (nI i)]) (rest := []) ⟨hx, hb, hml, hown, hT⟩ (c_X3_has (l := l) (un w) i (by first | assumption | omega)) (cwTS 2 hT kc_X3_has km_X3_49 kt_X3_has kn_X3 rfl rfl md_X3_has ⟨Nat.le_of_ble_eq_true rfl, Nat.le_of_ble_eq_true rfl⟩) nilP hK  rfl hl.1 rfl (Nat.le_of_ble_eq_true rfl) dX3_fillUnit_20 ⟨Nat.le_of_ble_eq_true rfl, Nat.le_of_ble_eq_true rfl⟩) (fun r_20 hw_20 => ?_)
    rcases hw_20 with ⟨rfl, hw_20⟩ | ⟨rfl, hw_20⟩
    · refine lv_if_eq (tgt := 34) hx hb dX3_fillUnit_23 (by decide) (fun h => absurd h (by decide)) (fun c_23 => ?_)
      refine lv_aload_n hx hb dX3_fillUnit_26 rfl (lv_at hl 2 rfl) ?_
      refine va_get (D := (dC, dI)) (ci := 3) (v := .ref (q 4)) (C := RX3) (T := TX3) (N := 11) hx hb hT hiX3 hown hK hP 0 rfl rfl 8 (by decide) (hT _ kf_X3_21) (fun _ h9 => h9) rfl dX3_fillUnit_27 ?_
      refine lv_iload hx hb dX3_fillUnit_30 (lv_at hl 0 rfl) ?_
      refine lv_iload_n hx hb dX3_fillUnit_32 rfl (lv_at hl 4 rfl) ?_
      refine ast_i hx hb hK hP hD hS 4 0 rfl rfl (by decide) (w := i) rfl (by omega) dX3_fillUnit_33 (fun H locs hP hD hS => ?_)
      have hP : va_P (dC, dI) vwCl (xW cI q ln cw ic bs ss se we un (upd (x_fill (un w) am sf i) i am) pa) H := hP
      have hD : va_D A (xW cI q ln cw ic bs ss se we un (upd (x_fill (un w) am sf i) i am) pa) := hD
      refine lv_iinc (v := (nI (i + 1))) (lv' := [(4, .int (nI (i + 1))), (3, .int (un w)), (0, .ref (q 0)), (1, .int (nI w)), (2, .int am)]) hx hb dX3_fillUnit_34 hl (k := 0) rfl (nI_1 i) (by decide) rfl (fun ls hl => ?_)
      refine lv_goto (tgt := 10) hx hb dX3_fillUnit_37 (by decide) ?_
      have ew0 : upd (x_fill (un w) am sf i) i am = (x_fill (un w) am sf (i + 1)) := by simp only [x_fill, hw_20, ↓reduceIte, Bool.false_eq_true, i10]
      rw [ew0] at hP hD
      refine ih (6 - (i + 1)) ls H locs (by omega) ⟨(i + 1), by omega, rfl, ?_, hP, hD, hS⟩
      exact lv_sub hl [0, 1, 2, 3, 4] rfl
    · refine lv_if_eq (tgt := 34) hx hb dX3_fillUnit_23 (by decide) (fun c_23 => ?_) (fun h => absurd h (by decide))
      refine lv_iinc (v := (nI (i + 1))) (lv' := [(4, .int (nI (i + 1))), (3, .int (un w)), (0, .ref (q 0)), (1, .int (nI w)), (2, .int am)]) hx hb dX3_fillUnit_34 hl (k := 0) rfl (nI_1 i) (by decide) rfl (fun ls hl => ?_)
      refine lv_goto (tgt := 10) hx hb dX3_fillUnit_37 (by decide) ?_
      have ew0 : x_fill (un w) am sf i = (x_fill (un w) am sf (i + 1)) := by simp only [x_fill, hw_20, ↓reduceIte, Bool.false_eq_true, i10]
      rw [ew0] at hP hD
      refine ih (6 - (i + 1)) ls H locs (by omega) ⟨(i + 1), by omega, rfl, ?_, hP, hD, hS⟩
      exact lv_sub hl [0, 1, 2, 3, 4] rfl
  · have hE : i = 6 := by omega
    subst hE
    refine lv_iload hx hb dX3_fillUnit_10 (lv_at hl 0 rfl) ?_
    refine lv_bipush (v := 6) hx hb dX3_fillUnit_12 (by decide) ?_
    refine lv_icmp_ge (tgt := 40) hx hb dX3_fillUnit_14 (by decide) (fun c_14 => ?_) (fun h => absurd h (by decide))
    exact retM_v (S := Unit) (post := fun _ => True) (w2 := fun u => xW cI q ln cw ic bs ss se we un (x_fill (un w) am sf 6) pa) () hx hb hr hlocks trivial hP hK hD hS dX3_fillUnit_40
set_option maxHeartbeats 4000000 in
set_option maxRecDepth 100000 in
theorem c_X3_partUnit (sz : Nat) (w : Nat) (hw : w < 6) : Met l yX3_partUnit (wT yX3_partUnit cX3_partUnit 4 none) ({ frames := 1, cells := 0, slots := 0, locals := 21 }) (pM (dC, dI) (ty3 cI cJ cZ) (xW cI q ln cw ic bs ss se we un sf pa) [.ref (q 0), .int (nI w)] sz) (va_Qv (S := Unit) (fun _ => True) (fun u t9 => bM (dC, dI) (ty3 cI cJ cZ) (va_A (xW cI q ln cw ic bs ss se we un sf pa) sz) (xW cI q ln cw ic bs ss se we (x_part (un w) un 6) sf pa) t9) (va_A (xW cI q ln cw ic bs ss se we un sf pa) sz)) 0 0 (va_A (xW cI q ln cw ic bs ss se we un sf pa) sz) := by
  refine Met.ofW (cc := cX3_partUnit) (maxL := 4) (ret := none) (by decide) rfl ?_
  intro p e s m args below meth c s₁ B hml hv
  obtain ⟨rfl, hsz, hP, hK, hD0⟩ := hv
  have hx := B.exec
  have hb := B.bytes
  have hr := B.returns
  have hts := atoms_spec (ws := wT yX3_partUnit cX3_partUnit 4 none) B.pre
  have hT := wT_T hts
  have hown : s.vm.findClass RX3 = some m.cls := findClass_of_methodNamed B.named
  have hlocks := B.notSynchronized
  subst hsz
  have hD := hD0.self (sz := s.heap.size)
  generalize hAe : va_A (xW cI q ln cw ic bs ss se we un sf pa) s.heap.size = A at hD ⊢
  have hA : ∀ q : Nat, s.heap.size ≤ q → A q := fun q h => by rw [← hAe]; exact Or.inr h
  have hS : va_S A s.heap s.heap [] := va_S.rf
  have hl := lv_entry ([.ref (q 0), .int (nI w)]) (n := 4) (Nat.le_of_ble_eq_true rfl)
  rw [lg_entry_eq]
  generalize (lg_sl ([.ref (q 0), .int (nI w)]) ++ List.replicate (4 - (lg_sl ([.ref (q 0), .int (nI w)])).length) Slot.unset).toArray = ls at hl ⊢
  have hl : lv_has ls 4 [(0, .ref (q 0)), (1, .int (nI w))] := hl
  refine lv_aload_n hx hb dX3_partUnit_0 rfl (lv_at hl 0 rfl) ?_
  refine va_get (D := (dC, dI)) (ci := 3) (v := .ref (q 3)) (C := RX3) (T := TX3) (N := 11) hx hb hT hiX3 hown hK hP 0 rfl rfl 7 (by decide) (hT _ kf_X3_18) (fun _ h9 => h9) rfl dX3_partUnit_1 ?_
  refine lv_iload_n hx hb dX3_partUnit_4 rfl (lv_at hl 1 rfl) ?_
  refine ald_i hx hb hK hP 3 0 rfl rfl (by decide) (w := w) rfl (by omega) dX3_partUnit_5 ?_
  refine lv_istore_n (lv' := [(2, .int (un w)), (0, .ref (q 0)), (1, .int (nI w))]) hx hb dX3_partUnit_6 rfl hl (by decide) rfl (fun ls hl => ?_)
  refine lv_iconst (v := 0) hx hb dX3_partUnit_7 (by decide) ?_
  refine lv_istore_n (lv' := [(3, .int 0), (2, .int (un w)), (0, .ref (q 0)), (1, .int (nI w))]) hx hb dX3_partUnit_8 rfl hl (by decide) rfl (fun ls hl => ?_)
  refine loopM (fun nn ls H locs => ∃ i : Nat, i ≤ 6 ∧ nn = 6 - i ∧ lv_has ls 4 [(3, .int (nI i)), (2, .int (un w)), (0, .ref (q 0)), (1, .int (nI w))] ∧ va_P (dC, dI) vwCl (xW cI q ln cw ic bs ss se we (x_part (un w) un i) sf pa) H ∧ va_D A (xW cI q ln cw ic bs ss se we (x_part (un w) un i) sf pa) ∧ va_S A s.heap H locs) (n0 := 6) ⟨0, Nat.zero_le _, rfl, lv_sub hl [0, 1, 2, 3] rfl, hP, hD, hS⟩ (fun nn ls H locs hI ih => ?_)
  obtain ⟨i, hle, hn9, hl, hP, hD, hS⟩ := hI
  rcases Nat.lt_or_ge i 6 with hi | hge
  · refine lv_iload_n hx hb dX3_partUnit_9 rfl (lv_at hl 0 rfl) ?_
    refine lv_bipush (v := 6) hx hb dX3_partUnit_10 (by decide) ?_
    refine lv_icmp_ge (tgt := 39) hx hb dX3_partUnit_12 (by decide) (fun h => absurd h (nI_ge (b := 6) hi (by decide))) (fun c_12 => ?_)
    refine lv_iload_n hx hb dX3_partUnit_15 rfl (lv_at hl 1 rfl) ?_
    refine lv_iload_n hx hb dX3_partUnit_16 rfl (lv_at hl 0 rfl) ?_
    refine vp_callSi (rRS (As := [.int (un w), .int (nI i)]) (rest := []) ⟨hx, hb, hml, hown, hT⟩ (c_X3_has (l := l) (un w) i (by first | assumption | omega)) (cwTS 2 hT kc_X3_has km_X3_49 kt_X3_has kn_X3 rfl rfl md_X3_has ⟨Nat.le_of_ble_eq_true rfl, Nat.le_of_ble_eq_true rfl⟩) nilP hK  rfl hl.1 rfl (Nat.le_of_ble_eq_true rfl) dX3_partUnit_17 ⟨Nat.le_of_ble_eq_true rfl, Nat.le_of_ble_eq_true rfl⟩) (fun r_17 hw_17 => ?_)
    rcases hw_17 with ⟨rfl, hw_17⟩ | ⟨rfl, hw_17⟩
    · refine lv_if_eq (tgt := 33) hx hb dX3_partUnit_20 (by decide) (fun h => absurd h (by decide)) (fun c_20 => ?_)
      refine lv_aload_n hx hb dX3_partUnit_23 rfl (lv_at hl 2 rfl) ?_
      refine va_get (D := (dC, dI)) (ci := 3) (v := .ref (q 3)) (C := RX3) (T := TX3) (N := 11) hx hb hT hiX3 hown hK hP 0 rfl rfl 7 (by decide) (hT _ kf_X3_18) (fun _ h9 => h9) rfl dX3_partUnit_24 ?_
      refine lv_iload_n hx hb dX3_partUnit_27 rfl (lv_at hl 0 rfl) ?_
      refine lv_iload_n hx hb dX3_partUnit_28 rfl (lv_at hl 0 rfl) ?_
      refine vp_callSi (rRS (As := [.int (nI i)]) (rest := [.int (nI i), .ref (q 3)]) ⟨hx, hb, hml, hown, hT⟩ (c_X3_bit (l := l) i) (cwTS 1 hT kc_X3_bit km_X3_53 kt_X3_bit kn_X3 rfl rfl md_X3_bit ⟨Nat.le_of_ble_eq_true rfl, Nat.le_of_ble_eq_true rfl⟩) nilP hK  rfl hl.1 rfl (Nat.le_of_ble_eq_true rfl) dX3_partUnit_29 ⟨Nat.le_of_ble_eq_true rfl, Nat.le_of_ble_eq_true rfl⟩) (fun r_29 hw_29 => ?_)
      subst hw_29
      refine ast_i hx hb hK hP hD hS 3 0 rfl rfl (by decide) (w := i) rfl (by omega) dX3_partUnit_32 (fun H locs hP hD hS => ?_)
      have hP : va_P (dC, dI) vwCl (xW cI q ln cw ic bs ss se we (upd (x_part (un w) un i) i (x_bit i)) sf pa) H := hP
      have hD : va_D A (xW cI q ln cw ic bs ss se we (upd (x_part (un w) un i) i (x_bit i)) sf pa) := hD
      refine lv_iinc (v := (nI (i + 1))) (lv' := [(3, .int (nI (i + 1))), (2, .int (un w)), (0, .ref (q 0)), (1, .int (nI w))]) hx hb dX3_partUnit_33 hl (k := 0) rfl (nI_1 i) (by decide) rfl (fun ls hl => ?_)
      refine lv_goto (tgt := 9) hx hb dX3_partUnit_36 (by decide) ?_
      have ew0 : upd (x_part (un w) un i) i (x_bit i) = (x_part (un w) un (i + 1)) := by simp only [x_part, hw_17, ↓reduceIte, Bool.false_eq_true, i10]
      rw [ew0] at hP hD
      refine ih (6 - (i + 1)) ls H locs (by omega) ⟨(i + 1), by omega, rfl, ?_, hP, hD, hS⟩
      exact lv_sub hl [0, 1, 2, 3] rfl
    · refine lv_if_eq (tgt := 33) hx hb dX3_partUnit_20 (by decide) (fun c_20 => ?_) (fun h => absurd h (by decide))
      refine lv_iinc (v := (nI (i + 1))) (lv' := [(3, .int (nI (i + 1))), (2, .int (un w)), (0, .ref (q 0)), (1, .int (nI w))]) hx hb dX3_partUnit_33 hl (k := 0) rfl (nI_1 i) (by decide) rfl (fun ls hl => ?_)
      refine lv_goto (tgt := 9) hx hb dX3_partUnit_36 (by decide) ?_
      have ew0 : x_part (un w) un i = (x_part (un w) un (i + 1)) := by simp only [x_part, hw_17, ↓reduceIte, Bool.false_eq_true, i10]
      rw [ew0] at hP hD
      refine ih (6 - (i + 1)) ls H locs (by omega) ⟨(i + 1), by omega, rfl, ?_, hP, hD, hS⟩
      exact lv_sub hl [0, 1, 2, 3] rfl
  · have hE : i = 6 := by omega
    subst hE
    refine lv_iload_n hx hb dX3_partUnit_9 rfl (lv_at hl 0 rfl) ?_
    refine lv_bipush (v := 6) hx hb dX3_partUnit_10 (by decide) ?_
    refine lv_icmp_ge (tgt := 39) hx hb dX3_partUnit_12 (by decide) (fun c_12 => ?_) (fun h => absurd h (by decide))
    exact retM_v (S := Unit) (post := fun _ => True) (w2 := fun u => xW cI q ln cw ic bs ss se we (x_part (un w) un 6) sf pa) () hx hb hr hlocks trivial hP hK hD hS dX3_partUnit_39
set_option maxHeartbeats 4000000 in
set_option maxRecDepth 100000 in
theorem c_X3_openUnit (sz : Nat) (w : Nat) (hw : w < 6) : Met l yX3_openUnit (wT yX3_openUnit cX3_openUnit 2 none) ({ frames := 2, cells := 0, slots := 0, locals := 45 }) (pM (dC, dI) (ty3 cI cJ cZ) (xW cI q ln cw ic bs ss se we un sf pa) [.ref (q 0), .int (nI w)] sz) (va_Qv (S := Unit) (fun _ => True) (fun u t9 => bM (dC, dI) (ty3 cI cJ cZ) (va_A (xW cI q ln cw ic bs ss se we un sf pa) sz) (xW cI q ln cw ic bs (ss &&& (un w ^^^ (-1))) se we un (x_fill (un w) 0 sf 6) pa) t9) (va_A (xW cI q ln cw ic bs ss se we un sf pa) sz)) 0 0 (va_A (xW cI q ln cw ic bs ss se we un sf pa) sz) := by
  refine Met.ofW (cc := cX3_openUnit) (maxL := 2) (ret := none) (by decide) rfl ?_
  intro p e s m args below meth c s₁ B hml hv
  obtain ⟨rfl, hsz, hP, hK, hD0⟩ := hv
  have hx := B.exec
  have hb := B.bytes
  have hr := B.returns
  have hts := atoms_spec (ws := wT yX3_openUnit cX3_openUnit 2 none) B.pre
  have hT := wT_T hts
  have hown : s.vm.findClass RX3 = some m.cls := findClass_of_methodNamed B.named
  have hlocks := B.notSynchronized
  subst hsz
  have hD := hD0.self (sz := s.heap.size)
  generalize hAe : va_A (xW cI q ln cw ic bs ss se we un sf pa) s.heap.size = A at hD ⊢
  have hA : ∀ q : Nat, s.heap.size ≤ q → A q := fun q h => by rw [← hAe]; exact Or.inr h
  have hS : va_S A s.heap s.heap [] := va_S.rf
  have hl := lv_entry ([.ref (q 0), .int (nI w)]) (n := 2) (Nat.le_of_ble_eq_true rfl)
  rw [lg_entry_eq]
  generalize (lg_sl ([.ref (q 0), .int (nI w)]) ++ List.replicate (2 - (lg_sl ([.ref (q 0), .int (nI w)])).length) Slot.unset).toArray = ls at hl ⊢
  have hl : lv_has ls 2 [(0, .ref (q 0)), (1, .int (nI w))] := hl
  refine lv_aload_n hx hb dX3_openUnit_0 rfl (lv_at hl 0 rfl) ?_
  refine lv_dup hx hb dX3_openUnit_1 rfl ?_
  refine va_get (D := (dC, dI)) (ci := 3) (v := .int ss) (C := RX3) (T := TX3) (N := 11) hx hb hT hiX3 hown hK hP 0 rfl rfl 5 (by decide) (hT _ kf_X3_79) (fun _ h9 => h9) rfl dX3_openUnit_2 ?_
  refine lv_aload_n hx hb dX3_openUnit_5 rfl (lv_at hl 0 rfl) ?_
  refine va_get (D := (dC, dI)) (ci := 3) (v := .ref (q 3)) (C := RX3) (T := TX3) (N := 11) hx hb hT hiX3 hown hK hP 0 rfl rfl 7 (by decide) (hT _ kf_X3_18) (fun _ h9 => h9) rfl dX3_openUnit_6 ?_
  refine lv_iload_n hx hb dX3_openUnit_9 rfl (lv_at hl 1 rfl) ?_
  refine ald_i hx hb hK hP 3 0 rfl rfl (by decide) (w := w) rfl (by omega) dX3_openUnit_10 ?_
  refine lv_iconst (v := (-1)) hx hb dX3_openUnit_11 (by decide) ?_
  refine lv_ixor hx hb dX3_openUnit_12 ?_
  refine lv_iand hx hb dX3_openUnit_13 ?_
  refine va_put (D := (dC, dI)) (ci := 3) (v := .int (ss &&& ((un w) ^^^ (-1)))) (ty := .int) (C := RX3) (T := TX3) (N := 11) hx hb hT hiX3 tyX3 tyX3_ok nmX3 hown hK hP hD hS 0 rfl rfl 5 (by decide) (hT _ kf_X3_79) (fun _ h9 => h9) rfl (by decide +kernel) rfl rfl (Nat.le_of_ble_eq_true rfl) dX3_openUnit_14 (fun H locs hP hD hS => ?_)
  have hP : va_P (dC, dI) vwCl (xW cI q ln cw ic bs (ss &&& ((un w) ^^^ (-1))) se we un sf pa) H := hP
  have hD : va_D A (xW cI q ln cw ic bs (ss &&& ((un w) ^^^ (-1))) se we un sf pa) := hD
  refine lv_aload_n hx hb dX3_openUnit_17 rfl (lv_at hl 0 rfl) ?_
  refine lv_iload_n hx hb dX3_openUnit_18 rfl (lv_at hl 1 rfl) ?_
  refine lv_iconst (v := 0) hx hb dX3_openUnit_19 (by decide) ?_
  refine fM_v (wc := xW cI q ln cw ic bs (ss &&& ((un w) ^^^ (-1))) se we un sf pa) (wr := []) (rMV (wc := xW cI q ln cw ic bs (ss &&& ((un w) ^^^ (-1))) se we un sf pa) (As := [.int (nI w), .int 0]) (rest := []) ⟨hx, hb, hml, hown, hT⟩ (c_X3_fillUnit (l := l) H.size w 0 (by first | assumption | omega)) (cwTV 2 hT kc_X3_fillUnit km_X3_86 ki_X3_fillUnit ks_X3_fillUnit kn_X3 rfl rfl md_X3_fillUnit ⟨Nat.le_of_ble_eq_true rfl, Nat.le_of_ble_eq_true rfl⟩) hP hD hK (va_recv hK hP (ci := 3) (q0 := 0) rfl rfl) rfl hl.1 rfl (Nat.le_of_ble_eq_true rfl) dX3_openUnit_20 ⟨Nat.le_of_ble_eq_true rfl, Nat.le_of_ble_eq_true rfl⟩) hP hD hS hA (fun u_20 H locs hw_20 hP hD hS => ?_)
  have hP : va_P (dC, dI) vwCl (xW cI q ln cw ic bs (ss &&& ((un w) ^^^ (-1))) se we un (x_fill (un w) 0 sf 6) pa) H := hP
  have hD : va_D A (xW cI q ln cw ic bs (ss &&& ((un w) ^^^ (-1))) se we un (x_fill (un w) 0 sf 6) pa) := hD
  exact retM_v (S := Unit) (post := fun _ => True) (w2 := fun u => xW cI q ln cw ic bs (ss &&& (un w ^^^ (-1))) se we un (x_fill (un w) 0 sf 6) pa) () hx hb hr hlocks trivial hP hK hD hS dX3_openUnit_23
set_option maxHeartbeats 4000000 in
set_option maxRecDepth 100000 in
theorem c_X3_loss (sz : Nat) (v : Int32) : Met l yX3_loss (wT yX3_loss cX3_loss 3 (some .int)) ({ frames := 1, cells := 0, slots := 0, locals := 22 }) (pM (dC, dI) (ty3 cI cJ cZ) (xW cI q ln cw ic bs ss se we un sf pa) [.ref (q 0), .int v] sz) (va_Qi (S := XS) (fun r u => ((v < 0 ∨ 1000000 < v) ∧ r = -2 ∧ u = (ln, cw, ic, bs, ss, se, we, un, sf, pa)) ∨ (¬ (v < 0 ∨ 1000000 < v) ∧ r = ln ∧ u = (v, cw, ic, bs, ss, se, we, un, sf, pa))) (fun u t9 => bM (dC, dI) (ty3 cI cJ cZ) (va_A (xW cI q ln cw ic bs ss se we un sf pa) sz) (xWt cI q u) t9) (va_A (xW cI q ln cw ic bs ss se we un sf pa) sz)) 0 0 (va_A (xW cI q ln cw ic bs ss se we un sf pa) sz) := by
  refine Met.ofW (cc := cX3_loss) (maxL := 3) (ret := (some .int)) (by decide) rfl ?_
  intro p e s m args below meth c s₁ B hml hv
  obtain ⟨rfl, hsz, hP, hK, hD0⟩ := hv
  have hx := B.exec
  have hb := B.bytes
  have hr := B.returns
  have hts := atoms_spec (ws := wT yX3_loss cX3_loss 3 (some .int)) B.pre
  have hT := wT_T hts
  have hown : s.vm.findClass RX3 = some m.cls := findClass_of_methodNamed B.named
  have hlocks := B.notSynchronized
  subst hsz
  have hD := hD0.self (sz := s.heap.size)
  generalize hAe : va_A (xW cI q ln cw ic bs ss se we un sf pa) s.heap.size = A at hD ⊢
  have hA : ∀ q : Nat, s.heap.size ≤ q → A q := fun q h => by rw [← hAe]; exact Or.inr h
  have hS : va_S A s.heap s.heap [] := va_S.rf
  have hl := lv_entry ([.ref (q 0), .int v]) (n := 3) (Nat.le_of_ble_eq_true rfl)
  rw [lg_entry_eq]
  generalize (lg_sl ([.ref (q 0), .int v]) ++ List.replicate (3 - (lg_sl ([.ref (q 0), .int v])).length) Slot.unset).toArray = ls at hl ⊢
  have hl : lv_has ls 3 [(0, .ref (q 0)), (1, .int v)] := hl
  refine lv_iload_n hx hb dX3_loss_0 rfl (lv_at hl 1 rfl) ?_
  refine lv_iconst (v := 0) hx hb dX3_loss_1 (by decide) ?_
  refine lv_ldc hx hb hown (hT _ kk_X3_34) dX3_loss_2 ?_
  refine vp_callSi (rRS (As := [.int v, .int 0, .int 1000000]) (rest := []) ⟨hx, hb, hml, hown, hT⟩ (c_X3_isOutside (l := l) v 0 1000000) (cwTS 3 hT kc_X3_isOutside km_X3_35 kt_X3_isOutside kn_X3 rfl rfl md_X3_isOutside ⟨Nat.le_of_ble_eq_true rfl, Nat.le_of_ble_eq_true rfl⟩) nilP hK  rfl hl.1 rfl (Nat.le_of_ble_eq_true rfl) dX3_loss_4 ⟨Nat.le_of_ble_eq_true rfl, Nat.le_of_ble_eq_true rfl⟩) (fun r_4 hw_4 => ?_)
  rcases hw_4 with ⟨rfl, hw_4⟩ | ⟨rfl, hw_4⟩
  · refine lv_if_eq (tgt := 13) hx hb dX3_loss_7 (by decide) (fun h => absurd h (by decide)) (fun c_7 => ?_)
    refine lv_bipush (v := (-2)) hx hb dX3_loss_10 (by decide) ?_
    exact retM_i (S := XS) (post := fun r u => ((v < 0 ∨ 1000000 < v) ∧ r = -2 ∧ u = (ln, cw, ic, bs, ss, se, we, un, sf, pa)) ∨ (¬ (v < 0 ∨ 1000000 < v) ∧ r = ln ∧ u = (v, cw, ic, bs, ss, se, we, un, sf, pa))) (w2 := fun u => xWt cI q u) (ln, cw, ic, bs, ss, se, we, un, sf, pa) hx hb hr hlocks (by first | exact Or.inl ⟨hw_4, rfl, rfl⟩ | exact Or.inr ⟨hw_4, rfl, rfl⟩) hP hK hD hS dX3_loss_12
  · refine lv_if_eq (tgt := 13) hx hb dX3_loss_7 (by decide) (fun c_7 => ?_) (fun h => absurd h (by decide))
    refine lv_aload_n hx hb dX3_loss_13 rfl (lv_at hl 0 rfl) ?_
    refine va_get (D := (dC, dI)) (ci := 3) (v := .int ln) (C := RX3) (T := TX3) (N := 11) hx hb hT hiX3 hown hK hP 0 rfl rfl 0 (by decide) (hT _ kf_X3_39) (fun _ h9 => h9) rfl dX3_loss_14 ?_
    refine lv_istore_n (lv' := [(2, .int ln), (0, .ref (q 0)), (1, .int v)]) hx hb dX3_loss_17 rfl hl (by decide) rfl (fun ls hl => ?_)
    refine lv_aload_n hx hb dX3_loss_18 rfl (lv_at hl 1 rfl) ?_
    refine lv_iload_n hx hb dX3_loss_19 rfl (lv_at hl 2 rfl) ?_
    refine va_put (D := (dC, dI)) (ci := 3) (v := .int v) (ty := .int) (C := RX3) (T := TX3) (N := 11) hx hb hT hiX3 tyX3 tyX3_ok nmX3 hown hK hP hD hS 0 rfl rfl 0 (by decide) (hT _ kf_X3_39) (fun _ h9 => h9) rfl (by decide +kernel) rfl rfl (Nat.le_of_ble_eq_true rfl) dX3_loss_20 (fun H locs hP hD hS => ?_)
    have hP : va_P (dC, dI) vwCl (xW cI q v cw ic bs ss se we un sf pa) H := hP
    have hD : va_D A (xW cI q v cw ic bs ss se we un sf pa) := hD
    refine lv_iload_n hx hb dX3_loss_23 rfl (lv_at hl 0 rfl) ?_
    exact retM_i (S := XS) (post := fun r u => ((v < 0 ∨ 1000000 < v) ∧ r = -2 ∧ u = (ln, cw, ic, bs, ss, se, we, un, sf, pa)) ∨ (¬ (v < 0 ∨ 1000000 < v) ∧ r = ln ∧ u = (v, cw, ic, bs, ss, se, we, un, sf, pa))) (w2 := fun u => xWt cI q u) (v, cw, ic, bs, ss, se, we, un, sf, pa) hx hb hr hlocks (by first | exact Or.inl ⟨hw_4, rfl, rfl⟩ | exact Or.inr ⟨hw_4, rfl, rfl⟩) hP hK hD hS dX3_loss_24
set_option maxHeartbeats 4000000 in
set_option maxRecDepth 100000 in
theorem c_X3_claimant (sz : Nat) (v : Int32) : Met l yX3_claimant (wT yX3_claimant cX3_claimant 3 (some .int)) ({ frames := 1, cells := 0, slots := 0, locals := 22 }) (pM (dC, dI) (ty3 cI cJ cZ) (xW cI q ln cw ic bs ss se we un sf pa) [.ref (q 0), .int v] sz) (va_Qi (S := XS) (fun r u => ((v < 0 ∨ 100 < v) ∧ r = -2 ∧ u = (ln, cw, ic, bs, ss, se, we, un, sf, pa)) ∨ (¬ (v < 0 ∨ 100 < v) ∧ r = cw ∧ u = (ln, v, ic, bs, ss, se, we, un, sf, pa))) (fun u t9 => bM (dC, dI) (ty3 cI cJ cZ) (va_A (xW cI q ln cw ic bs ss se we un sf pa) sz) (xWt cI q u) t9) (va_A (xW cI q ln cw ic bs ss se we un sf pa) sz)) 0 0 (va_A (xW cI q ln cw ic bs ss se we un sf pa) sz) := by
  refine Met.ofW (cc := cX3_claimant) (maxL := 3) (ret := (some .int)) (by decide) rfl ?_
  intro p e s m args below meth c s₁ B hml hv
  obtain ⟨rfl, hsz, hP, hK, hD0⟩ := hv
  have hx := B.exec
  have hb := B.bytes
  have hr := B.returns
  have hts := atoms_spec (ws := wT yX3_claimant cX3_claimant 3 (some .int)) B.pre
  have hT := wT_T hts
  have hown : s.vm.findClass RX3 = some m.cls := findClass_of_methodNamed B.named
  have hlocks := B.notSynchronized
  subst hsz
  have hD := hD0.self (sz := s.heap.size)
  generalize hAe : va_A (xW cI q ln cw ic bs ss se we un sf pa) s.heap.size = A at hD ⊢
  have hA : ∀ q : Nat, s.heap.size ≤ q → A q := fun q h => by rw [← hAe]; exact Or.inr h
  have hS : va_S A s.heap s.heap [] := va_S.rf
  have hl := lv_entry ([.ref (q 0), .int v]) (n := 3) (Nat.le_of_ble_eq_true rfl)
  rw [lg_entry_eq]
  generalize (lg_sl ([.ref (q 0), .int v]) ++ List.replicate (3 - (lg_sl ([.ref (q 0), .int v])).length) Slot.unset).toArray = ls at hl ⊢
  have hl : lv_has ls 3 [(0, .ref (q 0)), (1, .int v)] := hl
  refine lv_iload_n hx hb dX3_claimant_0 rfl (lv_at hl 1 rfl) ?_
  refine lv_iconst (v := 0) hx hb dX3_claimant_1 (by decide) ?_
  refine lv_bipush (v := 100) hx hb dX3_claimant_2 (by decide) ?_
  refine vp_callSi (rRS (As := [.int v, .int 0, .int 100]) (rest := []) ⟨hx, hb, hml, hown, hT⟩ (c_X3_isOutside (l := l) v 0 100) (cwTS 3 hT kc_X3_isOutside km_X3_35 kt_X3_isOutside kn_X3 rfl rfl md_X3_isOutside ⟨Nat.le_of_ble_eq_true rfl, Nat.le_of_ble_eq_true rfl⟩) nilP hK  rfl hl.1 rfl (Nat.le_of_ble_eq_true rfl) dX3_claimant_4 ⟨Nat.le_of_ble_eq_true rfl, Nat.le_of_ble_eq_true rfl⟩) (fun r_4 hw_4 => ?_)
  rcases hw_4 with ⟨rfl, hw_4⟩ | ⟨rfl, hw_4⟩
  · refine lv_if_eq (tgt := 13) hx hb dX3_claimant_7 (by decide) (fun h => absurd h (by decide)) (fun c_7 => ?_)
    refine lv_bipush (v := (-2)) hx hb dX3_claimant_10 (by decide) ?_
    exact retM_i (S := XS) (post := fun r u => ((v < 0 ∨ 100 < v) ∧ r = -2 ∧ u = (ln, cw, ic, bs, ss, se, we, un, sf, pa)) ∨ (¬ (v < 0 ∨ 100 < v) ∧ r = cw ∧ u = (ln, v, ic, bs, ss, se, we, un, sf, pa))) (w2 := fun u => xWt cI q u) (ln, cw, ic, bs, ss, se, we, un, sf, pa) hx hb hr hlocks (by first | exact Or.inl ⟨hw_4, rfl, rfl⟩ | exact Or.inr ⟨hw_4, rfl, rfl⟩) hP hK hD hS dX3_claimant_12
  · refine lv_if_eq (tgt := 13) hx hb dX3_claimant_7 (by decide) (fun c_7 => ?_) (fun h => absurd h (by decide))
    refine lv_aload_n hx hb dX3_claimant_13 rfl (lv_at hl 0 rfl) ?_
    refine va_get (D := (dC, dI)) (ci := 3) (v := .int cw) (C := RX3) (T := TX3) (N := 11) hx hb hT hiX3 hown hK hP 0 rfl rfl 1 (by decide) (hT _ kf_X3_43) (fun _ h9 => h9) rfl dX3_claimant_14 ?_
    refine lv_istore_n (lv' := [(2, .int cw), (0, .ref (q 0)), (1, .int v)]) hx hb dX3_claimant_17 rfl hl (by decide) rfl (fun ls hl => ?_)
    refine lv_aload_n hx hb dX3_claimant_18 rfl (lv_at hl 1 rfl) ?_
    refine lv_iload_n hx hb dX3_claimant_19 rfl (lv_at hl 2 rfl) ?_
    refine va_put (D := (dC, dI)) (ci := 3) (v := .int v) (ty := .int) (C := RX3) (T := TX3) (N := 11) hx hb hT hiX3 tyX3 tyX3_ok nmX3 hown hK hP hD hS 0 rfl rfl 1 (by decide) (hT _ kf_X3_43) (fun _ h9 => h9) rfl (by decide +kernel) rfl rfl (Nat.le_of_ble_eq_true rfl) dX3_claimant_20 (fun H locs hP hD hS => ?_)
    have hP : va_P (dC, dI) vwCl (xW cI q ln v ic bs ss se we un sf pa) H := hP
    have hD : va_D A (xW cI q ln v ic bs ss se we un sf pa) := hD
    refine lv_iload_n hx hb dX3_claimant_23 rfl (lv_at hl 0 rfl) ?_
    exact retM_i (S := XS) (post := fun r u => ((v < 0 ∨ 100 < v) ∧ r = -2 ∧ u = (ln, cw, ic, bs, ss, se, we, un, sf, pa)) ∨ (¬ (v < 0 ∨ 100 < v) ∧ r = cw ∧ u = (ln, v, ic, bs, ss, se, we, un, sf, pa))) (w2 := fun u => xWt cI q u) (ln, v, ic, bs, ss, se, we, un, sf, pa) hx hb hr hlocks (by first | exact Or.inl ⟨hw_4, rfl, rfl⟩ | exact Or.inr ⟨hw_4, rfl, rfl⟩) hP hK hD hS dX3_claimant_24
set_option maxHeartbeats 4000000 in
set_option maxRecDepth 100000 in
theorem c_X3_wrong (sz : Nat) (v : Int32) : Met l yX3_wrong (wT yX3_wrong cX3_wrong 3 (some .int)) ({ frames := 1, cells := 0, slots := 0, locals := 22 }) (pM (dC, dI) (ty3 cI cJ cZ) (xW cI q ln cw ic bs ss se we un sf pa) [.ref (q 0), .int v] sz) (va_Qi (S := XS) (fun r u => ((v < 0 ∨ 100 < v) ∧ r = -2 ∧ u = (ln, cw, ic, bs, ss, se, we, un, sf, pa)) ∨ (¬ (v < 0 ∨ 100 < v) ∧ ((∃ w, w < 6 ∧ (∀ j, j < w → bt ic j = true) ∧ ¬ bt ic w = true ∧ r = nI w ∧ u = (ln, cw, (ic ||| x_bit w), bs, ss, se, (upd we w v), (upd un w (x_bit w)), sf, pa)) ∨ ((∀ j, j < 6 → bt ic j = true) ∧ r = -4 ∧ u = (ln, cw, ic, bs, ss, se, we, un, sf, pa))))) (fun u t9 => bM (dC, dI) (ty3 cI cJ cZ) (va_A (xW cI q ln cw ic bs ss se we un sf pa) sz) (xWt cI q u) t9) (va_A (xW cI q ln cw ic bs ss se we un sf pa) sz)) 0 0 (va_A (xW cI q ln cw ic bs ss se we un sf pa) sz) := by
  refine Met.ofW (cc := cX3_wrong) (maxL := 3) (ret := (some .int)) (by decide) rfl ?_
  intro p e s m args below meth c s₁ B hml hv
  obtain ⟨rfl, hsz, hP, hK, hD0⟩ := hv
  have hx := B.exec
  have hb := B.bytes
  have hr := B.returns
  have hts := atoms_spec (ws := wT yX3_wrong cX3_wrong 3 (some .int)) B.pre
  have hT := wT_T hts
  have hown : s.vm.findClass RX3 = some m.cls := findClass_of_methodNamed B.named
  have hlocks := B.notSynchronized
  subst hsz
  have hD := hD0.self (sz := s.heap.size)
  generalize hAe : va_A (xW cI q ln cw ic bs ss se we un sf pa) s.heap.size = A at hD ⊢
  have hA : ∀ q : Nat, s.heap.size ≤ q → A q := fun q h => by rw [← hAe]; exact Or.inr h
  have hS : va_S A s.heap s.heap [] := va_S.rf
  have hl := lv_entry ([.ref (q 0), .int v]) (n := 3) (Nat.le_of_ble_eq_true rfl)
  rw [lg_entry_eq]
  generalize (lg_sl ([.ref (q 0), .int v]) ++ List.replicate (3 - (lg_sl ([.ref (q 0), .int v])).length) Slot.unset).toArray = ls at hl ⊢
  have hl : lv_has ls 3 [(0, .ref (q 0)), (1, .int v)] := hl
  refine lv_iload_n hx hb dX3_wrong_0 rfl (lv_at hl 1 rfl) ?_
  refine lv_iconst (v := 0) hx hb dX3_wrong_1 (by decide) ?_
  refine lv_bipush (v := 100) hx hb dX3_wrong_2 (by decide) ?_
  refine vp_callSi (rRS (As := [.int v, .int 0, .int 100]) (rest := []) ⟨hx, hb, hml, hown, hT⟩ (c_X3_isOutside (l := l) v 0 100) (cwTS 3 hT kc_X3_isOutside km_X3_35 kt_X3_isOutside kn_X3 rfl rfl md_X3_isOutside ⟨Nat.le_of_ble_eq_true rfl, Nat.le_of_ble_eq_true rfl⟩) nilP hK  rfl hl.1 rfl (Nat.le_of_ble_eq_true rfl) dX3_wrong_4 ⟨Nat.le_of_ble_eq_true rfl, Nat.le_of_ble_eq_true rfl⟩) (fun r_4 hw_4 => ?_)
  rcases hw_4 with ⟨rfl, hw_4⟩ | ⟨rfl, hw_4⟩
  · refine lv_if_eq (tgt := 13) hx hb dX3_wrong_7 (by decide) (fun h => absurd h (by decide)) (fun c_7 => ?_)
    refine lv_bipush (v := (-2)) hx hb dX3_wrong_10 (by decide) ?_
    exact retM_i (S := XS) (post := fun r u => ((v < 0 ∨ 100 < v) ∧ r = -2 ∧ u = (ln, cw, ic, bs, ss, se, we, un, sf, pa)) ∨ (¬ (v < 0 ∨ 100 < v) ∧ ((∃ w, w < 6 ∧ (∀ j, j < w → bt ic j = true) ∧ ¬ bt ic w = true ∧ r = nI w ∧ u = (ln, cw, (ic ||| x_bit w), bs, ss, se, (upd we w v), (upd un w (x_bit w)), sf, pa)) ∨ ((∀ j, j < 6 → bt ic j = true) ∧ r = -4 ∧ u = (ln, cw, ic, bs, ss, se, we, un, sf, pa))))) (w2 := fun u => xWt cI q u) (ln, cw, ic, bs, ss, se, we, un, sf, pa) hx hb hr hlocks (by first | exact Or.inl ⟨hw_4, rfl, rfl⟩ | exact Or.inr ⟨hw_4, Or.inl ⟨i, hi, hf, hw_26, rfl, rfl⟩⟩ | exact Or.inr ⟨hw_4, Or.inr ⟨hf, rfl, rfl⟩⟩) hP hK hD hS dX3_wrong_12
  · refine lv_if_eq (tgt := 13) hx hb dX3_wrong_7 (by decide) (fun c_7 => ?_) (fun h => absurd h (by decide))
    refine lv_iconst (v := 0) hx hb dX3_wrong_13 (by decide) ?_
    refine lv_istore_n (lv' := [(2, .int 0), (0, .ref (q 0)), (1, .int v)]) hx hb dX3_wrong_14 rfl hl (by decide) rfl (fun ls hl => ?_)
    refine loopR 6 (fun i ls => lv_has ls 3 [(2, .int (nI i)), (0, .ref (q 0)), (1, .int v)] ∧ (∀ j, j < i → bt ic j = true)) (i0 := 0) (Nat.zero_le _) ⟨(lv_sub hl [0, 1, 2] rfl), fun j hj => absurd hj (Nat.not_lt_zero j)⟩ (fun i ls hi hl ih => ?_) (fun ls hl => ?_)
    · obtain ⟨hl, hf⟩ := hl
      refine lv_iload_n hx hb dX3_wrong_15 rfl (lv_at hl 0 rfl) ?_
      refine lv_bipush (v := 6) hx hb dX3_wrong_16 (by decide) ?_
      refine lv_icmp_ge (tgt := 70) hx hb dX3_wrong_18 (by decide) (fun h => absurd h (nI_ge (b := 6) hi (by decide))) (fun c_18 => ?_)
      refine lv_aload_n hx hb dX3_wrong_21 rfl (lv_at hl 1 rfl) ?_
      refine va_get (D := (dC, dI)) (ci := 3) (v := .int ic) (C := RX3) (T := TX3) (N := 11) hx hb hT hiX3 hown hK hP 0 rfl rfl 3 (by decide) (hT _ kf_X3_46) (fun _ h9 => h9) rfl dX3_wrong_22 ?_
      refine lv_iload_n hx hb dX3_wrong_25 rfl (lv_at hl 0 rfl) ?_
      refine vp_callSi (rRS (As := [.int ic, .int (nI i)]) (rest := []) ⟨hx, hb, hml, hown, hT⟩ (c_X3_has (l := l) ic i (by first | assumption | omega)) (cwTS 2 hT kc_X3_has km_X3_49 kt_X3_has kn_X3 rfl rfl md_X3_has ⟨Nat.le_of_ble_eq_true rfl, Nat.le_of_ble_eq_true rfl⟩) nilP hK  rfl hl.1 rfl (Nat.le_of_ble_eq_true rfl) dX3_wrong_26 ⟨Nat.le_of_ble_eq_true rfl, Nat.le_of_ble_eq_true rfl⟩) (fun r_26 hw_26 => ?_)
      rcases hw_26 with ⟨rfl, hw_26⟩ | ⟨rfl, hw_26⟩
      · refine lv_if_ne (tgt := 64) hx hb dX3_wrong_29 (by decide) (fun c_29 => ?_) (fun h => absurd h (by decide))
        refine lv_iinc (v := (nI (i + 1))) (lv' := [(2, .int (nI (i + 1))), (0, .ref (q 0)), (1, .int v)]) hx hb dX3_wrong_64 hl (k := 0) rfl (nI_1 i) (by decide) rfl (fun ls hl => ?_)
        refine lv_goto (tgt := 15) hx hb dX3_wrong_67 (by decide) ?_
        exact ih _ ⟨by exact lv_sub hl [0, 1, 2] rfl, lt_s hf hw_26⟩
      · refine lv_if_ne (tgt := 64) hx hb dX3_wrong_29 (by decide) (fun h => absurd h (by decide)) (fun c_29 => ?_)
        refine lv_aload_n hx hb dX3_wrong_32 rfl (lv_at hl 1 rfl) ?_
        refine lv_dup hx hb dX3_wrong_33 rfl ?_
        refine va_get (D := (dC, dI)) (ci := 3) (v := .int ic) (C := RX3) (T := TX3) (N := 11) hx hb hT hiX3 hown hK hP 0 rfl rfl 3 (by decide) (hT _ kf_X3_46) (fun _ h9 => h9) rfl dX3_wrong_34 ?_
        refine lv_iload_n hx hb dX3_wrong_37 rfl (lv_at hl 0 rfl) ?_
        refine vp_callSi (rRS (As := [.int (nI i)]) (rest := [.int ic, .ref (q 0)]) ⟨hx, hb, hml, hown, hT⟩ (c_X3_bit (l := l) i) (cwTS 1 hT kc_X3_bit km_X3_53 kt_X3_bit kn_X3 rfl rfl md_X3_bit ⟨Nat.le_of_ble_eq_true rfl, Nat.le_of_ble_eq_true rfl⟩) nilP hK  rfl hl.1 rfl (Nat.le_of_ble_eq_true rfl) dX3_wrong_38 ⟨Nat.le_of_ble_eq_true rfl, Nat.le_of_ble_eq_true rfl⟩) (fun r_38 hw_38 => ?_)
        subst hw_38
        refine lv_ior hx hb dX3_wrong_41 ?_
        refine va_put (D := (dC, dI)) (ci := 3) (v := .int (ic ||| (x_bit i))) (ty := .int) (C := RX3) (T := TX3) (N := 11) hx hb hT hiX3 tyX3 tyX3_ok nmX3 hown hK hP hD hS 0 rfl rfl 3 (by decide) (hT _ kf_X3_46) (fun _ h9 => h9) rfl (by decide +kernel) rfl rfl (Nat.le_of_ble_eq_true rfl) dX3_wrong_42 (fun H locs hP hD hS => ?_)
        have hP : va_P (dC, dI) vwCl (xW cI q ln cw (ic ||| (x_bit i)) bs ss se we un sf pa) H := hP
        have hD : va_D A (xW cI q ln cw (ic ||| (x_bit i)) bs ss se we un sf pa) := hD
        refine lv_aload_n hx hb dX3_wrong_45 rfl (lv_at hl 1 rfl) ?_
        refine va_get (D := (dC, dI)) (ci := 3) (v := .ref (q 2)) (C := RX3) (T := TX3) (N := 11) hx hb hT hiX3 hown hK hP 0 rfl rfl 6 (by decide) (hT _ kf_X3_15) (fun _ h9 => h9) rfl dX3_wrong_46 ?_
        refine lv_iload_n hx hb dX3_wrong_49 rfl (lv_at hl 0 rfl) ?_
        refine lv_iload_n hx hb dX3_wrong_50 rfl (lv_at hl 2 rfl) ?_
        refine ast_i hx hb hK hP hD hS 2 0 rfl rfl (by decide) (w := i) rfl (by omega) dX3_wrong_51 (fun H locs hP hD hS => ?_)
        have hP : va_P (dC, dI) vwCl (xW cI q ln cw (ic ||| (x_bit i)) bs ss se (upd we i v) un sf pa) H := hP
        have hD : va_D A (xW cI q ln cw (ic ||| (x_bit i)) bs ss se (upd we i v) un sf pa) := hD
        refine lv_aload_n hx hb dX3_wrong_52 rfl (lv_at hl 1 rfl) ?_
        refine va_get (D := (dC, dI)) (ci := 3) (v := .ref (q 3)) (C := RX3) (T := TX3) (N := 11) hx hb hT hiX3 hown hK hP 0 rfl rfl 7 (by decide) (hT _ kf_X3_18) (fun _ h9 => h9) rfl dX3_wrong_53 ?_
        refine lv_iload_n hx hb dX3_wrong_56 rfl (lv_at hl 0 rfl) ?_
        refine lv_iload_n hx hb dX3_wrong_57 rfl (lv_at hl 0 rfl) ?_
        refine vp_callSi (rRS (As := [.int (nI i)]) (rest := [.int (nI i), .ref (q 3)]) ⟨hx, hb, hml, hown, hT⟩ (c_X3_bit (l := l) i) (cwTS 1 hT kc_X3_bit km_X3_53 kt_X3_bit kn_X3 rfl rfl md_X3_bit ⟨Nat.le_of_ble_eq_true rfl, Nat.le_of_ble_eq_true rfl⟩) nilP hK  rfl hl.1 rfl (Nat.le_of_ble_eq_true rfl) dX3_wrong_58 ⟨Nat.le_of_ble_eq_true rfl, Nat.le_of_ble_eq_true rfl⟩) (fun r_58 hw_58 => ?_)
        subst hw_58
        refine ast_i hx hb hK hP hD hS 3 0 rfl rfl (by decide) (w := i) rfl (by omega) dX3_wrong_61 (fun H locs hP hD hS => ?_)
        have hP : va_P (dC, dI) vwCl (xW cI q ln cw (ic ||| (x_bit i)) bs ss se (upd we i v) (upd un i (x_bit i)) sf pa) H := hP
        have hD : va_D A (xW cI q ln cw (ic ||| (x_bit i)) bs ss se (upd we i v) (upd un i (x_bit i)) sf pa) := hD
        refine lv_iload_n hx hb dX3_wrong_62 rfl (lv_at hl 0 rfl) ?_
        exact retM_i (S := XS) (post := fun r u => ((v < 0 ∨ 100 < v) ∧ r = -2 ∧ u = (ln, cw, ic, bs, ss, se, we, un, sf, pa)) ∨ (¬ (v < 0 ∨ 100 < v) ∧ ((∃ w, w < 6 ∧ (∀ j, j < w → bt ic j = true) ∧ ¬ bt ic w = true ∧ r = nI w ∧ u = (ln, cw, (ic ||| x_bit w), bs, ss, se, (upd we w v), (upd un w (x_bit w)), sf, pa)) ∨ ((∀ j, j < 6 → bt ic j = true) ∧ r = -4 ∧ u = (ln, cw, ic, bs, ss, se, we, un, sf, pa))))) (w2 := fun u => xWt cI q u) (ln, cw, (ic ||| (x_bit i)), bs, ss, se, (upd we i v), (upd un i (x_bit i)), sf, pa) hx hb hr hlocks (by first | exact Or.inl ⟨hw_4, rfl, rfl⟩ | exact Or.inr ⟨hw_4, Or.inl ⟨i, hi, hf, hw_26, rfl, rfl⟩⟩ | exact Or.inr ⟨hw_4, Or.inr ⟨hf, rfl, rfl⟩⟩) hP hK hD hS dX3_wrong_63
    · obtain ⟨hl, hf⟩ := hl
      refine lv_iload_n hx hb dX3_wrong_15 rfl (lv_at hl 0 rfl) ?_
      refine lv_bipush (v := 6) hx hb dX3_wrong_16 (by decide) ?_
      refine lv_icmp_ge (tgt := 70) hx hb dX3_wrong_18 (by decide) (fun c_18 => ?_) (fun h => absurd h (by decide))
      refine lv_bipush (v := (-4)) hx hb dX3_wrong_70 (by decide) ?_
      exact retM_i (S := XS) (post := fun r u => ((v < 0 ∨ 100 < v) ∧ r = -2 ∧ u = (ln, cw, ic, bs, ss, se, we, un, sf, pa)) ∨ (¬ (v < 0 ∨ 100 < v) ∧ ((∃ w, w < 6 ∧ (∀ j, j < w → bt ic j = true) ∧ ¬ bt ic w = true ∧ r = nI w ∧ u = (ln, cw, (ic ||| x_bit w), bs, ss, se, (upd we w v), (upd un w (x_bit w)), sf, pa)) ∨ ((∀ j, j < 6 → bt ic j = true) ∧ r = -4 ∧ u = (ln, cw, ic, bs, ss, se, we, un, sf, pa))))) (w2 := fun u => xWt cI q u) (ln, cw, ic, bs, ss, se, we, un, sf, pa) hx hb hr hlocks (by first | exact Or.inl ⟨hw_4, rfl, rfl⟩ | exact Or.inr ⟨hw_4, Or.inl ⟨i, hi, hf, hw_26, rfl, rfl⟩⟩ | exact Or.inr ⟨hw_4, Or.inr ⟨hf, rfl, rfl⟩⟩) hP hK hD hS dX3_wrong_72
set_option maxHeartbeats 4000000 in
set_option maxRecDepth 100000 in
theorem c_X3_leave (sz : Nat) (v : Int32) : Met l yX3_leave (wT yX3_leave cX3_leave 2 (some .int)) ({ frames := 3, cells := 0, slots := 0, locals := 66 }) (pM (dC, dI) (ty3 cI cJ cZ) (xW cI q ln cw ic bs ss se we un sf pa) [.ref (q 0), .int v] sz) (va_Qi (S := XS) (fun r u => xk (fun j => bt ic j = true) v (r = -1 ∧ u = (ln, cw, ic, bs, ss, se, we, un, sf, pa)) (fun j => r = x_pc (ic &&& (x_bit j ^^^ (-1))) ∧ u = (ln, cw, (ic &&& (x_bit j ^^^ (-1))), (bs &&& (x_bit j ^^^ (-1))), (ss &&& (un j ^^^ (-1))), se, (upd we j 0), (upd (x_part (un j) un 6) j 0), (x_fill (un j) 0 sf 6), (upd pa j 0)))) (fun u t9 => bM (dC, dI) (ty3 cI cJ cZ) (va_A (xW cI q ln cw ic bs ss se we un sf pa) sz) (xWt cI q u) t9) (va_A (xW cI q ln cw ic bs ss se we un sf pa) sz)) 0 0 (va_A (xW cI q ln cw ic bs ss se we un sf pa) sz) := by
  refine Met.ofW (cc := cX3_leave) (maxL := 2) (ret := (some .int)) (by decide) rfl ?_
  intro p e s m args below meth c s₁ B hml hv
  obtain ⟨rfl, hsz, hP, hK, hD0⟩ := hv
  have hx := B.exec
  have hb := B.bytes
  have hr := B.returns
  have hts := atoms_spec (ws := wT yX3_leave cX3_leave 2 (some .int)) B.pre
  have hT := wT_T hts
  have hown : s.vm.findClass RX3 = some m.cls := findClass_of_methodNamed B.named
  have hlocks := B.notSynchronized
  subst hsz
  have hD := hD0.self (sz := s.heap.size)
  generalize hAe : va_A (xW cI q ln cw ic bs ss se we un sf pa) s.heap.size = A at hD ⊢
  have hA : ∀ q : Nat, s.heap.size ≤ q → A q := fun q h => by rw [← hAe]; exact Or.inr h
  have hS : va_S A s.heap s.heap [] := va_S.rf
  have hl := lv_entry ([.ref (q 0), .int v]) (n := 2) (Nat.le_of_ble_eq_true rfl)
  rw [lg_entry_eq]
  generalize (lg_sl ([.ref (q 0), .int v]) ++ List.replicate (2 - (lg_sl ([.ref (q 0), .int v])).length) Slot.unset).toArray = ls at hl ⊢
  have hl : lv_has ls 2 [(0, .ref (q 0)), (1, .int v)] := hl
  refine lv_aload_n hx hb dX3_leave_0 rfl (lv_at hl 0 rfl) ?_
  refine lv_iload_n hx hb dX3_leave_1 rfl (lv_at hl 1 rfl) ?_
  refine vp_callSi (rRV (As := [.int v]) (rest := []) ⟨hx, hb, hml, hown, hT⟩ (c_X3_isKnown (l := l) v) (cwTV 1 hT kc_X3_isKnown km_X3_57 ki_X3_isKnown ks_X3_isKnown kn_X3 rfl rfl md_X3_isKnown ⟨Nat.le_of_ble_eq_true rfl, Nat.le_of_ble_eq_true rfl⟩) hP hK (va_recv hK hP (ci := 3) (q0 := 0) rfl rfl) rfl hl.1 rfl (Nat.le_of_ble_eq_true rfl) dX3_leave_2 ⟨Nat.le_of_ble_eq_true rfl, Nat.le_of_ble_eq_true rfl⟩) (fun r_2 hw_2 => ?_)
  rcases hw_2 with ⟨rfl, hw_2⟩ | ⟨rfl, hw_2⟩
  · obtain ⟨j, hj, rfl, hbj⟩ := hw_2
    refine lv_if_ne (tgt := 10) hx hb dX3_leave_5 (by decide) (fun c_5 => ?_) (fun h => absurd h (by decide))
    refine lv_aload_n hx hb dX3_leave_10 rfl (lv_at hl 0 rfl) ?_
    refine lv_iload_n hx hb dX3_leave_11 rfl (lv_at hl 1 rfl) ?_
    refine fM_v (wc := xW cI q ln cw ic bs ss se we un sf pa) (wr := []) (rMV (wc := xW cI q ln cw ic bs ss se we un sf pa) (As := [.int (nI j)]) (rest := []) ⟨hx, hb, hml, hown, hT⟩ (c_X3_openUnit (l := l) s.heap.size j (by first | assumption | omega)) (cwTV 1 hT kc_X3_openUnit km_X3_61 ki_X3_openUnit ks_X3_openUnit kn_X3 rfl rfl md_X3_openUnit ⟨Nat.le_of_ble_eq_true rfl, Nat.le_of_ble_eq_true rfl⟩) hP hD hK (va_recv hK hP (ci := 3) (q0 := 0) rfl rfl) rfl hl.1 rfl (Nat.le_of_ble_eq_true rfl) dX3_leave_12 ⟨Nat.le_of_ble_eq_true rfl, Nat.le_of_ble_eq_true rfl⟩) hP hD hS hA (fun u_12 H locs hw_12 hP hD hS => ?_)
    have hP : va_P (dC, dI) vwCl (xW cI q ln cw ic bs (ss &&& (un j ^^^ (-1))) se we un (x_fill (un j) 0 sf 6) pa) H := hP
    have hD : va_D A (xW cI q ln cw ic bs (ss &&& (un j ^^^ (-1))) se we un (x_fill (un j) 0 sf 6) pa) := hD
    refine lv_aload_n hx hb dX3_leave_15 rfl (lv_at hl 0 rfl) ?_
    refine lv_iload_n hx hb dX3_leave_16 rfl (lv_at hl 1 rfl) ?_
    refine fM_v (wc := xW cI q ln cw ic bs (ss &&& (un j ^^^ (-1))) se we un (x_fill (un j) 0 sf 6) pa) (wr := []) (rMV (wc := xW cI q ln cw ic bs (ss &&& (un j ^^^ (-1))) se we un (x_fill (un j) 0 sf 6) pa) (As := [.int (nI j)]) (rest := []) ⟨hx, hb, hml, hown, hT⟩ (c_X3_partUnit (l := l) H.size j (by first | assumption | omega)) (cwTV 1 hT kc_X3_partUnit km_X3_65 ki_X3_partUnit ks_X3_partUnit kn_X3 rfl rfl md_X3_partUnit ⟨Nat.le_of_ble_eq_true rfl, Nat.le_of_ble_eq_true rfl⟩) hP hD hK (va_recv hK hP (ci := 3) (q0 := 0) rfl rfl) rfl hl.1 rfl (Nat.le_of_ble_eq_true rfl) dX3_leave_17 ⟨Nat.le_of_ble_eq_true rfl, Nat.le_of_ble_eq_true rfl⟩) hP hD hS hA (fun u_17 H locs hw_17 hP hD hS => ?_)
    have hP : va_P (dC, dI) vwCl (xW cI q ln cw ic bs (ss &&& (un j ^^^ (-1))) se we (x_part (un j) un 6) (x_fill (un j) 0 sf 6) pa) H := hP
    have hD : va_D A (xW cI q ln cw ic bs (ss &&& (un j ^^^ (-1))) se we (x_part (un j) un 6) (x_fill (un j) 0 sf 6) pa) := hD
    refine lv_aload_n hx hb dX3_leave_20 rfl (lv_at hl 0 rfl) ?_
    refine lv_dup hx hb dX3_leave_21 rfl ?_
    refine va_get (D := (dC, dI)) (ci := 3) (v := .int ic) (C := RX3) (T := TX3) (N := 11) hx hb hT hiX3 hown hK hP 0 rfl rfl 3 (by decide) (hT _ kf_X3_46) (fun _ h9 => h9) rfl dX3_leave_22 ?_
    refine lv_iload_n hx hb dX3_leave_25 rfl (lv_at hl 1 rfl) ?_
    refine vp_callSi (rRS (As := [.int (nI j)]) (rest := [.int ic, .ref (q 0)]) ⟨hx, hb, hml, hown, hT⟩ (c_X3_bit (l := l) j) (cwTS 1 hT kc_X3_bit km_X3_53 kt_X3_bit kn_X3 rfl rfl md_X3_bit ⟨Nat.le_of_ble_eq_true rfl, Nat.le_of_ble_eq_true rfl⟩) nilP hK  rfl hl.1 rfl (Nat.le_of_ble_eq_true rfl) dX3_leave_26 ⟨Nat.le_of_ble_eq_true rfl, Nat.le_of_ble_eq_true rfl⟩) (fun r_26 hw_26 => ?_)
    subst hw_26
    refine lv_iconst (v := (-1)) hx hb dX3_leave_29 (by decide) ?_
    refine lv_ixor hx hb dX3_leave_30 ?_
    refine lv_iand hx hb dX3_leave_31 ?_
    refine va_put (D := (dC, dI)) (ci := 3) (v := .int (ic &&& ((x_bit j) ^^^ (-1)))) (ty := .int) (C := RX3) (T := TX3) (N := 11) hx hb hT hiX3 tyX3 tyX3_ok nmX3 hown hK hP hD hS 0 rfl rfl 3 (by decide) (hT _ kf_X3_46) (fun _ h9 => h9) rfl (by decide +kernel) rfl rfl (Nat.le_of_ble_eq_true rfl) dX3_leave_32 (fun H locs hP hD hS => ?_)
    have hP : va_P (dC, dI) vwCl (xW cI q ln cw (ic &&& ((x_bit j) ^^^ (-1))) bs (ss &&& (un j ^^^ (-1))) se we (x_part (un j) un 6) (x_fill (un j) 0 sf 6) pa) H := hP
    have hD : va_D A (xW cI q ln cw (ic &&& ((x_bit j) ^^^ (-1))) bs (ss &&& (un j ^^^ (-1))) se we (x_part (un j) un 6) (x_fill (un j) 0 sf 6) pa) := hD
    refine lv_aload_n hx hb dX3_leave_35 rfl (lv_at hl 0 rfl) ?_
    refine lv_dup hx hb dX3_leave_36 rfl ?_
    refine va_get (D := (dC, dI)) (ci := 3) (v := .int bs) (C := RX3) (T := TX3) (N := 11) hx hb hT hiX3 hown hK hP 0 rfl rfl 4 (by decide) (hT _ kf_X3_68) (fun _ h9 => h9) rfl dX3_leave_37 ?_
    refine lv_iload_n hx hb dX3_leave_40 rfl (lv_at hl 1 rfl) ?_
    refine vp_callSi (rRS (As := [.int (nI j)]) (rest := [.int bs, .ref (q 0)]) ⟨hx, hb, hml, hown, hT⟩ (c_X3_bit (l := l) j) (cwTS 1 hT kc_X3_bit km_X3_53 kt_X3_bit kn_X3 rfl rfl md_X3_bit ⟨Nat.le_of_ble_eq_true rfl, Nat.le_of_ble_eq_true rfl⟩) nilP hK  rfl hl.1 rfl (Nat.le_of_ble_eq_true rfl) dX3_leave_41 ⟨Nat.le_of_ble_eq_true rfl, Nat.le_of_ble_eq_true rfl⟩) (fun r_41 hw_41 => ?_)
    subst hw_41
    refine lv_iconst (v := (-1)) hx hb dX3_leave_44 (by decide) ?_
    refine lv_ixor hx hb dX3_leave_45 ?_
    refine lv_iand hx hb dX3_leave_46 ?_
    refine va_put (D := (dC, dI)) (ci := 3) (v := .int (bs &&& ((x_bit j) ^^^ (-1)))) (ty := .int) (C := RX3) (T := TX3) (N := 11) hx hb hT hiX3 tyX3 tyX3_ok nmX3 hown hK hP hD hS 0 rfl rfl 4 (by decide) (hT _ kf_X3_68) (fun _ h9 => h9) rfl (by decide +kernel) rfl rfl (Nat.le_of_ble_eq_true rfl) dX3_leave_47 (fun H locs hP hD hS => ?_)
    have hP : va_P (dC, dI) vwCl (xW cI q ln cw (ic &&& ((x_bit j) ^^^ (-1))) (bs &&& ((x_bit j) ^^^ (-1))) (ss &&& (un j ^^^ (-1))) se we (x_part (un j) un 6) (x_fill (un j) 0 sf 6) pa) H := hP
    have hD : va_D A (xW cI q ln cw (ic &&& ((x_bit j) ^^^ (-1))) (bs &&& ((x_bit j) ^^^ (-1))) (ss &&& (un j ^^^ (-1))) se we (x_part (un j) un 6) (x_fill (un j) 0 sf 6) pa) := hD
    refine lv_aload_n hx hb dX3_leave_50 rfl (lv_at hl 0 rfl) ?_
    refine va_get (D := (dC, dI)) (ci := 3) (v := .ref (q 2)) (C := RX3) (T := TX3) (N := 11) hx hb hT hiX3 hown hK hP 0 rfl rfl 6 (by decide) (hT _ kf_X3_15) (fun _ h9 => h9) rfl dX3_leave_51 ?_
    refine lv_iload_n hx hb dX3_leave_54 rfl (lv_at hl 1 rfl) ?_
    refine lv_iconst (v := 0) hx hb dX3_leave_55 (by decide) ?_
    refine ast_i hx hb hK hP hD hS 2 0 rfl rfl (by decide) (w := j) rfl (by omega) dX3_leave_56 (fun H locs hP hD hS => ?_)
    have hP : va_P (dC, dI) vwCl (xW cI q ln cw (ic &&& ((x_bit j) ^^^ (-1))) (bs &&& ((x_bit j) ^^^ (-1))) (ss &&& (un j ^^^ (-1))) se (upd we j 0) (x_part (un j) un 6) (x_fill (un j) 0 sf 6) pa) H := hP
    have hD : va_D A (xW cI q ln cw (ic &&& ((x_bit j) ^^^ (-1))) (bs &&& ((x_bit j) ^^^ (-1))) (ss &&& (un j ^^^ (-1))) se (upd we j 0) (x_part (un j) un 6) (x_fill (un j) 0 sf 6) pa) := hD
    refine lv_aload_n hx hb dX3_leave_57 rfl (lv_at hl 0 rfl) ?_
    refine va_get (D := (dC, dI)) (ci := 3) (v := .ref (q 3)) (C := RX3) (T := TX3) (N := 11) hx hb hT hiX3 hown hK hP 0 rfl rfl 7 (by decide) (hT _ kf_X3_18) (fun _ h9 => h9) rfl dX3_leave_58 ?_
    refine lv_iload_n hx hb dX3_leave_61 rfl (lv_at hl 1 rfl) ?_
    refine lv_iconst (v := 0) hx hb dX3_leave_62 (by decide) ?_
    refine ast_i hx hb hK hP hD hS 3 0 rfl rfl (by decide) (w := j) rfl (by omega) dX3_leave_63 (fun H locs hP hD hS => ?_)
    have hP : va_P (dC, dI) vwCl (xW cI q ln cw (ic &&& ((x_bit j) ^^^ (-1))) (bs &&& ((x_bit j) ^^^ (-1))) (ss &&& (un j ^^^ (-1))) se (upd we j 0) (upd (x_part (un j) un 6) j 0) (x_fill (un j) 0 sf 6) pa) H := hP
    have hD : va_D A (xW cI q ln cw (ic &&& ((x_bit j) ^^^ (-1))) (bs &&& ((x_bit j) ^^^ (-1))) (ss &&& (un j ^^^ (-1))) se (upd we j 0) (upd (x_part (un j) un 6) j 0) (x_fill (un j) 0 sf 6) pa) := hD
    refine lv_aload_n hx hb dX3_leave_64 rfl (lv_at hl 0 rfl) ?_
    refine va_get (D := (dC, dI)) (ci := 3) (v := .ref (q 5)) (C := RX3) (T := TX3) (N := 11) hx hb hT hiX3 hown hK hP 0 rfl rfl 9 (by decide) (hT _ kf_X3_24) (fun _ h9 => h9) rfl dX3_leave_65 ?_
    refine lv_iload_n hx hb dX3_leave_68 rfl (lv_at hl 1 rfl) ?_
    refine lv_iconst (v := 0) hx hb dX3_leave_69 (by decide) ?_
    refine ast_i hx hb hK hP hD hS 5 0 rfl rfl (by decide) (w := j) rfl (by omega) dX3_leave_70 (fun H locs hP hD hS => ?_)
    have hP : va_P (dC, dI) vwCl (xW cI q ln cw (ic &&& ((x_bit j) ^^^ (-1))) (bs &&& ((x_bit j) ^^^ (-1))) (ss &&& (un j ^^^ (-1))) se (upd we j 0) (upd (x_part (un j) un 6) j 0) (x_fill (un j) 0 sf 6) (upd pa j 0)) H := hP
    have hD : va_D A (xW cI q ln cw (ic &&& ((x_bit j) ^^^ (-1))) (bs &&& ((x_bit j) ^^^ (-1))) (ss &&& (un j ^^^ (-1))) se (upd we j 0) (upd (x_part (un j) un 6) j 0) (x_fill (un j) 0 sf 6) (upd pa j 0)) := hD
    refine lv_aload_n hx hb dX3_leave_71 rfl (lv_at hl 0 rfl) ?_
    refine va_get (D := (dC, dI)) (ci := 3) (v := .int (ic &&& ((x_bit j) ^^^ (-1)))) (C := RX3) (T := TX3) (N := 11) hx hb hT hiX3 hown hK hP 0 rfl rfl 3 (by decide) (hT _ kf_X3_46) (fun _ h9 => h9) rfl dX3_leave_72 ?_
    refine vp_callSi (rRS (As := [.int (ic &&& ((x_bit j) ^^^ (-1)))]) (rest := []) ⟨hx, hb, hml, hown, hT⟩ (c_J6_bitCount_0f7a4 (l := l) (ic &&& ((x_bit j) ^^^ (-1)))) (cwTS 1 hT kc_J6_bitCount_0f7a4 km_X3_71 kt_J6_bitCount_0f7a4 kn_J6 rfl rfl md_J6_bitCount_0f7a4 ⟨Nat.le_of_ble_eq_true rfl, Nat.le_of_ble_eq_true rfl⟩) nilP hK  rfl hl.1 rfl (Nat.le_of_ble_eq_true rfl) dX3_leave_75 ⟨Nat.le_of_ble_eq_true rfl, Nat.le_of_ble_eq_true rfl⟩) (fun r_75 hw_75 => ?_)
    subst hw_75
    exact retM_i (S := XS) (post := fun r u => xk (fun j => bt ic j = true) (nI j) (r = -1 ∧ u = (ln, cw, ic, bs, ss, se, we, un, sf, pa)) (fun j => r = x_pc (ic &&& (x_bit j ^^^ (-1))) ∧ u = (ln, cw, (ic &&& (x_bit j ^^^ (-1))), (bs &&& (x_bit j ^^^ (-1))), (ss &&& (un j ^^^ (-1))), se, (upd we j 0), (upd (x_part (un j) un 6) j 0), (x_fill (un j) 0 sf 6), (upd pa j 0)))) (w2 := fun u => xWt cI q u) (ln, cw, (ic &&& ((x_bit j) ^^^ (-1))), (bs &&& ((x_bit j) ^^^ (-1))), (ss &&& (un j ^^^ (-1))), se, (upd we j 0), (upd (x_part (un j) un 6) j 0), (x_fill (un j) 0 sf 6), (upd pa j 0)) hx hb hr hlocks (by first | exact Or.inl ⟨j, hj, rfl, hbj, rfl, rfl⟩ | exact Or.inr ⟨hw_2, rfl, rfl⟩) hP hK hD hS dX3_leave_78
  · refine lv_if_ne (tgt := 10) hx hb dX3_leave_5 (by decide) (fun h => absurd h (by decide)) (fun c_5 => ?_)
    refine lv_iconst (v := (-1)) hx hb dX3_leave_8 (by decide) ?_
    exact retM_i (S := XS) (post := fun r u => xk (fun j => bt ic j = true) v (r = -1 ∧ u = (ln, cw, ic, bs, ss, se, we, un, sf, pa)) (fun j => r = x_pc (ic &&& (x_bit j ^^^ (-1))) ∧ u = (ln, cw, (ic &&& (x_bit j ^^^ (-1))), (bs &&& (x_bit j ^^^ (-1))), (ss &&& (un j ^^^ (-1))), se, (upd we j 0), (upd (x_part (un j) un 6) j 0), (x_fill (un j) 0 sf 6), (upd pa j 0)))) (w2 := fun u => xWt cI q u) (ln, cw, ic, bs, ss, se, we, un, sf, pa) hx hb hr hlocks (by first | exact Or.inl ⟨j, hj, rfl, hbj, rfl, rfl⟩ | exact Or.inr ⟨hw_2, rfl, rfl⟩) hP hK hD hS dX3_leave_9
set_option maxHeartbeats 4000000 in
set_option maxRecDepth 100000 in
theorem c_X3_weight (sz : Nat) (v x : Int32) : Met l yX3_weight (wT yX3_weight cX3_weight 4 (some .int)) ({ frames := 2, cells := 0, slots := 0, locals := 42 }) (pM (dC, dI) (ty3 cI cJ cZ) (xW cI q ln cw ic bs ss se we un sf pa) [.ref (q 0), .int v, .int x] sz) (va_Qi (S := XS) (fun r u => xk (fun j => bt ic j = true) v (r = -1 ∧ u = (ln, cw, ic, bs, ss, se, we, un, sf, pa)) (fun j => ((x < 0 ∨ 100 < x) ∧ r = -2 ∧ u = (ln, cw, ic, bs, ss, se, we, un, sf, pa)) ∨ (¬ (x < 0 ∨ 100 < x) ∧ r = we j ∧ u = (ln, cw, ic, bs, ss, se, (upd we j x), un, sf, pa)))) (fun u t9 => bM (dC, dI) (ty3 cI cJ cZ) (va_A (xW cI q ln cw ic bs ss se we un sf pa) sz) (xWt cI q u) t9) (va_A (xW cI q ln cw ic bs ss se we un sf pa) sz)) 0 0 (va_A (xW cI q ln cw ic bs ss se we un sf pa) sz) := by
  refine Met.ofW (cc := cX3_weight) (maxL := 4) (ret := (some .int)) (by decide) rfl ?_
  intro p e s m args below meth c s₁ B hml hv
  obtain ⟨rfl, hsz, hP, hK, hD0⟩ := hv
  have hx := B.exec
  have hb := B.bytes
  have hr := B.returns
  have hts := atoms_spec (ws := wT yX3_weight cX3_weight 4 (some .int)) B.pre
  have hT := wT_T hts
  have hown : s.vm.findClass RX3 = some m.cls := findClass_of_methodNamed B.named
  have hlocks := B.notSynchronized
  subst hsz
  have hD := hD0.self (sz := s.heap.size)
  generalize hAe : va_A (xW cI q ln cw ic bs ss se we un sf pa) s.heap.size = A at hD ⊢
  have hA : ∀ q : Nat, s.heap.size ≤ q → A q := fun q h => by rw [← hAe]; exact Or.inr h
  have hS : va_S A s.heap s.heap [] := va_S.rf
  have hl := lv_entry ([.ref (q 0), .int v, .int x]) (n := 4) (Nat.le_of_ble_eq_true rfl)
  rw [lg_entry_eq]
  generalize (lg_sl ([.ref (q 0), .int v, .int x]) ++ List.replicate (4 - (lg_sl ([.ref (q 0), .int v, .int x])).length) Slot.unset).toArray = ls at hl ⊢
  have hl : lv_has ls 4 [(0, .ref (q 0)), (1, .int v), (2, .int x)] := hl
  refine lv_aload_n hx hb dX3_weight_0 rfl (lv_at hl 0 rfl) ?_
  refine lv_iload_n hx hb dX3_weight_1 rfl (lv_at hl 1 rfl) ?_
  refine vp_callSi (rRV (As := [.int v]) (rest := []) ⟨hx, hb, hml, hown, hT⟩ (c_X3_isKnown (l := l) v) (cwTV 1 hT kc_X3_isKnown km_X3_57 ki_X3_isKnown ks_X3_isKnown kn_X3 rfl rfl md_X3_isKnown ⟨Nat.le_of_ble_eq_true rfl, Nat.le_of_ble_eq_true rfl⟩) hP hK (va_recv hK hP (ci := 3) (q0 := 0) rfl rfl) rfl hl.1 rfl (Nat.le_of_ble_eq_true rfl) dX3_weight_2 ⟨Nat.le_of_ble_eq_true rfl, Nat.le_of_ble_eq_true rfl⟩) (fun r_2 hw_2 => ?_)
  rcases hw_2 with ⟨rfl, hw_2⟩ | ⟨rfl, hw_2⟩
  · obtain ⟨j, hj, rfl, hbj⟩ := hw_2
    refine lv_if_ne (tgt := 10) hx hb dX3_weight_5 (by decide) (fun c_5 => ?_) (fun h => absurd h (by decide))
    refine lv_iload_n hx hb dX3_weight_10 rfl (lv_at hl 2 rfl) ?_
    refine lv_iconst (v := 0) hx hb dX3_weight_11 (by decide) ?_
    refine lv_bipush (v := 100) hx hb dX3_weight_12 (by decide) ?_
    refine vp_callSi (rRS (As := [.int x, .int 0, .int 100]) (rest := []) ⟨hx, hb, hml, hown, hT⟩ (c_X3_isOutside (l := l) x 0 100) (cwTS 3 hT kc_X3_isOutside km_X3_35 kt_X3_isOutside kn_X3 rfl rfl md_X3_isOutside ⟨Nat.le_of_ble_eq_true rfl, Nat.le_of_ble_eq_true rfl⟩) nilP hK  rfl hl.1 rfl (Nat.le_of_ble_eq_true rfl) dX3_weight_14 ⟨Nat.le_of_ble_eq_true rfl, Nat.le_of_ble_eq_true rfl⟩) (fun r_14 hw_14 => ?_)
    rcases hw_14 with ⟨rfl, hw_14⟩ | ⟨rfl, hw_14⟩
    · refine lv_if_eq (tgt := 23) hx hb dX3_weight_17 (by decide) (fun h => absurd h (by decide)) (fun c_17 => ?_)
      refine lv_bipush (v := (-2)) hx hb dX3_weight_20 (by decide) ?_
      exact retM_i (S := XS) (post := fun r u => xk (fun j => bt ic j = true) (nI j) (r = -1 ∧ u = (ln, cw, ic, bs, ss, se, we, un, sf, pa)) (fun j => ((x < 0 ∨ 100 < x) ∧ r = -2 ∧ u = (ln, cw, ic, bs, ss, se, we, un, sf, pa)) ∨ (¬ (x < 0 ∨ 100 < x) ∧ r = we j ∧ u = (ln, cw, ic, bs, ss, se, (upd we j x), un, sf, pa)))) (w2 := fun u => xWt cI q u) (ln, cw, ic, bs, ss, se, we, un, sf, pa) hx hb hr hlocks (by first | exact Or.inl ⟨j, hj, rfl, hbj, Or.inl ⟨hw_14, rfl, rfl⟩⟩ | exact Or.inl ⟨j, hj, rfl, hbj, Or.inr ⟨hw_14, rfl, rfl⟩⟩ | exact Or.inr ⟨hw_2, rfl, rfl⟩) hP hK hD hS dX3_weight_22
    · refine lv_if_eq (tgt := 23) hx hb dX3_weight_17 (by decide) (fun c_17 => ?_) (fun h => absurd h (by decide))
      refine lv_aload_n hx hb dX3_weight_23 rfl (lv_at hl 0 rfl) ?_
      refine va_get (D := (dC, dI)) (ci := 3) (v := .ref (q 2)) (C := RX3) (T := TX3) (N := 11) hx hb hT hiX3 hown hK hP 0 rfl rfl 6 (by decide) (hT _ kf_X3_15) (fun _ h9 => h9) rfl dX3_weight_24 ?_
      refine lv_iload_n hx hb dX3_weight_27 rfl (lv_at hl 1 rfl) ?_
      refine ald_i hx hb hK hP 2 0 rfl rfl (by decide) (w := j) rfl (by omega) dX3_weight_28 ?_
      refine lv_istore_n (lv' := [(3, .int (we j)), (0, .ref (q 0)), (1, .int (nI j)), (2, .int x)]) hx hb dX3_weight_29 rfl hl (by decide) rfl (fun ls hl => ?_)
      refine lv_aload_n hx hb dX3_weight_30 rfl (lv_at hl 1 rfl) ?_
      refine va_get (D := (dC, dI)) (ci := 3) (v := .ref (q 2)) (C := RX3) (T := TX3) (N := 11) hx hb hT hiX3 hown hK hP 0 rfl rfl 6 (by decide) (hT _ kf_X3_15) (fun _ h9 => h9) rfl dX3_weight_31 ?_
      refine lv_iload_n hx hb dX3_weight_34 rfl (lv_at hl 2 rfl) ?_
      refine lv_iload_n hx hb dX3_weight_35 rfl (lv_at hl 3 rfl) ?_
      refine ast_i hx hb hK hP hD hS 2 0 rfl rfl (by decide) (w := j) rfl (by omega) dX3_weight_36 (fun H locs hP hD hS => ?_)
      have hP : va_P (dC, dI) vwCl (xW cI q ln cw ic bs ss se (upd we j x) un sf pa) H := hP
      have hD : va_D A (xW cI q ln cw ic bs ss se (upd we j x) un sf pa) := hD
      refine lv_iload_n hx hb dX3_weight_37 rfl (lv_at hl 0 rfl) ?_
      exact retM_i (S := XS) (post := fun r u => xk (fun j => bt ic j = true) (nI j) (r = -1 ∧ u = (ln, cw, ic, bs, ss, se, we, un, sf, pa)) (fun j => ((x < 0 ∨ 100 < x) ∧ r = -2 ∧ u = (ln, cw, ic, bs, ss, se, we, un, sf, pa)) ∨ (¬ (x < 0 ∨ 100 < x) ∧ r = we j ∧ u = (ln, cw, ic, bs, ss, se, (upd we j x), un, sf, pa)))) (w2 := fun u => xWt cI q u) (ln, cw, ic, bs, ss, se, (upd we j x), un, sf, pa) hx hb hr hlocks (by first | exact Or.inl ⟨j, hj, rfl, hbj, Or.inl ⟨hw_14, rfl, rfl⟩⟩ | exact Or.inl ⟨j, hj, rfl, hbj, Or.inr ⟨hw_14, rfl, rfl⟩⟩ | exact Or.inr ⟨hw_2, rfl, rfl⟩) hP hK hD hS dX3_weight_38
  · refine lv_if_ne (tgt := 10) hx hb dX3_weight_5 (by decide) (fun h => absurd h (by decide)) (fun c_5 => ?_)
    refine lv_iconst (v := (-1)) hx hb dX3_weight_8 (by decide) ?_
    exact retM_i (S := XS) (post := fun r u => xk (fun j => bt ic j = true) v (r = -1 ∧ u = (ln, cw, ic, bs, ss, se, we, un, sf, pa)) (fun j => ((x < 0 ∨ 100 < x) ∧ r = -2 ∧ u = (ln, cw, ic, bs, ss, se, we, un, sf, pa)) ∨ (¬ (x < 0 ∨ 100 < x) ∧ r = we j ∧ u = (ln, cw, ic, bs, ss, se, (upd we j x), un, sf, pa)))) (w2 := fun u => xWt cI q u) (ln, cw, ic, bs, ss, se, we, un, sf, pa) hx hb hr hlocks (by first | exact Or.inl ⟨j, hj, rfl, hbj, Or.inl ⟨hw_14, rfl, rfl⟩⟩ | exact Or.inl ⟨j, hj, rfl, hbj, Or.inr ⟨hw_14, rfl, rfl⟩⟩ | exact Or.inr ⟨hw_2, rfl, rfl⟩) hP hK hD hS dX3_weight_9
set_option maxHeartbeats 4000000 in
set_option maxRecDepth 100000 in
theorem c_X3_broke (sz : Nat) (v z : Int32) (hz : z = 0 ∨ z = 1) : Met l yX3_broke (wT yX3_broke cX3_broke 3 (some .int)) ({ frames := 2, cells := 0, slots := 0, locals := 42 }) (pM (dC, dI) (ty3 cI cJ cZ) (xW cI q ln cw ic bs ss se we un sf pa) [.ref (q 0), .int v, .int z] sz) (va_Qi (S := XS) (fun r u => xk (fun j => bt ic j = true) v (r = -1 ∧ u = (ln, cw, ic, bs, ss, se, we, un, sf, pa)) (fun j => ((bt bs j = true ↔ z = 1) ∧ r = 0 ∧ u = (ln, cw, ic, bs, ss, se, we, un, sf, pa)) ∨ (¬ (bt bs j = true ↔ z = 1) ∧ r = 1 ∧ u = (ln, cw, ic, (bs ^^^ x_bit j), ss, se, we, un, sf, pa)))) (fun u t9 => bM (dC, dI) (ty3 cI cJ cZ) (va_A (xW cI q ln cw ic bs ss se we un sf pa) sz) (xWt cI q u) t9) (va_A (xW cI q ln cw ic bs ss se we un sf pa) sz)) 0 0 (va_A (xW cI q ln cw ic bs ss se we un sf pa) sz) := by
  refine Met.ofW (cc := cX3_broke) (maxL := 3) (ret := (some .int)) (by decide) rfl ?_
  intro p e s m args below meth c s₁ B hml hv
  obtain ⟨rfl, hsz, hP, hK, hD0⟩ := hv
  have hx := B.exec
  have hb := B.bytes
  have hr := B.returns
  have hts := atoms_spec (ws := wT yX3_broke cX3_broke 3 (some .int)) B.pre
  have hT := wT_T hts
  have hown : s.vm.findClass RX3 = some m.cls := findClass_of_methodNamed B.named
  have hlocks := B.notSynchronized
  subst hsz
  have hD := hD0.self (sz := s.heap.size)
  generalize hAe : va_A (xW cI q ln cw ic bs ss se we un sf pa) s.heap.size = A at hD ⊢
  have hA : ∀ q : Nat, s.heap.size ≤ q → A q := fun q h => by rw [← hAe]; exact Or.inr h
  have hS : va_S A s.heap s.heap [] := va_S.rf
  have hl := lv_entry ([.ref (q 0), .int v, .int z]) (n := 3) (Nat.le_of_ble_eq_true rfl)
  rw [lg_entry_eq]
  generalize (lg_sl ([.ref (q 0), .int v, .int z]) ++ List.replicate (3 - (lg_sl ([.ref (q 0), .int v, .int z])).length) Slot.unset).toArray = ls at hl ⊢
  have hl : lv_has ls 3 [(0, .ref (q 0)), (1, .int v), (2, .int z)] := hl
  refine lv_aload_n hx hb dX3_broke_0 rfl (lv_at hl 0 rfl) ?_
  refine lv_iload_n hx hb dX3_broke_1 rfl (lv_at hl 1 rfl) ?_
  refine vp_callSi (rRV (As := [.int v]) (rest := []) ⟨hx, hb, hml, hown, hT⟩ (c_X3_isKnown (l := l) v) (cwTV 1 hT kc_X3_isKnown km_X3_57 ki_X3_isKnown ks_X3_isKnown kn_X3 rfl rfl md_X3_isKnown ⟨Nat.le_of_ble_eq_true rfl, Nat.le_of_ble_eq_true rfl⟩) hP hK (va_recv hK hP (ci := 3) (q0 := 0) rfl rfl) rfl hl.1 rfl (Nat.le_of_ble_eq_true rfl) dX3_broke_2 ⟨Nat.le_of_ble_eq_true rfl, Nat.le_of_ble_eq_true rfl⟩) (fun r_2 hw_2 => ?_)
  rcases hw_2 with ⟨rfl, hw_2⟩ | ⟨rfl, hw_2⟩
  · obtain ⟨j, hj, rfl, hbj⟩ := hw_2
    refine lv_if_ne (tgt := 10) hx hb dX3_broke_5 (by decide) (fun c_5 => ?_) (fun h => absurd h (by decide))
    refine lv_aload_n hx hb dX3_broke_10 rfl (lv_at hl 0 rfl) ?_
    refine va_get (D := (dC, dI)) (ci := 3) (v := .int bs) (C := RX3) (T := TX3) (N := 11) hx hb hT hiX3 hown hK hP 0 rfl rfl 4 (by decide) (hT _ kf_X3_68) (fun _ h9 => h9) rfl dX3_broke_11 ?_
    refine lv_iload_n hx hb dX3_broke_14 rfl (lv_at hl 1 rfl) ?_
    refine vp_callSi (rRS (As := [.int bs, .int (nI j)]) (rest := []) ⟨hx, hb, hml, hown, hT⟩ (c_X3_has (l := l) bs j (by first | assumption | omega)) (cwTS 2 hT kc_X3_has km_X3_49 kt_X3_has kn_X3 rfl rfl md_X3_has ⟨Nat.le_of_ble_eq_true rfl, Nat.le_of_ble_eq_true rfl⟩) nilP hK  rfl hl.1 rfl (Nat.le_of_ble_eq_true rfl) dX3_broke_15 ⟨Nat.le_of_ble_eq_true rfl, Nat.le_of_ble_eq_true rfl⟩) (fun r_15 hw_15 => ?_)
    rcases hw_15 with ⟨rfl, hw_15⟩ | ⟨rfl, hw_15⟩
    · refine lv_iload_n hx hb dX3_broke_18 rfl (lv_at hl 2 rfl) ?_
      refine lv_icmp_ne (tgt := 24) hx hb dX3_broke_19 (by decide) (fun c_19 => ?_) (fun c_19 => ?_)
      · refine lv_aload_n hx hb dX3_broke_24 rfl (lv_at hl 0 rfl) ?_
        refine lv_dup hx hb dX3_broke_25 rfl ?_
        refine va_get (D := (dC, dI)) (ci := 3) (v := .int bs) (C := RX3) (T := TX3) (N := 11) hx hb hT hiX3 hown hK hP 0 rfl rfl 4 (by decide) (hT _ kf_X3_68) (fun _ h9 => h9) rfl dX3_broke_26 ?_
        refine lv_iload_n hx hb dX3_broke_29 rfl (lv_at hl 1 rfl) ?_
        refine vp_callSi (rRS (As := [.int (nI j)]) (rest := [.int bs, .ref (q 0)]) ⟨hx, hb, hml, hown, hT⟩ (c_X3_bit (l := l) j) (cwTS 1 hT kc_X3_bit km_X3_53 kt_X3_bit kn_X3 rfl rfl md_X3_bit ⟨Nat.le_of_ble_eq_true rfl, Nat.le_of_ble_eq_true rfl⟩) nilP hK  rfl hl.1 rfl (Nat.le_of_ble_eq_true rfl) dX3_broke_30 ⟨Nat.le_of_ble_eq_true rfl, Nat.le_of_ble_eq_true rfl⟩) (fun r_30 hw_30 => ?_)
        subst hw_30
        refine lv_ixor hx hb dX3_broke_33 ?_
        refine va_put (D := (dC, dI)) (ci := 3) (v := .int (bs ^^^ (x_bit j))) (ty := .int) (C := RX3) (T := TX3) (N := 11) hx hb hT hiX3 tyX3 tyX3_ok nmX3 hown hK hP hD hS 0 rfl rfl 4 (by decide) (hT _ kf_X3_68) (fun _ h9 => h9) rfl (by decide +kernel) rfl rfl (Nat.le_of_ble_eq_true rfl) dX3_broke_34 (fun H locs hP hD hS => ?_)
        have hP : va_P (dC, dI) vwCl (xW cI q ln cw ic (bs ^^^ (x_bit j)) ss se we un sf pa) H := hP
        have hD : va_D A (xW cI q ln cw ic (bs ^^^ (x_bit j)) ss se we un sf pa) := hD
        refine lv_iconst (v := 1) hx hb dX3_broke_37 (by decide) ?_
        exact retM_i (S := XS) (post := fun r u => xk (fun j => bt ic j = true) (nI j) (r = -1 ∧ u = (ln, cw, ic, bs, ss, se, we, un, sf, pa)) (fun j => ((bt bs j = true ↔ z = 1) ∧ r = 0 ∧ u = (ln, cw, ic, bs, ss, se, we, un, sf, pa)) ∨ (¬ (bt bs j = true ↔ z = 1) ∧ r = 1 ∧ u = (ln, cw, ic, (bs ^^^ x_bit j), ss, se, we, un, sf, pa)))) (w2 := fun u => xWt cI q u) (ln, cw, ic, (bs ^^^ (x_bit j)), ss, se, we, un, sf, pa) hx hb hr hlocks (by first | exact Or.inl ⟨j, hj, rfl, hbj, Or.inl ⟨⟨fun _ => c_19.symm, fun _ => hw_15⟩, rfl, rfl⟩⟩ | exact Or.inl ⟨j, hj, rfl, hbj, Or.inl ⟨⟨fun h => absurd h hw_15, fun h => absurd (c_19.trans h) (by decide)⟩, rfl, rfl⟩⟩ | exact Or.inl ⟨j, hj, rfl, hbj, Or.inr ⟨fun h => c_19 (h.mp hw_15).symm, rfl, rfl⟩⟩ | exact Or.inl ⟨j, hj, rfl, hbj, Or.inr ⟨fun h => hw_15 (h.mpr (hz.resolve_left (fun e => c_19 e.symm))), rfl, rfl⟩⟩ | exact Or.inr ⟨hw_2, rfl, rfl⟩) hP hK hD hS dX3_broke_38
      · refine lv_iconst (v := 0) hx hb dX3_broke_22 (by decide) ?_
        exact retM_i (S := XS) (post := fun r u => xk (fun j => bt ic j = true) (nI j) (r = -1 ∧ u = (ln, cw, ic, bs, ss, se, we, un, sf, pa)) (fun j => ((bt bs j = true ↔ z = 1) ∧ r = 0 ∧ u = (ln, cw, ic, bs, ss, se, we, un, sf, pa)) ∨ (¬ (bt bs j = true ↔ z = 1) ∧ r = 1 ∧ u = (ln, cw, ic, (bs ^^^ x_bit j), ss, se, we, un, sf, pa)))) (w2 := fun u => xWt cI q u) (ln, cw, ic, bs, ss, se, we, un, sf, pa) hx hb hr hlocks (by first | exact Or.inl ⟨j, hj, rfl, hbj, Or.inl ⟨⟨fun _ => c_19.symm, fun _ => hw_15⟩, rfl, rfl⟩⟩ | exact Or.inl ⟨j, hj, rfl, hbj, Or.inl ⟨⟨fun h => absurd h hw_15, fun h => absurd (c_19.trans h) (by decide)⟩, rfl, rfl⟩⟩ | exact Or.inl ⟨j, hj, rfl, hbj, Or.inr ⟨fun h => c_19 (h.mp hw_15).symm, rfl, rfl⟩⟩ | exact Or.inl ⟨j, hj, rfl, hbj, Or.inr ⟨fun h => hw_15 (h.mpr (hz.resolve_left (fun e => c_19 e.symm))), rfl, rfl⟩⟩ | exact Or.inr ⟨hw_2, rfl, rfl⟩) hP hK hD hS dX3_broke_23
    · refine lv_iload_n hx hb dX3_broke_18 rfl (lv_at hl 2 rfl) ?_
      refine lv_icmp_ne (tgt := 24) hx hb dX3_broke_19 (by decide) (fun c_19 => ?_) (fun c_19 => ?_)
      · refine lv_aload_n hx hb dX3_broke_24 rfl (lv_at hl 0 rfl) ?_
        refine lv_dup hx hb dX3_broke_25 rfl ?_
        refine va_get (D := (dC, dI)) (ci := 3) (v := .int bs) (C := RX3) (T := TX3) (N := 11) hx hb hT hiX3 hown hK hP 0 rfl rfl 4 (by decide) (hT _ kf_X3_68) (fun _ h9 => h9) rfl dX3_broke_26 ?_
        refine lv_iload_n hx hb dX3_broke_29 rfl (lv_at hl 1 rfl) ?_
        refine vp_callSi (rRS (As := [.int (nI j)]) (rest := [.int bs, .ref (q 0)]) ⟨hx, hb, hml, hown, hT⟩ (c_X3_bit (l := l) j) (cwTS 1 hT kc_X3_bit km_X3_53 kt_X3_bit kn_X3 rfl rfl md_X3_bit ⟨Nat.le_of_ble_eq_true rfl, Nat.le_of_ble_eq_true rfl⟩) nilP hK  rfl hl.1 rfl (Nat.le_of_ble_eq_true rfl) dX3_broke_30 ⟨Nat.le_of_ble_eq_true rfl, Nat.le_of_ble_eq_true rfl⟩) (fun r_30 hw_30 => ?_)
        subst hw_30
        refine lv_ixor hx hb dX3_broke_33 ?_
        refine va_put (D := (dC, dI)) (ci := 3) (v := .int (bs ^^^ (x_bit j))) (ty := .int) (C := RX3) (T := TX3) (N := 11) hx hb hT hiX3 tyX3 tyX3_ok nmX3 hown hK hP hD hS 0 rfl rfl 4 (by decide) (hT _ kf_X3_68) (fun _ h9 => h9) rfl (by decide +kernel) rfl rfl (Nat.le_of_ble_eq_true rfl) dX3_broke_34 (fun H locs hP hD hS => ?_)
        have hP : va_P (dC, dI) vwCl (xW cI q ln cw ic (bs ^^^ (x_bit j)) ss se we un sf pa) H := hP
        have hD : va_D A (xW cI q ln cw ic (bs ^^^ (x_bit j)) ss se we un sf pa) := hD
        refine lv_iconst (v := 1) hx hb dX3_broke_37 (by decide) ?_
        exact retM_i (S := XS) (post := fun r u => xk (fun j => bt ic j = true) (nI j) (r = -1 ∧ u = (ln, cw, ic, bs, ss, se, we, un, sf, pa)) (fun j => ((bt bs j = true ↔ z = 1) ∧ r = 0 ∧ u = (ln, cw, ic, bs, ss, se, we, un, sf, pa)) ∨ (¬ (bt bs j = true ↔ z = 1) ∧ r = 1 ∧ u = (ln, cw, ic, (bs ^^^ x_bit j), ss, se, we, un, sf, pa)))) (w2 := fun u => xWt cI q u) (ln, cw, ic, (bs ^^^ (x_bit j)), ss, se, we, un, sf, pa) hx hb hr hlocks (by first | exact Or.inl ⟨j, hj, rfl, hbj, Or.inl ⟨⟨fun _ => c_19.symm, fun _ => hw_15⟩, rfl, rfl⟩⟩ | exact Or.inl ⟨j, hj, rfl, hbj, Or.inl ⟨⟨fun h => absurd h hw_15, fun h => absurd (c_19.trans h) (by decide)⟩, rfl, rfl⟩⟩ | exact Or.inl ⟨j, hj, rfl, hbj, Or.inr ⟨fun h => c_19 (h.mp hw_15).symm, rfl, rfl⟩⟩ | exact Or.inl ⟨j, hj, rfl, hbj, Or.inr ⟨fun h => hw_15 (h.mpr (hz.resolve_left (fun e => c_19 e.symm))), rfl, rfl⟩⟩ | exact Or.inr ⟨hw_2, rfl, rfl⟩) hP hK hD hS dX3_broke_38
      · refine lv_iconst (v := 0) hx hb dX3_broke_22 (by decide) ?_
        exact retM_i (S := XS) (post := fun r u => xk (fun j => bt ic j = true) (nI j) (r = -1 ∧ u = (ln, cw, ic, bs, ss, se, we, un, sf, pa)) (fun j => ((bt bs j = true ↔ z = 1) ∧ r = 0 ∧ u = (ln, cw, ic, bs, ss, se, we, un, sf, pa)) ∨ (¬ (bt bs j = true ↔ z = 1) ∧ r = 1 ∧ u = (ln, cw, ic, (bs ^^^ x_bit j), ss, se, we, un, sf, pa)))) (w2 := fun u => xWt cI q u) (ln, cw, ic, bs, ss, se, we, un, sf, pa) hx hb hr hlocks (by first | exact Or.inl ⟨j, hj, rfl, hbj, Or.inl ⟨⟨fun _ => c_19.symm, fun _ => hw_15⟩, rfl, rfl⟩⟩ | exact Or.inl ⟨j, hj, rfl, hbj, Or.inl ⟨⟨fun h => absurd h hw_15, fun h => absurd (c_19.trans h) (by decide)⟩, rfl, rfl⟩⟩ | exact Or.inl ⟨j, hj, rfl, hbj, Or.inr ⟨fun h => c_19 (h.mp hw_15).symm, rfl, rfl⟩⟩ | exact Or.inl ⟨j, hj, rfl, hbj, Or.inr ⟨fun h => hw_15 (h.mpr (hz.resolve_left (fun e => c_19 e.symm))), rfl, rfl⟩⟩ | exact Or.inr ⟨hw_2, rfl, rfl⟩) hP hK hD hS dX3_broke_23
  · refine lv_if_ne (tgt := 10) hx hb dX3_broke_5 (by decide) (fun h => absurd h (by decide)) (fun c_5 => ?_)
    refine lv_iconst (v := (-1)) hx hb dX3_broke_8 (by decide) ?_
    exact retM_i (S := XS) (post := fun r u => xk (fun j => bt ic j = true) v (r = -1 ∧ u = (ln, cw, ic, bs, ss, se, we, un, sf, pa)) (fun j => ((bt bs j = true ↔ z = 1) ∧ r = 0 ∧ u = (ln, cw, ic, bs, ss, se, we, un, sf, pa)) ∨ (¬ (bt bs j = true ↔ z = 1) ∧ r = 1 ∧ u = (ln, cw, ic, (bs ^^^ x_bit j), ss, se, we, un, sf, pa)))) (w2 := fun u => xWt cI q u) (ln, cw, ic, bs, ss, se, we, un, sf, pa) hx hb hr hlocks (by first | exact Or.inl ⟨j, hj, rfl, hbj, Or.inl ⟨⟨fun _ => c_19.symm, fun _ => hw_15⟩, rfl, rfl⟩⟩ | exact Or.inl ⟨j, hj, rfl, hbj, Or.inl ⟨⟨fun h => absurd h hw_15, fun h => absurd (c_19.trans h) (by decide)⟩, rfl, rfl⟩⟩ | exact Or.inl ⟨j, hj, rfl, hbj, Or.inr ⟨fun h => c_19 (h.mp hw_15).symm, rfl, rfl⟩⟩ | exact Or.inl ⟨j, hj, rfl, hbj, Or.inr ⟨fun h => hw_15 (h.mpr (hz.resolve_left (fun e => c_19 e.symm))), rfl, rfl⟩⟩ | exact Or.inr ⟨hw_2, rfl, rfl⟩) hP hK hD hS dX3_broke_9
set_option maxHeartbeats 4000000 in
set_option maxRecDepth 100000 in
theorem c_X3_pair (sz : Nat) (v w : Int32) : Met l yX3_pair (wT yX3_pair cX3_pair 3 (some .int)) ({ frames := 2, cells := 0, slots := 0, locals := 42 }) (pM (dC, dI) (ty3 cI cJ cZ) (xW cI q ln cw ic bs ss se we un sf pa) [.ref (q 0), .int v, .int w] sz) (va_Qi (S := XS) (fun r u => (((¬ ∃ i, i < 6 ∧ v = nI i ∧ bt ic i = true) ∨ (¬ ∃ j, j < 6 ∧ w = nI j ∧ bt ic j = true) ∨ v = w) ∧ r = -1 ∧ u = (ln, cw, ic, bs, ss, se, we, un, sf, pa)) ∨ (∃ i j, i < 6 ∧ j < 6 ∧ v = nI i ∧ w = nI j ∧ i ≠ j ∧ bt ic i = true ∧ bt ic j = true ∧ (((¬ un i = x_bit i ∨ ¬ un j = x_bit j ∨ bt ss i = true ∨ bt ss j = true) ∧ r = -3 ∧ u = (ln, cw, ic, bs, ss, se, we, un, sf, pa)) ∨ (¬ (¬ un i = x_bit i ∨ ¬ un j = x_bit j ∨ bt ss i = true ∨ bt ss j = true) ∧ r = 1 ∧ u = (ln, cw, ic, bs, ss, se, we, (upd (upd un i (x_bit i ||| x_bit j)) j (x_bit i ||| x_bit j)), sf, pa))))) (fun u t9 => bM (dC, dI) (ty3 cI cJ cZ) (va_A (xW cI q ln cw ic bs ss se we un sf pa) sz) (xWt cI q u) t9) (va_A (xW cI q ln cw ic bs ss se we un sf pa) sz)) 0 0 (va_A (xW cI q ln cw ic bs ss se we un sf pa) sz) := by
  refine Met.ofW (cc := cX3_pair) (maxL := 3) (ret := (some .int)) (by decide) rfl ?_
  intro p e s m args below meth c s₁ B hml hv
  obtain ⟨rfl, hsz, hP, hK, hD0⟩ := hv
  have hx := B.exec
  have hb := B.bytes
  have hr := B.returns
  have hts := atoms_spec (ws := wT yX3_pair cX3_pair 3 (some .int)) B.pre
  have hT := wT_T hts
  have hown : s.vm.findClass RX3 = some m.cls := findClass_of_methodNamed B.named
  have hlocks := B.notSynchronized
  subst hsz
  have hD := hD0.self (sz := s.heap.size)
  generalize hAe : va_A (xW cI q ln cw ic bs ss se we un sf pa) s.heap.size = A at hD ⊢
  have hA : ∀ q : Nat, s.heap.size ≤ q → A q := fun q h => by rw [← hAe]; exact Or.inr h
  have hS : va_S A s.heap s.heap [] := va_S.rf
  have hl := lv_entry ([.ref (q 0), .int v, .int w]) (n := 3) (Nat.le_of_ble_eq_true rfl)
  rw [lg_entry_eq]
  generalize (lg_sl ([.ref (q 0), .int v, .int w]) ++ List.replicate (3 - (lg_sl ([.ref (q 0), .int v, .int w])).length) Slot.unset).toArray = ls at hl ⊢
  have hl : lv_has ls 3 [(0, .ref (q 0)), (1, .int v), (2, .int w)] := hl
  refine lv_aload_n hx hb dX3_pair_0 rfl (lv_at hl 0 rfl) ?_
  refine lv_iload_n hx hb dX3_pair_1 rfl (lv_at hl 1 rfl) ?_
  refine vp_callSi (rRV (As := [.int v]) (rest := []) ⟨hx, hb, hml, hown, hT⟩ (c_X3_isKnown (l := l) v) (cwTV 1 hT kc_X3_isKnown km_X3_57 ki_X3_isKnown ks_X3_isKnown kn_X3 rfl rfl md_X3_isKnown ⟨Nat.le_of_ble_eq_true rfl, Nat.le_of_ble_eq_true rfl⟩) hP hK (va_recv hK hP (ci := 3) (q0 := 0) rfl rfl) rfl hl.1 rfl (Nat.le_of_ble_eq_true rfl) dX3_pair_2 ⟨Nat.le_of_ble_eq_true rfl, Nat.le_of_ble_eq_true rfl⟩) (fun r_2 hw_2 => ?_)
  rcases hw_2 with ⟨rfl, hw_2⟩ | ⟨rfl, hw_2⟩
  · obtain ⟨i9, hi, rfl, hbi⟩ := hw_2
    refine lv_if_eq (tgt := 21) hx hb dX3_pair_5 (by decide) (fun h => absurd h (by decide)) (fun c_5 => ?_)
    refine lv_aload_n hx hb dX3_pair_8 rfl (lv_at hl 0 rfl) ?_
    refine lv_iload_n hx hb dX3_pair_9 rfl (lv_at hl 2 rfl) ?_
    refine vp_callSi (rRV (As := [.int w]) (rest := []) ⟨hx, hb, hml, hown, hT⟩ (c_X3_isKnown (l := l) w) (cwTV 1 hT kc_X3_isKnown km_X3_57 ki_X3_isKnown ks_X3_isKnown kn_X3 rfl rfl md_X3_isKnown ⟨Nat.le_of_ble_eq_true rfl, Nat.le_of_ble_eq_true rfl⟩) hP hK (va_recv hK hP (ci := 3) (q0 := 0) rfl rfl) rfl hl.1 rfl (Nat.le_of_ble_eq_true rfl) dX3_pair_10 ⟨Nat.le_of_ble_eq_true rfl, Nat.le_of_ble_eq_true rfl⟩) (fun r_10 hw_10 => ?_)
    rcases hw_10 with ⟨rfl, hw_10⟩ | ⟨rfl, hw_10⟩
    · obtain ⟨j9, hj, rfl, hbj⟩ := hw_10
      refine lv_if_eq (tgt := 21) hx hb dX3_pair_13 (by decide) (fun h => absurd h (by decide)) (fun c_13 => ?_)
      refine lv_iload_n hx hb dX3_pair_16 rfl (lv_at hl 1 rfl) ?_
      refine lv_iload_n hx hb dX3_pair_17 rfl (lv_at hl 2 rfl) ?_
      refine lv_icmp_ne (tgt := 23) hx hb dX3_pair_18 (by decide) (fun c_18 => ?_) (fun c_18 => ?_)
      · have hij : i9 ≠ j9 := fun h => c_18 (by rw [h])
        refine lv_aload_n hx hb dX3_pair_23 rfl (lv_at hl 0 rfl) ?_
        refine lv_iload_n hx hb dX3_pair_24 rfl (lv_at hl 1 rfl) ?_
        refine vp_callSi (rRV (As := [.int (nI i9)]) (rest := []) ⟨hx, hb, hml, hown, hT⟩ (c_X3_isPaired (l := l) i9 (by first | assumption | omega)) (cwTV 1 hT kc_X3_isPaired km_X3_76 ki_X3_isPaired ks_X3_isPaired kn_X3 rfl rfl md_X3_isPaired ⟨Nat.le_of_ble_eq_true rfl, Nat.le_of_ble_eq_true rfl⟩) hP hK (va_recv hK hP (ci := 3) (q0 := 0) rfl rfl) rfl hl.1 rfl (Nat.le_of_ble_eq_true rfl) dX3_pair_25 ⟨Nat.le_of_ble_eq_true rfl, Nat.le_of_ble_eq_true rfl⟩) (fun r_25 hw_25 => ?_)
        rcases hw_25 with ⟨rfl, hw_25⟩ | ⟨rfl, hw_25⟩
        · refine lv_if_ne (tgt := 61) hx hb dX3_pair_28 (by decide) (fun c_28 => ?_) (fun h => absurd h (by decide))
          refine lv_bipush (v := (-3)) hx hb dX3_pair_61 (by decide) ?_
          exact retM_i (S := XS) (post := fun r u => (((¬ ∃ i, i < 6 ∧ (nI i9) = nI i ∧ bt ic i = true) ∨ (¬ ∃ j, j < 6 ∧ (nI j9) = nI j ∧ bt ic j = true) ∨ (nI i9) = (nI j9)) ∧ r = -1 ∧ u = (ln, cw, ic, bs, ss, se, we, un, sf, pa)) ∨ (∃ i j, i < 6 ∧ j < 6 ∧ (nI i9) = nI i ∧ (nI j9) = nI j ∧ i ≠ j ∧ bt ic i = true ∧ bt ic j = true ∧ (((¬ un i = x_bit i ∨ ¬ un j = x_bit j ∨ bt ss i = true ∨ bt ss j = true) ∧ r = -3 ∧ u = (ln, cw, ic, bs, ss, se, we, un, sf, pa)) ∨ (¬ (¬ un i = x_bit i ∨ ¬ un j = x_bit j ∨ bt ss i = true ∨ bt ss j = true) ∧ r = 1 ∧ u = (ln, cw, ic, bs, ss, se, we, (upd (upd un i (x_bit i ||| x_bit j)) j (x_bit i ||| x_bit j)), sf, pa))))) (w2 := fun u => xWt cI q u) (ln, cw, ic, bs, ss, se, we, un, sf, pa) hx hb hr hlocks (by first | exact Or.inl ⟨Or.inl hw_2, rfl, rfl⟩ | exact Or.inl ⟨Or.inr (Or.inl hw_10), rfl, rfl⟩ | exact Or.inl ⟨Or.inr (Or.inr c_18), rfl, rfl⟩ | exact Or.inr ⟨i9, j9, hi, hj, rfl, rfl, hij, hbi, hbj, Or.inl ⟨by first | exact Or.inl hw_25 | exact Or.inr (Or.inl hw_33) | exact Or.inr (Or.inr (Or.inl hw_44)) | exact Or.inr (Or.inr (Or.inr hw_55)), rfl, rfl⟩⟩ | exact Or.inr ⟨i9, j9, hi, hj, rfl, rfl, hij, hbi, hbj, Or.inr ⟨fun h => by rcases h with h | h | h | h; exact hw_25 h; exact hw_33 h; exact hw_44 h; exact hw_55 h, rfl, rfl⟩⟩) hP hK hD hS dX3_pair_63
        · refine lv_if_ne (tgt := 61) hx hb dX3_pair_28 (by decide) (fun h => absurd h (by decide)) (fun c_28 => ?_)
          refine lv_aload_n hx hb dX3_pair_31 rfl (lv_at hl 0 rfl) ?_
          refine lv_iload_n hx hb dX3_pair_32 rfl (lv_at hl 2 rfl) ?_
          refine vp_callSi (rRV (As := [.int (nI j9)]) (rest := []) ⟨hx, hb, hml, hown, hT⟩ (c_X3_isPaired (l := l) j9 (by first | assumption | omega)) (cwTV 1 hT kc_X3_isPaired km_X3_76 ki_X3_isPaired ks_X3_isPaired kn_X3 rfl rfl md_X3_isPaired ⟨Nat.le_of_ble_eq_true rfl, Nat.le_of_ble_eq_true rfl⟩) hP hK (va_recv hK hP (ci := 3) (q0 := 0) rfl rfl) rfl hl.1 rfl (Nat.le_of_ble_eq_true rfl) dX3_pair_33 ⟨Nat.le_of_ble_eq_true rfl, Nat.le_of_ble_eq_true rfl⟩) (fun r_33 hw_33 => ?_)
          rcases hw_33 with ⟨rfl, hw_33⟩ | ⟨rfl, hw_33⟩
          · refine lv_if_ne (tgt := 61) hx hb dX3_pair_36 (by decide) (fun c_36 => ?_) (fun h => absurd h (by decide))
            refine lv_bipush (v := (-3)) hx hb dX3_pair_61 (by decide) ?_
            exact retM_i (S := XS) (post := fun r u => (((¬ ∃ i, i < 6 ∧ (nI i9) = nI i ∧ bt ic i = true) ∨ (¬ ∃ j, j < 6 ∧ (nI j9) = nI j ∧ bt ic j = true) ∨ (nI i9) = (nI j9)) ∧ r = -1 ∧ u = (ln, cw, ic, bs, ss, se, we, un, sf, pa)) ∨ (∃ i j, i < 6 ∧ j < 6 ∧ (nI i9) = nI i ∧ (nI j9) = nI j ∧ i ≠ j ∧ bt ic i = true ∧ bt ic j = true ∧ (((¬ un i = x_bit i ∨ ¬ un j = x_bit j ∨ bt ss i = true ∨ bt ss j = true) ∧ r = -3 ∧ u = (ln, cw, ic, bs, ss, se, we, un, sf, pa)) ∨ (¬ (¬ un i = x_bit i ∨ ¬ un j = x_bit j ∨ bt ss i = true ∨ bt ss j = true) ∧ r = 1 ∧ u = (ln, cw, ic, bs, ss, se, we, (upd (upd un i (x_bit i ||| x_bit j)) j (x_bit i ||| x_bit j)), sf, pa))))) (w2 := fun u => xWt cI q u) (ln, cw, ic, bs, ss, se, we, un, sf, pa) hx hb hr hlocks (by first | exact Or.inl ⟨Or.inl hw_2, rfl, rfl⟩ | exact Or.inl ⟨Or.inr (Or.inl hw_10), rfl, rfl⟩ | exact Or.inl ⟨Or.inr (Or.inr c_18), rfl, rfl⟩ | exact Or.inr ⟨i9, j9, hi, hj, rfl, rfl, hij, hbi, hbj, Or.inl ⟨by first | exact Or.inl hw_25 | exact Or.inr (Or.inl hw_33) | exact Or.inr (Or.inr (Or.inl hw_44)) | exact Or.inr (Or.inr (Or.inr hw_55)), rfl, rfl⟩⟩ | exact Or.inr ⟨i9, j9, hi, hj, rfl, rfl, hij, hbi, hbj, Or.inr ⟨fun h => by rcases h with h | h | h | h; exact hw_25 h; exact hw_33 h; exact hw_44 h; exact hw_55 h, rfl, rfl⟩⟩) hP hK hD hS dX3_pair_63
          · refine lv_if_ne (tgt := 61) hx hb dX3_pair_36 (by decide) (fun h => absurd h (by decide)) (fun c_36 => ?_)
            refine lv_aload_n hx hb dX3_pair_39 rfl (lv_at hl 0 rfl) ?_
            refine va_get (D := (dC, dI)) (ci := 3) (v := .int ss) (C := RX3) (T := TX3) (N := 11) hx hb hT hiX3 hown hK hP 0 rfl rfl 5 (by decide) (hT _ kf_X3_79) (fun _ h9 => h9) rfl dX3_pair_40 ?_
            refine lv_iload_n hx hb dX3_pair_43 rfl (lv_at hl 1 rfl) ?_
            refine vp_callSi (rRS (As := [.int ss, .int (nI i9)]) (rest := []) ⟨hx, hb, hml, hown, hT⟩ (c_X3_has (l := l) ss i9 (by first | assumption | omega)) (cwTS 2 hT kc_X3_has km_X3_49 kt_X3_has kn_X3 rfl rfl md_X3_has ⟨Nat.le_of_ble_eq_true rfl, Nat.le_of_ble_eq_true rfl⟩) nilP hK  rfl hl.1 rfl (Nat.le_of_ble_eq_true rfl) dX3_pair_44 ⟨Nat.le_of_ble_eq_true rfl, Nat.le_of_ble_eq_true rfl⟩) (fun r_44 hw_44 => ?_)
            rcases hw_44 with ⟨rfl, hw_44⟩ | ⟨rfl, hw_44⟩
            · refine lv_if_ne (tgt := 61) hx hb dX3_pair_47 (by decide) (fun c_47 => ?_) (fun h => absurd h (by decide))
              refine lv_bipush (v := (-3)) hx hb dX3_pair_61 (by decide) ?_
              exact retM_i (S := XS) (post := fun r u => (((¬ ∃ i, i < 6 ∧ (nI i9) = nI i ∧ bt ic i = true) ∨ (¬ ∃ j, j < 6 ∧ (nI j9) = nI j ∧ bt ic j = true) ∨ (nI i9) = (nI j9)) ∧ r = -1 ∧ u = (ln, cw, ic, bs, ss, se, we, un, sf, pa)) ∨ (∃ i j, i < 6 ∧ j < 6 ∧ (nI i9) = nI i ∧ (nI j9) = nI j ∧ i ≠ j ∧ bt ic i = true ∧ bt ic j = true ∧ (((¬ un i = x_bit i ∨ ¬ un j = x_bit j ∨ bt ss i = true ∨ bt ss j = true) ∧ r = -3 ∧ u = (ln, cw, ic, bs, ss, se, we, un, sf, pa)) ∨ (¬ (¬ un i = x_bit i ∨ ¬ un j = x_bit j ∨ bt ss i = true ∨ bt ss j = true) ∧ r = 1 ∧ u = (ln, cw, ic, bs, ss, se, we, (upd (upd un i (x_bit i ||| x_bit j)) j (x_bit i ||| x_bit j)), sf, pa))))) (w2 := fun u => xWt cI q u) (ln, cw, ic, bs, ss, se, we, un, sf, pa) hx hb hr hlocks (by first | exact Or.inl ⟨Or.inl hw_2, rfl, rfl⟩ | exact Or.inl ⟨Or.inr (Or.inl hw_10), rfl, rfl⟩ | exact Or.inl ⟨Or.inr (Or.inr c_18), rfl, rfl⟩ | exact Or.inr ⟨i9, j9, hi, hj, rfl, rfl, hij, hbi, hbj, Or.inl ⟨by first | exact Or.inl hw_25 | exact Or.inr (Or.inl hw_33) | exact Or.inr (Or.inr (Or.inl hw_44)) | exact Or.inr (Or.inr (Or.inr hw_55)), rfl, rfl⟩⟩ | exact Or.inr ⟨i9, j9, hi, hj, rfl, rfl, hij, hbi, hbj, Or.inr ⟨fun h => by rcases h with h | h | h | h; exact hw_25 h; exact hw_33 h; exact hw_44 h; exact hw_55 h, rfl, rfl⟩⟩) hP hK hD hS dX3_pair_63
            · refine lv_if_ne (tgt := 61) hx hb dX3_pair_47 (by decide) (fun h => absurd h (by decide)) (fun c_47 => ?_)
              refine lv_aload_n hx hb dX3_pair_50 rfl (lv_at hl 0 rfl) ?_
              refine va_get (D := (dC, dI)) (ci := 3) (v := .int ss) (C := RX3) (T := TX3) (N := 11) hx hb hT hiX3 hown hK hP 0 rfl rfl 5 (by decide) (hT _ kf_X3_79) (fun _ h9 => h9) rfl dX3_pair_51 ?_
              refine lv_iload_n hx hb dX3_pair_54 rfl (lv_at hl 2 rfl) ?_
              refine vp_callSi (rRS (As := [.int ss, .int (nI j9)]) (rest := []) ⟨hx, hb, hml, hown, hT⟩ (c_X3_has (l := l) ss j9 (by first | assumption | omega)) (cwTS 2 hT kc_X3_has km_X3_49 kt_X3_has kn_X3 rfl rfl md_X3_has ⟨Nat.le_of_ble_eq_true rfl, Nat.le_of_ble_eq_true rfl⟩) nilP hK  rfl hl.1 rfl (Nat.le_of_ble_eq_true rfl) dX3_pair_55 ⟨Nat.le_of_ble_eq_true rfl, Nat.le_of_ble_eq_true rfl⟩) (fun r_55 hw_55 => ?_)
              rcases hw_55 with ⟨rfl, hw_55⟩ | ⟨rfl, hw_55⟩
              · refine lv_if_eq (tgt := 64) hx hb dX3_pair_58 (by decide) (fun h => absurd h (by decide)) (fun c_58 => ?_)
                refine lv_bipush (v := (-3)) hx hb dX3_pair_61 (by decide) ?_
                exact retM_i (S := XS) (post := fun r u => (((¬ ∃ i, i < 6 ∧ (nI i9) = nI i ∧ bt ic i = true) ∨ (¬ ∃ j, j < 6 ∧ (nI j9) = nI j ∧ bt ic j = true) ∨ (nI i9) = (nI j9)) ∧ r = -1 ∧ u = (ln, cw, ic, bs, ss, se, we, un, sf, pa)) ∨ (∃ i j, i < 6 ∧ j < 6 ∧ (nI i9) = nI i ∧ (nI j9) = nI j ∧ i ≠ j ∧ bt ic i = true ∧ bt ic j = true ∧ (((¬ un i = x_bit i ∨ ¬ un j = x_bit j ∨ bt ss i = true ∨ bt ss j = true) ∧ r = -3 ∧ u = (ln, cw, ic, bs, ss, se, we, un, sf, pa)) ∨ (¬ (¬ un i = x_bit i ∨ ¬ un j = x_bit j ∨ bt ss i = true ∨ bt ss j = true) ∧ r = 1 ∧ u = (ln, cw, ic, bs, ss, se, we, (upd (upd un i (x_bit i ||| x_bit j)) j (x_bit i ||| x_bit j)), sf, pa))))) (w2 := fun u => xWt cI q u) (ln, cw, ic, bs, ss, se, we, un, sf, pa) hx hb hr hlocks (by first | exact Or.inl ⟨Or.inl hw_2, rfl, rfl⟩ | exact Or.inl ⟨Or.inr (Or.inl hw_10), rfl, rfl⟩ | exact Or.inl ⟨Or.inr (Or.inr c_18), rfl, rfl⟩ | exact Or.inr ⟨i9, j9, hi, hj, rfl, rfl, hij, hbi, hbj, Or.inl ⟨by first | exact Or.inl hw_25 | exact Or.inr (Or.inl hw_33) | exact Or.inr (Or.inr (Or.inl hw_44)) | exact Or.inr (Or.inr (Or.inr hw_55)), rfl, rfl⟩⟩ | exact Or.inr ⟨i9, j9, hi, hj, rfl, rfl, hij, hbi, hbj, Or.inr ⟨fun h => by rcases h with h | h | h | h; exact hw_25 h; exact hw_33 h; exact hw_44 h; exact hw_55 h, rfl, rfl⟩⟩) hP hK hD hS dX3_pair_63
              · refine lv_if_eq (tgt := 64) hx hb dX3_pair_58 (by decide) (fun c_58 => ?_) (fun h => absurd h (by decide))
                refine lv_aload_n hx hb dX3_pair_64 rfl (lv_at hl 0 rfl) ?_
                refine va_get (D := (dC, dI)) (ci := 3) (v := .ref (q 3)) (C := RX3) (T := TX3) (N := 11) hx hb hT hiX3 hown hK hP 0 rfl rfl 7 (by decide) (hT _ kf_X3_18) (fun _ h9 => h9) rfl dX3_pair_65 ?_
                refine lv_iload_n hx hb dX3_pair_68 rfl (lv_at hl 1 rfl) ?_
                refine lv_iload_n hx hb dX3_pair_69 rfl (lv_at hl 1 rfl) ?_
                refine vp_callSi (rRS (As := [.int (nI i9)]) (rest := [.int (nI i9), .ref (q 3)]) ⟨hx, hb, hml, hown, hT⟩ (c_X3_bit (l := l) i9) (cwTS 1 hT kc_X3_bit km_X3_53 kt_X3_bit kn_X3 rfl rfl md_X3_bit ⟨Nat.le_of_ble_eq_true rfl, Nat.le_of_ble_eq_true rfl⟩) nilP hK  rfl hl.1 rfl (Nat.le_of_ble_eq_true rfl) dX3_pair_70 ⟨Nat.le_of_ble_eq_true rfl, Nat.le_of_ble_eq_true rfl⟩) (fun r_70 hw_70 => ?_)
                subst hw_70
                refine lv_iload_n hx hb dX3_pair_73 rfl (lv_at hl 2 rfl) ?_
                refine vp_callSi (rRS (As := [.int (nI j9)]) (rest := [.int (x_bit i9), .int (nI i9), .ref (q 3)]) ⟨hx, hb, hml, hown, hT⟩ (c_X3_bit (l := l) j9) (cwTS 1 hT kc_X3_bit km_X3_53 kt_X3_bit kn_X3 rfl rfl md_X3_bit ⟨Nat.le_of_ble_eq_true rfl, Nat.le_of_ble_eq_true rfl⟩) nilP hK  rfl hl.1 rfl (Nat.le_of_ble_eq_true rfl) dX3_pair_74 ⟨Nat.le_of_ble_eq_true rfl, Nat.le_of_ble_eq_true rfl⟩) (fun r_74 hw_74 => ?_)
                subst hw_74
                refine lv_ior hx hb dX3_pair_77 ?_
                refine ast_i hx hb hK hP hD hS 3 0 rfl rfl (by decide) (w := i9) rfl (by omega) dX3_pair_78 (fun H locs hP hD hS => ?_)
                have hP : va_P (dC, dI) vwCl (xW cI q ln cw ic bs ss se we (upd un i9 ((x_bit i9) ||| (x_bit j9))) sf pa) H := hP
                have hD : va_D A (xW cI q ln cw ic bs ss se we (upd un i9 ((x_bit i9) ||| (x_bit j9))) sf pa) := hD
                refine lv_aload_n hx hb dX3_pair_79 rfl (lv_at hl 0 rfl) ?_
                refine va_get (D := (dC, dI)) (ci := 3) (v := .ref (q 3)) (C := RX3) (T := TX3) (N := 11) hx hb hT hiX3 hown hK hP 0 rfl rfl 7 (by decide) (hT _ kf_X3_18) (fun _ h9 => h9) rfl dX3_pair_80 ?_
                refine lv_iload_n hx hb dX3_pair_83 rfl (lv_at hl 2 rfl) ?_
                refine lv_iload_n hx hb dX3_pair_84 rfl (lv_at hl 1 rfl) ?_
                refine vp_callSi (rRS (As := [.int (nI i9)]) (rest := [.int (nI j9), .ref (q 3)]) ⟨hx, hb, hml, hown, hT⟩ (c_X3_bit (l := l) i9) (cwTS 1 hT kc_X3_bit km_X3_53 kt_X3_bit kn_X3 rfl rfl md_X3_bit ⟨Nat.le_of_ble_eq_true rfl, Nat.le_of_ble_eq_true rfl⟩) nilP hK  rfl hl.1 rfl (Nat.le_of_ble_eq_true rfl) dX3_pair_85 ⟨Nat.le_of_ble_eq_true rfl, Nat.le_of_ble_eq_true rfl⟩) (fun r_85 hw_85 => ?_)
                subst hw_85
                refine lv_iload_n hx hb dX3_pair_88 rfl (lv_at hl 2 rfl) ?_
                refine vp_callSi (rRS (As := [.int (nI j9)]) (rest := [.int (x_bit i9), .int (nI j9), .ref (q 3)]) ⟨hx, hb, hml, hown, hT⟩ (c_X3_bit (l := l) j9) (cwTS 1 hT kc_X3_bit km_X3_53 kt_X3_bit kn_X3 rfl rfl md_X3_bit ⟨Nat.le_of_ble_eq_true rfl, Nat.le_of_ble_eq_true rfl⟩) nilP hK  rfl hl.1 rfl (Nat.le_of_ble_eq_true rfl) dX3_pair_89 ⟨Nat.le_of_ble_eq_true rfl, Nat.le_of_ble_eq_true rfl⟩) (fun r_89 hw_89 => ?_)
                subst hw_89
                refine lv_ior hx hb dX3_pair_92 ?_
                refine ast_i hx hb hK hP hD hS 3 0 rfl rfl (by decide) (w := j9) rfl (by omega) dX3_pair_93 (fun H locs hP hD hS => ?_)
                have hP : va_P (dC, dI) vwCl (xW cI q ln cw ic bs ss se we (upd (upd un i9 ((x_bit i9) ||| (x_bit j9))) j9 ((x_bit i9) ||| (x_bit j9))) sf pa) H := hP
                have hD : va_D A (xW cI q ln cw ic bs ss se we (upd (upd un i9 ((x_bit i9) ||| (x_bit j9))) j9 ((x_bit i9) ||| (x_bit j9))) sf pa) := hD
                refine lv_iconst (v := 1) hx hb dX3_pair_94 (by decide) ?_
                exact retM_i (S := XS) (post := fun r u => (((¬ ∃ i, i < 6 ∧ (nI i9) = nI i ∧ bt ic i = true) ∨ (¬ ∃ j, j < 6 ∧ (nI j9) = nI j ∧ bt ic j = true) ∨ (nI i9) = (nI j9)) ∧ r = -1 ∧ u = (ln, cw, ic, bs, ss, se, we, un, sf, pa)) ∨ (∃ i j, i < 6 ∧ j < 6 ∧ (nI i9) = nI i ∧ (nI j9) = nI j ∧ i ≠ j ∧ bt ic i = true ∧ bt ic j = true ∧ (((¬ un i = x_bit i ∨ ¬ un j = x_bit j ∨ bt ss i = true ∨ bt ss j = true) ∧ r = -3 ∧ u = (ln, cw, ic, bs, ss, se, we, un, sf, pa)) ∨ (¬ (¬ un i = x_bit i ∨ ¬ un j = x_bit j ∨ bt ss i = true ∨ bt ss j = true) ∧ r = 1 ∧ u = (ln, cw, ic, bs, ss, se, we, (upd (upd un i (x_bit i ||| x_bit j)) j (x_bit i ||| x_bit j)), sf, pa))))) (w2 := fun u => xWt cI q u) (ln, cw, ic, bs, ss, se, we, (upd (upd un i9 ((x_bit i9) ||| (x_bit j9))) j9 ((x_bit i9) ||| (x_bit j9))), sf, pa) hx hb hr hlocks (by first | exact Or.inl ⟨Or.inl hw_2, rfl, rfl⟩ | exact Or.inl ⟨Or.inr (Or.inl hw_10), rfl, rfl⟩ | exact Or.inl ⟨Or.inr (Or.inr c_18), rfl, rfl⟩ | exact Or.inr ⟨i9, j9, hi, hj, rfl, rfl, hij, hbi, hbj, Or.inl ⟨by first | exact Or.inl hw_25 | exact Or.inr (Or.inl hw_33) | exact Or.inr (Or.inr (Or.inl hw_44)) | exact Or.inr (Or.inr (Or.inr hw_55)), rfl, rfl⟩⟩ | exact Or.inr ⟨i9, j9, hi, hj, rfl, rfl, hij, hbi, hbj, Or.inr ⟨fun h => by rcases h with h | h | h | h; exact hw_25 h; exact hw_33 h; exact hw_44 h; exact hw_55 h, rfl, rfl⟩⟩) hP hK hD hS dX3_pair_95
      · refine lv_iconst (v := (-1)) hx hb dX3_pair_21 (by decide) ?_
        exact retM_i (S := XS) (post := fun r u => (((¬ ∃ i, i < 6 ∧ (nI i9) = nI i ∧ bt ic i = true) ∨ (¬ ∃ j, j < 6 ∧ (nI j9) = nI j ∧ bt ic j = true) ∨ (nI i9) = (nI j9)) ∧ r = -1 ∧ u = (ln, cw, ic, bs, ss, se, we, un, sf, pa)) ∨ (∃ i j, i < 6 ∧ j < 6 ∧ (nI i9) = nI i ∧ (nI j9) = nI j ∧ i ≠ j ∧ bt ic i = true ∧ bt ic j = true ∧ (((¬ un i = x_bit i ∨ ¬ un j = x_bit j ∨ bt ss i = true ∨ bt ss j = true) ∧ r = -3 ∧ u = (ln, cw, ic, bs, ss, se, we, un, sf, pa)) ∨ (¬ (¬ un i = x_bit i ∨ ¬ un j = x_bit j ∨ bt ss i = true ∨ bt ss j = true) ∧ r = 1 ∧ u = (ln, cw, ic, bs, ss, se, we, (upd (upd un i (x_bit i ||| x_bit j)) j (x_bit i ||| x_bit j)), sf, pa))))) (w2 := fun u => xWt cI q u) (ln, cw, ic, bs, ss, se, we, un, sf, pa) hx hb hr hlocks (by first | exact Or.inl ⟨Or.inl hw_2, rfl, rfl⟩ | exact Or.inl ⟨Or.inr (Or.inl hw_10), rfl, rfl⟩ | exact Or.inl ⟨Or.inr (Or.inr c_18), rfl, rfl⟩ | exact Or.inr ⟨i9, j9, hi, hj, rfl, rfl, hij, hbi, hbj, Or.inl ⟨by first | exact Or.inl hw_25 | exact Or.inr (Or.inl hw_33) | exact Or.inr (Or.inr (Or.inl hw_44)) | exact Or.inr (Or.inr (Or.inr hw_55)), rfl, rfl⟩⟩ | exact Or.inr ⟨i9, j9, hi, hj, rfl, rfl, hij, hbi, hbj, Or.inr ⟨fun h => by rcases h with h | h | h | h; exact hw_25 h; exact hw_33 h; exact hw_44 h; exact hw_55 h, rfl, rfl⟩⟩) hP hK hD hS dX3_pair_22
    · refine lv_if_eq (tgt := 21) hx hb dX3_pair_13 (by decide) (fun c_13 => ?_) (fun h => absurd h (by decide))
      refine lv_iconst (v := (-1)) hx hb dX3_pair_21 (by decide) ?_
      exact retM_i (S := XS) (post := fun r u => (((¬ ∃ i, i < 6 ∧ (nI i9) = nI i ∧ bt ic i = true) ∨ (¬ ∃ j, j < 6 ∧ w = nI j ∧ bt ic j = true) ∨ (nI i9) = w) ∧ r = -1 ∧ u = (ln, cw, ic, bs, ss, se, we, un, sf, pa)) ∨ (∃ i j, i < 6 ∧ j < 6 ∧ (nI i9) = nI i ∧ w = nI j ∧ i ≠ j ∧ bt ic i = true ∧ bt ic j = true ∧ (((¬ un i = x_bit i ∨ ¬ un j = x_bit j ∨ bt ss i = true ∨ bt ss j = true) ∧ r = -3 ∧ u = (ln, cw, ic, bs, ss, se, we, un, sf, pa)) ∨ (¬ (¬ un i = x_bit i ∨ ¬ un j = x_bit j ∨ bt ss i = true ∨ bt ss j = true) ∧ r = 1 ∧ u = (ln, cw, ic, bs, ss, se, we, (upd (upd un i (x_bit i ||| x_bit j)) j (x_bit i ||| x_bit j)), sf, pa))))) (w2 := fun u => xWt cI q u) (ln, cw, ic, bs, ss, se, we, un, sf, pa) hx hb hr hlocks (by first | exact Or.inl ⟨Or.inl hw_2, rfl, rfl⟩ | exact Or.inl ⟨Or.inr (Or.inl hw_10), rfl, rfl⟩ | exact Or.inl ⟨Or.inr (Or.inr c_18), rfl, rfl⟩ | exact Or.inr ⟨i9, j9, hi, hj, rfl, rfl, hij, hbi, hbj, Or.inl ⟨by first | exact Or.inl hw_25 | exact Or.inr (Or.inl hw_33) | exact Or.inr (Or.inr (Or.inl hw_44)) | exact Or.inr (Or.inr (Or.inr hw_55)), rfl, rfl⟩⟩ | exact Or.inr ⟨i9, j9, hi, hj, rfl, rfl, hij, hbi, hbj, Or.inr ⟨fun h => by rcases h with h | h | h | h; exact hw_25 h; exact hw_33 h; exact hw_44 h; exact hw_55 h, rfl, rfl⟩⟩) hP hK hD hS dX3_pair_22
  · refine lv_if_eq (tgt := 21) hx hb dX3_pair_5 (by decide) (fun c_5 => ?_) (fun h => absurd h (by decide))
    refine lv_iconst (v := (-1)) hx hb dX3_pair_21 (by decide) ?_
    exact retM_i (S := XS) (post := fun r u => (((¬ ∃ i, i < 6 ∧ v = nI i ∧ bt ic i = true) ∨ (¬ ∃ j, j < 6 ∧ w = nI j ∧ bt ic j = true) ∨ v = w) ∧ r = -1 ∧ u = (ln, cw, ic, bs, ss, se, we, un, sf, pa)) ∨ (∃ i j, i < 6 ∧ j < 6 ∧ v = nI i ∧ w = nI j ∧ i ≠ j ∧ bt ic i = true ∧ bt ic j = true ∧ (((¬ un i = x_bit i ∨ ¬ un j = x_bit j ∨ bt ss i = true ∨ bt ss j = true) ∧ r = -3 ∧ u = (ln, cw, ic, bs, ss, se, we, un, sf, pa)) ∨ (¬ (¬ un i = x_bit i ∨ ¬ un j = x_bit j ∨ bt ss i = true ∨ bt ss j = true) ∧ r = 1 ∧ u = (ln, cw, ic, bs, ss, se, we, (upd (upd un i (x_bit i ||| x_bit j)) j (x_bit i ||| x_bit j)), sf, pa))))) (w2 := fun u => xWt cI q u) (ln, cw, ic, bs, ss, se, we, un, sf, pa) hx hb hr hlocks (by first | exact Or.inl ⟨Or.inl hw_2, rfl, rfl⟩ | exact Or.inl ⟨Or.inr (Or.inl hw_10), rfl, rfl⟩ | exact Or.inl ⟨Or.inr (Or.inr c_18), rfl, rfl⟩ | exact Or.inr ⟨i9, j9, hi, hj, rfl, rfl, hij, hbi, hbj, Or.inl ⟨by first | exact Or.inl hw_25 | exact Or.inr (Or.inl hw_33) | exact Or.inr (Or.inr (Or.inl hw_44)) | exact Or.inr (Or.inr (Or.inr hw_55)), rfl, rfl⟩⟩ | exact Or.inr ⟨i9, j9, hi, hj, rfl, rfl, hij, hbi, hbj, Or.inr ⟨fun h => by rcases h with h | h | h | h; exact hw_25 h; exact hw_33 h; exact hw_44 h; exact hw_55 h, rfl, rfl⟩⟩) hP hK hD hS dX3_pair_22
set_option maxHeartbeats 4000000 in
set_option maxRecDepth 100000 in
theorem c_X3_part (sz : Nat) (v : Int32) : Met l yX3_part (wT yX3_part cX3_part 2 (some .int)) ({ frames := 2, cells := 0, slots := 0, locals := 44 }) (pM (dC, dI) (ty3 cI cJ cZ) (xW cI q ln cw ic bs ss se we un sf pa) [.ref (q 0), .int v] sz) (va_Qi (S := XS) (fun r u => xk (fun j => bt ic j = true) v (r = -1 ∧ u = (ln, cw, ic, bs, ss, se, we, un, sf, pa)) (fun j => ((un j = x_bit j ∨ bt ss j = true) ∧ r = -3 ∧ u = (ln, cw, ic, bs, ss, se, we, un, sf, pa)) ∨ (¬ (un j = x_bit j ∨ bt ss j = true) ∧ r = 1 ∧ u = (ln, cw, ic, bs, ss, se, we, (x_part (un j) un 6), sf, pa)))) (fun u t9 => bM (dC, dI) (ty3 cI cJ cZ) (va_A (xW cI q ln cw ic bs ss se we un sf pa) sz) (xWt cI q u) t9) (va_A (xW cI q ln cw ic bs ss se we un sf pa) sz)) 0 0 (va_A (xW cI q ln cw ic bs ss se we un sf pa) sz) := by
  refine Met.ofW (cc := cX3_part) (maxL := 2) (ret := (some .int)) (by decide) rfl ?_
  intro p e s m args below meth c s₁ B hml hv
  obtain ⟨rfl, hsz, hP, hK, hD0⟩ := hv
  have hx := B.exec
  have hb := B.bytes
  have hr := B.returns
  have hts := atoms_spec (ws := wT yX3_part cX3_part 2 (some .int)) B.pre
  have hT := wT_T hts
  have hown : s.vm.findClass RX3 = some m.cls := findClass_of_methodNamed B.named
  have hlocks := B.notSynchronized
  subst hsz
  have hD := hD0.self (sz := s.heap.size)
  generalize hAe : va_A (xW cI q ln cw ic bs ss se we un sf pa) s.heap.size = A at hD ⊢
  have hA : ∀ q : Nat, s.heap.size ≤ q → A q := fun q h => by rw [← hAe]; exact Or.inr h
  have hS : va_S A s.heap s.heap [] := va_S.rf
  have hl := lv_entry ([.ref (q 0), .int v]) (n := 2) (Nat.le_of_ble_eq_true rfl)
  rw [lg_entry_eq]
  generalize (lg_sl ([.ref (q 0), .int v]) ++ List.replicate (2 - (lg_sl ([.ref (q 0), .int v])).length) Slot.unset).toArray = ls at hl ⊢
  have hl : lv_has ls 2 [(0, .ref (q 0)), (1, .int v)] := hl
  refine lv_aload_n hx hb dX3_part_0 rfl (lv_at hl 0 rfl) ?_
  refine lv_iload_n hx hb dX3_part_1 rfl (lv_at hl 1 rfl) ?_
  refine vp_callSi (rRV (As := [.int v]) (rest := []) ⟨hx, hb, hml, hown, hT⟩ (c_X3_isKnown (l := l) v) (cwTV 1 hT kc_X3_isKnown km_X3_57 ki_X3_isKnown ks_X3_isKnown kn_X3 rfl rfl md_X3_isKnown ⟨Nat.le_of_ble_eq_true rfl, Nat.le_of_ble_eq_true rfl⟩) hP hK (va_recv hK hP (ci := 3) (q0 := 0) rfl rfl) rfl hl.1 rfl (Nat.le_of_ble_eq_true rfl) dX3_part_2 ⟨Nat.le_of_ble_eq_true rfl, Nat.le_of_ble_eq_true rfl⟩) (fun r_2 hw_2 => ?_)
  rcases hw_2 with ⟨rfl, hw_2⟩ | ⟨rfl, hw_2⟩
  · obtain ⟨j, hj, rfl, hbj⟩ := hw_2
    refine lv_if_ne (tgt := 10) hx hb dX3_part_5 (by decide) (fun c_5 => ?_) (fun h => absurd h (by decide))
    refine lv_aload_n hx hb dX3_part_10 rfl (lv_at hl 0 rfl) ?_
    refine lv_iload_n hx hb dX3_part_11 rfl (lv_at hl 1 rfl) ?_
    refine vp_callSi (rRV (As := [.int (nI j)]) (rest := []) ⟨hx, hb, hml, hown, hT⟩ (c_X3_isPaired (l := l) j (by first | assumption | omega)) (cwTV 1 hT kc_X3_isPaired km_X3_76 ki_X3_isPaired ks_X3_isPaired kn_X3 rfl rfl md_X3_isPaired ⟨Nat.le_of_ble_eq_true rfl, Nat.le_of_ble_eq_true rfl⟩) hP hK (va_recv hK hP (ci := 3) (q0 := 0) rfl rfl) rfl hl.1 rfl (Nat.le_of_ble_eq_true rfl) dX3_part_12 ⟨Nat.le_of_ble_eq_true rfl, Nat.le_of_ble_eq_true rfl⟩) (fun r_12 hw_12 => ?_)
    rcases hw_12 with ⟨rfl, hw_12⟩ | ⟨rfl, hw_12⟩
    · refine lv_if_eq (tgt := 29) hx hb dX3_part_15 (by decide) (fun h => absurd h (by decide)) (fun c_15 => ?_)
      refine lv_aload_n hx hb dX3_part_18 rfl (lv_at hl 0 rfl) ?_
      refine va_get (D := (dC, dI)) (ci := 3) (v := .int ss) (C := RX3) (T := TX3) (N := 11) hx hb hT hiX3 hown hK hP 0 rfl rfl 5 (by decide) (hT _ kf_X3_79) (fun _ h9 => h9) rfl dX3_part_19 ?_
      refine lv_iload_n hx hb dX3_part_22 rfl (lv_at hl 1 rfl) ?_
      refine vp_callSi (rRS (As := [.int ss, .int (nI j)]) (rest := []) ⟨hx, hb, hml, hown, hT⟩ (c_X3_has (l := l) ss j (by first | assumption | omega)) (cwTS 2 hT kc_X3_has km_X3_49 kt_X3_has kn_X3 rfl rfl md_X3_has ⟨Nat.le_of_ble_eq_true rfl, Nat.le_of_ble_eq_true rfl⟩) nilP hK  rfl hl.1 rfl (Nat.le_of_ble_eq_true rfl) dX3_part_23 ⟨Nat.le_of_ble_eq_true rfl, Nat.le_of_ble_eq_true rfl⟩) (fun r_23 hw_23 => ?_)
      rcases hw_23 with ⟨rfl, hw_23⟩ | ⟨rfl, hw_23⟩
      · refine lv_if_eq (tgt := 32) hx hb dX3_part_26 (by decide) (fun h => absurd h (by decide)) (fun c_26 => ?_)
        refine lv_bipush (v := (-3)) hx hb dX3_part_29 (by decide) ?_
        exact retM_i (S := XS) (post := fun r u => xk (fun j => bt ic j = true) (nI j) (r = -1 ∧ u = (ln, cw, ic, bs, ss, se, we, un, sf, pa)) (fun j => ((un j = x_bit j ∨ bt ss j = true) ∧ r = -3 ∧ u = (ln, cw, ic, bs, ss, se, we, un, sf, pa)) ∨ (¬ (un j = x_bit j ∨ bt ss j = true) ∧ r = 1 ∧ u = (ln, cw, ic, bs, ss, se, we, (x_part (un j) un 6), sf, pa)))) (w2 := fun u => xWt cI q u) (ln, cw, ic, bs, ss, se, we, un, sf, pa) hx hb hr hlocks (by first | exact Or.inr ⟨hw_2, rfl, rfl⟩ | exact Or.inl ⟨j, hj, rfl, hbj, Or.inl ⟨Or.inl (Classical.not_not.mp hw_12), rfl, rfl⟩⟩ | exact Or.inl ⟨j, hj, rfl, hbj, Or.inl ⟨Or.inr hw_23, rfl, rfl⟩⟩ | exact Or.inl ⟨j, hj, rfl, hbj, Or.inr ⟨fun h => h.elim hw_12 hw_23, rfl, rfl⟩⟩) hP hK hD hS dX3_part_31
      · refine lv_if_eq (tgt := 32) hx hb dX3_part_26 (by decide) (fun c_26 => ?_) (fun h => absurd h (by decide))
        refine lv_aload_n hx hb dX3_part_32 rfl (lv_at hl 0 rfl) ?_
        refine lv_iload_n hx hb dX3_part_33 rfl (lv_at hl 1 rfl) ?_
        refine fM_v (wc := xW cI q ln cw ic bs ss se we un sf pa) (wr := []) (rMV (wc := xW cI q ln cw ic bs ss se we un sf pa) (As := [.int (nI j)]) (rest := []) ⟨hx, hb, hml, hown, hT⟩ (c_X3_partUnit (l := l) s.heap.size j (by first | assumption | omega)) (cwTV 1 hT kc_X3_partUnit km_X3_65 ki_X3_partUnit ks_X3_partUnit kn_X3 rfl rfl md_X3_partUnit ⟨Nat.le_of_ble_eq_true rfl, Nat.le_of_ble_eq_true rfl⟩) hP hD hK (va_recv hK hP (ci := 3) (q0 := 0) rfl rfl) rfl hl.1 rfl (Nat.le_of_ble_eq_true rfl) dX3_part_34 ⟨Nat.le_of_ble_eq_true rfl, Nat.le_of_ble_eq_true rfl⟩) hP hD hS hA (fun u_34 H locs hw_34 hP hD hS => ?_)
        have hP : va_P (dC, dI) vwCl (xW cI q ln cw ic bs ss se we (x_part (un j) un 6) sf pa) H := hP
        have hD : va_D A (xW cI q ln cw ic bs ss se we (x_part (un j) un 6) sf pa) := hD
        refine lv_iconst (v := 1) hx hb dX3_part_37 (by decide) ?_
        exact retM_i (S := XS) (post := fun r u => xk (fun j => bt ic j = true) (nI j) (r = -1 ∧ u = (ln, cw, ic, bs, ss, se, we, un, sf, pa)) (fun j => ((un j = x_bit j ∨ bt ss j = true) ∧ r = -3 ∧ u = (ln, cw, ic, bs, ss, se, we, un, sf, pa)) ∨ (¬ (un j = x_bit j ∨ bt ss j = true) ∧ r = 1 ∧ u = (ln, cw, ic, bs, ss, se, we, (x_part (un j) un 6), sf, pa)))) (w2 := fun u => xWt cI q u) (ln, cw, ic, bs, ss, se, we, (x_part (un j) un 6), sf, pa) hx hb hr hlocks (by first | exact Or.inr ⟨hw_2, rfl, rfl⟩ | exact Or.inl ⟨j, hj, rfl, hbj, Or.inl ⟨Or.inl (Classical.not_not.mp hw_12), rfl, rfl⟩⟩ | exact Or.inl ⟨j, hj, rfl, hbj, Or.inl ⟨Or.inr hw_23, rfl, rfl⟩⟩ | exact Or.inl ⟨j, hj, rfl, hbj, Or.inr ⟨fun h => h.elim hw_12 hw_23, rfl, rfl⟩⟩) hP hK hD hS dX3_part_38
    · refine lv_if_eq (tgt := 29) hx hb dX3_part_15 (by decide) (fun c_15 => ?_) (fun h => absurd h (by decide))
      refine lv_bipush (v := (-3)) hx hb dX3_part_29 (by decide) ?_
      exact retM_i (S := XS) (post := fun r u => xk (fun j => bt ic j = true) (nI j) (r = -1 ∧ u = (ln, cw, ic, bs, ss, se, we, un, sf, pa)) (fun j => ((un j = x_bit j ∨ bt ss j = true) ∧ r = -3 ∧ u = (ln, cw, ic, bs, ss, se, we, un, sf, pa)) ∨ (¬ (un j = x_bit j ∨ bt ss j = true) ∧ r = 1 ∧ u = (ln, cw, ic, bs, ss, se, we, (x_part (un j) un 6), sf, pa)))) (w2 := fun u => xWt cI q u) (ln, cw, ic, bs, ss, se, we, un, sf, pa) hx hb hr hlocks (by first | exact Or.inr ⟨hw_2, rfl, rfl⟩ | exact Or.inl ⟨j, hj, rfl, hbj, Or.inl ⟨Or.inl (Classical.not_not.mp hw_12), rfl, rfl⟩⟩ | exact Or.inl ⟨j, hj, rfl, hbj, Or.inl ⟨Or.inr hw_23, rfl, rfl⟩⟩ | exact Or.inl ⟨j, hj, rfl, hbj, Or.inr ⟨fun h => h.elim hw_12 hw_23, rfl, rfl⟩⟩) hP hK hD hS dX3_part_31
  · refine lv_if_ne (tgt := 10) hx hb dX3_part_5 (by decide) (fun h => absurd h (by decide)) (fun c_5 => ?_)
    refine lv_iconst (v := (-1)) hx hb dX3_part_8 (by decide) ?_
    exact retM_i (S := XS) (post := fun r u => xk (fun j => bt ic j = true) v (r = -1 ∧ u = (ln, cw, ic, bs, ss, se, we, un, sf, pa)) (fun j => ((un j = x_bit j ∨ bt ss j = true) ∧ r = -3 ∧ u = (ln, cw, ic, bs, ss, se, we, un, sf, pa)) ∨ (¬ (un j = x_bit j ∨ bt ss j = true) ∧ r = 1 ∧ u = (ln, cw, ic, bs, ss, se, we, (x_part (un j) un 6), sf, pa)))) (w2 := fun u => xWt cI q u) (ln, cw, ic, bs, ss, se, we, un, sf, pa) hx hb hr hlocks (by first | exact Or.inr ⟨hw_2, rfl, rfl⟩ | exact Or.inl ⟨j, hj, rfl, hbj, Or.inl ⟨Or.inl (Classical.not_not.mp hw_12), rfl, rfl⟩⟩ | exact Or.inl ⟨j, hj, rfl, hbj, Or.inl ⟨Or.inr hw_23, rfl, rfl⟩⟩ | exact Or.inl ⟨j, hj, rfl, hbj, Or.inr ⟨fun h => h.elim hw_12 hw_23, rfl, rfl⟩⟩) hP hK hD hS dX3_part_9
set_option maxHeartbeats 4000000 in
set_option maxRecDepth 100000 in
theorem c_X3_settle (sz : Nat) (v x : Int32) : Met l yX3_settle (wT yX3_settle cX3_settle 3 (some .int)) ({ frames := 2, cells := 0, slots := 0, locals := 45 }) (pM (dC, dI) (ty3 cI cJ cZ) (xW cI q ln cw ic bs ss se we un sf pa) [.ref (q 0), .int v, .int x] sz) (va_Qi (S := XS) (fun r u => xk (fun j => bt ic j = true) v (r = -1 ∧ u = (ln, cw, ic, bs, ss, se, we, un, sf, pa)) (fun j => ((x < 0 ∨ 1000000 < x) ∧ r = -2 ∧ u = (ln, cw, ic, bs, ss, se, we, un, sf, pa)) ∨ (¬ (x < 0 ∨ 1000000 < x) ∧ (((bt ss j = true ∨ ¬ x_sumN (un j) pa 6 ≤ 0) ∧ r = -3 ∧ u = (ln, cw, ic, bs, ss, se, we, un, sf, pa)) ∨ (¬ (bt ss j = true ∨ ¬ x_sumN (un j) pa 6 ≤ 0) ∧ r = 1 ∧ u = (ln, cw, ic, bs, (ss ||| un j), se, we, un, (x_fill (un j) x sf 6), pa)))))) (fun u t9 => bM (dC, dI) (ty3 cI cJ cZ) (va_A (xW cI q ln cw ic bs ss se we un sf pa) sz) (xWt cI q u) t9) (va_A (xW cI q ln cw ic bs ss se we un sf pa) sz)) 0 0 (va_A (xW cI q ln cw ic bs ss se we un sf pa) sz) := by
  refine Met.ofW (cc := cX3_settle) (maxL := 3) (ret := (some .int)) (by decide) rfl ?_
  intro p e s m args below meth c s₁ B hml hv
  obtain ⟨rfl, hsz, hP, hK, hD0⟩ := hv
  have hx := B.exec
  have hb := B.bytes
  have hr := B.returns
  have hts := atoms_spec (ws := wT yX3_settle cX3_settle 3 (some .int)) B.pre
  have hT := wT_T hts
  have hown : s.vm.findClass RX3 = some m.cls := findClass_of_methodNamed B.named
  have hlocks := B.notSynchronized
  subst hsz
  have hD := hD0.self (sz := s.heap.size)
  generalize hAe : va_A (xW cI q ln cw ic bs ss se we un sf pa) s.heap.size = A at hD ⊢
  have hA : ∀ q : Nat, s.heap.size ≤ q → A q := fun q h => by rw [← hAe]; exact Or.inr h
  have hS : va_S A s.heap s.heap [] := va_S.rf
  have hl := lv_entry ([.ref (q 0), .int v, .int x]) (n := 3) (Nat.le_of_ble_eq_true rfl)
  rw [lg_entry_eq]
  generalize (lg_sl ([.ref (q 0), .int v, .int x]) ++ List.replicate (3 - (lg_sl ([.ref (q 0), .int v, .int x])).length) Slot.unset).toArray = ls at hl ⊢
  have hl : lv_has ls 3 [(0, .ref (q 0)), (1, .int v), (2, .int x)] := hl
  refine lv_aload_n hx hb dX3_settle_0 rfl (lv_at hl 0 rfl) ?_
  refine lv_iload_n hx hb dX3_settle_1 rfl (lv_at hl 1 rfl) ?_
  refine vp_callSi (rRV (As := [.int v]) (rest := []) ⟨hx, hb, hml, hown, hT⟩ (c_X3_isKnown (l := l) v) (cwTV 1 hT kc_X3_isKnown km_X3_57 ki_X3_isKnown ks_X3_isKnown kn_X3 rfl rfl md_X3_isKnown ⟨Nat.le_of_ble_eq_true rfl, Nat.le_of_ble_eq_true rfl⟩) hP hK (va_recv hK hP (ci := 3) (q0 := 0) rfl rfl) rfl hl.1 rfl (Nat.le_of_ble_eq_true rfl) dX3_settle_2 ⟨Nat.le_of_ble_eq_true rfl, Nat.le_of_ble_eq_true rfl⟩) (fun r_2 hw_2 => ?_)
  rcases hw_2 with ⟨rfl, hw_2⟩ | ⟨rfl, hw_2⟩
  · obtain ⟨j, hj, rfl, hbj⟩ := hw_2
    refine lv_if_ne (tgt := 10) hx hb dX3_settle_5 (by decide) (fun c_5 => ?_) (fun h => absurd h (by decide))
    refine lv_iload_n hx hb dX3_settle_10 rfl (lv_at hl 2 rfl) ?_
    refine lv_iconst (v := 0) hx hb dX3_settle_11 (by decide) ?_
    refine lv_ldc hx hb hown (hT _ kk_X3_34) dX3_settle_12 ?_
    refine vp_callSi (rRS (As := [.int x, .int 0, .int 1000000]) (rest := []) ⟨hx, hb, hml, hown, hT⟩ (c_X3_isOutside (l := l) x 0 1000000) (cwTS 3 hT kc_X3_isOutside km_X3_35 kt_X3_isOutside kn_X3 rfl rfl md_X3_isOutside ⟨Nat.le_of_ble_eq_true rfl, Nat.le_of_ble_eq_true rfl⟩) nilP hK  rfl hl.1 rfl (Nat.le_of_ble_eq_true rfl) dX3_settle_14 ⟨Nat.le_of_ble_eq_true rfl, Nat.le_of_ble_eq_true rfl⟩) (fun r_14 hw_14 => ?_)
    rcases hw_14 with ⟨rfl, hw_14⟩ | ⟨rfl, hw_14⟩
    · refine lv_if_eq (tgt := 23) hx hb dX3_settle_17 (by decide) (fun h => absurd h (by decide)) (fun c_17 => ?_)
      refine lv_bipush (v := (-2)) hx hb dX3_settle_20 (by decide) ?_
      exact retM_i (S := XS) (post := fun r u => xk (fun j => bt ic j = true) (nI j) (r = -1 ∧ u = (ln, cw, ic, bs, ss, se, we, un, sf, pa)) (fun j => ((x < 0 ∨ 1000000 < x) ∧ r = -2 ∧ u = (ln, cw, ic, bs, ss, se, we, un, sf, pa)) ∨ (¬ (x < 0 ∨ 1000000 < x) ∧ (((bt ss j = true ∨ ¬ x_sumN (un j) pa 6 ≤ 0) ∧ r = -3 ∧ u = (ln, cw, ic, bs, ss, se, we, un, sf, pa)) ∨ (¬ (bt ss j = true ∨ ¬ x_sumN (un j) pa 6 ≤ 0) ∧ r = 1 ∧ u = (ln, cw, ic, bs, (ss ||| un j), se, we, un, (x_fill (un j) x sf 6), pa)))))) (w2 := fun u => xWt cI q u) (ln, cw, ic, bs, ss, se, we, un, sf, pa) hx hb hr hlocks (by first | exact Or.inr ⟨hw_2, rfl, rfl⟩ | exact Or.inl ⟨j, hj, rfl, hbj, Or.inl ⟨hw_14, rfl, rfl⟩⟩ | exact Or.inl ⟨j, hj, rfl, hbj, Or.inr ⟨hw_14, Or.inl ⟨Or.inl hw_28, rfl, rfl⟩⟩⟩ | exact Or.inl ⟨j, hj, rfl, hbj, Or.inr ⟨hw_14, Or.inl ⟨Or.inr c_47, rfl, rfl⟩⟩⟩ | exact Or.inl ⟨j, hj, rfl, hbj, Or.inr ⟨hw_14, Or.inr ⟨fun h => h.elim hw_28 (fun h2 => h2 c_47), rfl, rfl⟩⟩⟩) hP hK hD hS dX3_settle_22
    · refine lv_if_eq (tgt := 23) hx hb dX3_settle_17 (by decide) (fun c_17 => ?_) (fun h => absurd h (by decide))
      refine lv_aload_n hx hb dX3_settle_23 rfl (lv_at hl 0 rfl) ?_
      refine va_get (D := (dC, dI)) (ci := 3) (v := .int ss) (C := RX3) (T := TX3) (N := 11) hx hb hT hiX3 hown hK hP 0 rfl rfl 5 (by decide) (hT _ kf_X3_79) (fun _ h9 => h9) rfl dX3_settle_24 ?_
      refine lv_iload_n hx hb dX3_settle_27 rfl (lv_at hl 1 rfl) ?_
      refine vp_callSi (rRS (As := [.int ss, .int (nI j)]) (rest := []) ⟨hx, hb, hml, hown, hT⟩ (c_X3_has (l := l) ss j (by first | assumption | omega)) (cwTS 2 hT kc_X3_has km_X3_49 kt_X3_has kn_X3 rfl rfl md_X3_has ⟨Nat.le_of_ble_eq_true rfl, Nat.le_of_ble_eq_true rfl⟩) nilP hK  rfl hl.1 rfl (Nat.le_of_ble_eq_true rfl) dX3_settle_28 ⟨Nat.le_of_ble_eq_true rfl, Nat.le_of_ble_eq_true rfl⟩) (fun r_28 hw_28 => ?_)
      rcases hw_28 with ⟨rfl, hw_28⟩ | ⟨rfl, hw_28⟩
      · refine lv_if_ne (tgt := 50) hx hb dX3_settle_31 (by decide) (fun c_31 => ?_) (fun h => absurd h (by decide))
        refine lv_bipush (v := (-3)) hx hb dX3_settle_50 (by decide) ?_
        exact retM_i (S := XS) (post := fun r u => xk (fun j => bt ic j = true) (nI j) (r = -1 ∧ u = (ln, cw, ic, bs, ss, se, we, un, sf, pa)) (fun j => ((x < 0 ∨ 1000000 < x) ∧ r = -2 ∧ u = (ln, cw, ic, bs, ss, se, we, un, sf, pa)) ∨ (¬ (x < 0 ∨ 1000000 < x) ∧ (((bt ss j = true ∨ ¬ x_sumN (un j) pa 6 ≤ 0) ∧ r = -3 ∧ u = (ln, cw, ic, bs, ss, se, we, un, sf, pa)) ∨ (¬ (bt ss j = true ∨ ¬ x_sumN (un j) pa 6 ≤ 0) ∧ r = 1 ∧ u = (ln, cw, ic, bs, (ss ||| un j), se, we, un, (x_fill (un j) x sf 6), pa)))))) (w2 := fun u => xWt cI q u) (ln, cw, ic, bs, ss, se, we, un, sf, pa) hx hb hr hlocks (by first | exact Or.inr ⟨hw_2, rfl, rfl⟩ | exact Or.inl ⟨j, hj, rfl, hbj, Or.inl ⟨hw_14, rfl, rfl⟩⟩ | exact Or.inl ⟨j, hj, rfl, hbj, Or.inr ⟨hw_14, Or.inl ⟨Or.inl hw_28, rfl, rfl⟩⟩⟩ | exact Or.inl ⟨j, hj, rfl, hbj, Or.inr ⟨hw_14, Or.inl ⟨Or.inr c_47, rfl, rfl⟩⟩⟩ | exact Or.inl ⟨j, hj, rfl, hbj, Or.inr ⟨hw_14, Or.inr ⟨fun h => h.elim hw_28 (fun h2 => h2 c_47), rfl, rfl⟩⟩⟩) hP hK hD hS dX3_settle_52
      · refine lv_if_ne (tgt := 50) hx hb dX3_settle_31 (by decide) (fun h => absurd h (by decide)) (fun c_31 => ?_)
        refine lv_aload_n hx hb dX3_settle_34 rfl (lv_at hl 0 rfl) ?_
        refine va_get (D := (dC, dI)) (ci := 3) (v := .ref (q 3)) (C := RX3) (T := TX3) (N := 11) hx hb hT hiX3 hown hK hP 0 rfl rfl 7 (by decide) (hT _ kf_X3_18) (fun _ h9 => h9) rfl dX3_settle_35 ?_
        refine lv_iload_n hx hb dX3_settle_38 rfl (lv_at hl 1 rfl) ?_
        refine ald_i hx hb hK hP 3 0 rfl rfl (by decide) (w := j) rfl (by omega) dX3_settle_39 ?_
        refine lv_aload_n hx hb dX3_settle_40 rfl (lv_at hl 0 rfl) ?_
        refine va_get (D := (dC, dI)) (ci := 3) (v := .ref (q 5)) (C := RX3) (T := TX3) (N := 11) hx hb hT hiX3 hown hK hP 0 rfl rfl 9 (by decide) (hT _ kf_X3_24) (fun _ h9 => h9) rfl dX3_settle_41 ?_
        refine vp_callSi (rRS (As := [.int (un j), .ref (q 5)]) (rest := []) ⟨hx, hb, hml, hown, hT⟩ (c_X3_sumOver (l := l) (un j)) (cwTS 2 hT kc_X3_sumOver km_X3_82 kt_X3_sumOver kn_X3 rfl rfl md_X3_sumOver ⟨Nat.le_of_ble_eq_true rfl, Nat.le_of_ble_eq_true rfl⟩) (va_P.sub (ws' := aW cI (q 5) pa) hP [5] rfl) hK  rfl hl.1 rfl (Nat.le_of_ble_eq_true rfl) dX3_settle_44 ⟨Nat.le_of_ble_eq_true rfl, Nat.le_of_ble_eq_true rfl⟩) (fun r_44 hw_44 => ?_)
        subst hw_44
        refine lv_if_le (tgt := 53) hx hb dX3_settle_47 (by decide) (fun c_47 => ?_) (fun c_47 => ?_)
        · refine lv_aload_n hx hb dX3_settle_53 rfl (lv_at hl 0 rfl) ?_
          refine lv_dup hx hb dX3_settle_54 rfl ?_
          refine va_get (D := (dC, dI)) (ci := 3) (v := .int ss) (C := RX3) (T := TX3) (N := 11) hx hb hT hiX3 hown hK hP 0 rfl rfl 5 (by decide) (hT _ kf_X3_79) (fun _ h9 => h9) rfl dX3_settle_55 ?_
          refine lv_aload_n hx hb dX3_settle_58 rfl (lv_at hl 0 rfl) ?_
          refine va_get (D := (dC, dI)) (ci := 3) (v := .ref (q 3)) (C := RX3) (T := TX3) (N := 11) hx hb hT hiX3 hown hK hP 0 rfl rfl 7 (by decide) (hT _ kf_X3_18) (fun _ h9 => h9) rfl dX3_settle_59 ?_
          refine lv_iload_n hx hb dX3_settle_62 rfl (lv_at hl 1 rfl) ?_
          refine ald_i hx hb hK hP 3 0 rfl rfl (by decide) (w := j) rfl (by omega) dX3_settle_63 ?_
          refine lv_ior hx hb dX3_settle_64 ?_
          refine va_put (D := (dC, dI)) (ci := 3) (v := .int (ss ||| (un j))) (ty := .int) (C := RX3) (T := TX3) (N := 11) hx hb hT hiX3 tyX3 tyX3_ok nmX3 hown hK hP hD hS 0 rfl rfl 5 (by decide) (hT _ kf_X3_79) (fun _ h9 => h9) rfl (by decide +kernel) rfl rfl (Nat.le_of_ble_eq_true rfl) dX3_settle_65 (fun H locs hP hD hS => ?_)
          have hP : va_P (dC, dI) vwCl (xW cI q ln cw ic bs (ss ||| (un j)) se we un sf pa) H := hP
          have hD : va_D A (xW cI q ln cw ic bs (ss ||| (un j)) se we un sf pa) := hD
          refine lv_aload_n hx hb dX3_settle_68 rfl (lv_at hl 0 rfl) ?_
          refine lv_iload_n hx hb dX3_settle_69 rfl (lv_at hl 1 rfl) ?_
          refine lv_iload_n hx hb dX3_settle_70 rfl (lv_at hl 2 rfl) ?_
          refine fM_v (wc := xW cI q ln cw ic bs (ss ||| (un j)) se we un sf pa) (wr := []) (rMV (wc := xW cI q ln cw ic bs (ss ||| (un j)) se we un sf pa) (As := [.int (nI j), .int x]) (rest := []) ⟨hx, hb, hml, hown, hT⟩ (c_X3_fillUnit (l := l) H.size j x (by first | assumption | omega)) (cwTV 2 hT kc_X3_fillUnit km_X3_86 ki_X3_fillUnit ks_X3_fillUnit kn_X3 rfl rfl md_X3_fillUnit ⟨Nat.le_of_ble_eq_true rfl, Nat.le_of_ble_eq_true rfl⟩) hP hD hK (va_recv hK hP (ci := 3) (q0 := 0) rfl rfl) rfl hl.1 rfl (Nat.le_of_ble_eq_true rfl) dX3_settle_71 ⟨Nat.le_of_ble_eq_true rfl, Nat.le_of_ble_eq_true rfl⟩) hP hD hS hA (fun u_71 H locs hw_71 hP hD hS => ?_)
          have hP : va_P (dC, dI) vwCl (xW cI q ln cw ic bs (ss ||| (un j)) se we un (x_fill (un j) x sf 6) pa) H := hP
          have hD : va_D A (xW cI q ln cw ic bs (ss ||| (un j)) se we un (x_fill (un j) x sf 6) pa) := hD
          refine lv_iconst (v := 1) hx hb dX3_settle_74 (by decide) ?_
          exact retM_i (S := XS) (post := fun r u => xk (fun j => bt ic j = true) (nI j) (r = -1 ∧ u = (ln, cw, ic, bs, ss, se, we, un, sf, pa)) (fun j => ((x < 0 ∨ 1000000 < x) ∧ r = -2 ∧ u = (ln, cw, ic, bs, ss, se, we, un, sf, pa)) ∨ (¬ (x < 0 ∨ 1000000 < x) ∧ (((bt ss j = true ∨ ¬ x_sumN (un j) pa 6 ≤ 0) ∧ r = -3 ∧ u = (ln, cw, ic, bs, ss, se, we, un, sf, pa)) ∨ (¬ (bt ss j = true ∨ ¬ x_sumN (un j) pa 6 ≤ 0) ∧ r = 1 ∧ u = (ln, cw, ic, bs, (ss ||| un j), se, we, un, (x_fill (un j) x sf 6), pa)))))) (w2 := fun u => xWt cI q u) (ln, cw, ic, bs, (ss ||| (un j)), se, we, un, (x_fill (un j) x sf 6), pa) hx hb hr hlocks (by first | exact Or.inr ⟨hw_2, rfl, rfl⟩ | exact Or.inl ⟨j, hj, rfl, hbj, Or.inl ⟨hw_14, rfl, rfl⟩⟩ | exact Or.inl ⟨j, hj, rfl, hbj, Or.inr ⟨hw_14, Or.inl ⟨Or.inl hw_28, rfl, rfl⟩⟩⟩ | exact Or.inl ⟨j, hj, rfl, hbj, Or.inr ⟨hw_14, Or.inl ⟨Or.inr c_47, rfl, rfl⟩⟩⟩ | exact Or.inl ⟨j, hj, rfl, hbj, Or.inr ⟨hw_14, Or.inr ⟨fun h => h.elim hw_28 (fun h2 => h2 c_47), rfl, rfl⟩⟩⟩) hP hK hD hS dX3_settle_75
        · refine lv_bipush (v := (-3)) hx hb dX3_settle_50 (by decide) ?_
          exact retM_i (S := XS) (post := fun r u => xk (fun j => bt ic j = true) (nI j) (r = -1 ∧ u = (ln, cw, ic, bs, ss, se, we, un, sf, pa)) (fun j => ((x < 0 ∨ 1000000 < x) ∧ r = -2 ∧ u = (ln, cw, ic, bs, ss, se, we, un, sf, pa)) ∨ (¬ (x < 0 ∨ 1000000 < x) ∧ (((bt ss j = true ∨ ¬ x_sumN (un j) pa 6 ≤ 0) ∧ r = -3 ∧ u = (ln, cw, ic, bs, ss, se, we, un, sf, pa)) ∨ (¬ (bt ss j = true ∨ ¬ x_sumN (un j) pa 6 ≤ 0) ∧ r = 1 ∧ u = (ln, cw, ic, bs, (ss ||| un j), se, we, un, (x_fill (un j) x sf 6), pa)))))) (w2 := fun u => xWt cI q u) (ln, cw, ic, bs, ss, se, we, un, sf, pa) hx hb hr hlocks (by first | exact Or.inr ⟨hw_2, rfl, rfl⟩ | exact Or.inl ⟨j, hj, rfl, hbj, Or.inl ⟨hw_14, rfl, rfl⟩⟩ | exact Or.inl ⟨j, hj, rfl, hbj, Or.inr ⟨hw_14, Or.inl ⟨Or.inl hw_28, rfl, rfl⟩⟩⟩ | exact Or.inl ⟨j, hj, rfl, hbj, Or.inr ⟨hw_14, Or.inl ⟨Or.inr c_47, rfl, rfl⟩⟩⟩ | exact Or.inl ⟨j, hj, rfl, hbj, Or.inr ⟨hw_14, Or.inr ⟨fun h => h.elim hw_28 (fun h2 => h2 c_47), rfl, rfl⟩⟩⟩) hP hK hD hS dX3_settle_52
  · refine lv_if_ne (tgt := 10) hx hb dX3_settle_5 (by decide) (fun h => absurd h (by decide)) (fun c_5 => ?_)
    refine lv_iconst (v := (-1)) hx hb dX3_settle_8 (by decide) ?_
    exact retM_i (S := XS) (post := fun r u => xk (fun j => bt ic j = true) v (r = -1 ∧ u = (ln, cw, ic, bs, ss, se, we, un, sf, pa)) (fun j => ((x < 0 ∨ 1000000 < x) ∧ r = -2 ∧ u = (ln, cw, ic, bs, ss, se, we, un, sf, pa)) ∨ (¬ (x < 0 ∨ 1000000 < x) ∧ (((bt ss j = true ∨ ¬ x_sumN (un j) pa 6 ≤ 0) ∧ r = -3 ∧ u = (ln, cw, ic, bs, ss, se, we, un, sf, pa)) ∨ (¬ (bt ss j = true ∨ ¬ x_sumN (un j) pa 6 ≤ 0) ∧ r = 1 ∧ u = (ln, cw, ic, bs, (ss ||| un j), se, we, un, (x_fill (un j) x sf 6), pa)))))) (w2 := fun u => xWt cI q u) (ln, cw, ic, bs, ss, se, we, un, sf, pa) hx hb hr hlocks (by first | exact Or.inr ⟨hw_2, rfl, rfl⟩ | exact Or.inl ⟨j, hj, rfl, hbj, Or.inl ⟨hw_14, rfl, rfl⟩⟩ | exact Or.inl ⟨j, hj, rfl, hbj, Or.inr ⟨hw_14, Or.inl ⟨Or.inl hw_28, rfl, rfl⟩⟩⟩ | exact Or.inl ⟨j, hj, rfl, hbj, Or.inr ⟨hw_14, Or.inl ⟨Or.inr c_47, rfl, rfl⟩⟩⟩ | exact Or.inl ⟨j, hj, rfl, hbj, Or.inr ⟨hw_14, Or.inr ⟨fun h => h.elim hw_28 (fun h2 => h2 c_47), rfl, rfl⟩⟩⟩) hP hK hD hS dX3_settle_9
set_option maxHeartbeats 4000000 in
set_option maxRecDepth 100000 in
theorem c_X3_reopen (sz : Nat) (v : Int32) : Met l yX3_reopen (wT yX3_reopen cX3_reopen 3 (some .int)) ({ frames := 3, cells := 0, slots := 0, locals := 66 }) (pM (dC, dI) (ty3 cI cJ cZ) (xW cI q ln cw ic bs ss se we un sf pa) [.ref (q 0), .int v] sz) (va_Qi (S := XS) (fun r u => xk (fun j => bt ic j = true) v (r = -1 ∧ u = (ln, cw, ic, bs, ss, se, we, un, sf, pa)) (fun j => (¬ bt ss j = true ∧ r = -3 ∧ u = (ln, cw, ic, bs, ss, se, we, un, sf, pa)) ∨ (bt ss j = true ∧ r = sf j ∧ u = (ln, cw, ic, bs, (ss &&& (un j ^^^ (-1))), se, we, un, (x_fill (un j) 0 sf 6), pa)))) (fun u t9 => bM (dC, dI) (ty3 cI cJ cZ) (va_A (xW cI q ln cw ic bs ss se we un sf pa) sz) (xWt cI q u) t9) (va_A (xW cI q ln cw ic bs ss se we un sf pa) sz)) 0 0 (va_A (xW cI q ln cw ic bs ss se we un sf pa) sz) := by
  refine Met.ofW (cc := cX3_reopen) (maxL := 3) (ret := (some .int)) (by decide) rfl ?_
  intro p e s m args below meth c s₁ B hml hv
  obtain ⟨rfl, hsz, hP, hK, hD0⟩ := hv
  have hx := B.exec
  have hb := B.bytes
  have hr := B.returns
  have hts := atoms_spec (ws := wT yX3_reopen cX3_reopen 3 (some .int)) B.pre
  have hT := wT_T hts
  have hown : s.vm.findClass RX3 = some m.cls := findClass_of_methodNamed B.named
  have hlocks := B.notSynchronized
  subst hsz
  have hD := hD0.self (sz := s.heap.size)
  generalize hAe : va_A (xW cI q ln cw ic bs ss se we un sf pa) s.heap.size = A at hD ⊢
  have hA : ∀ q : Nat, s.heap.size ≤ q → A q := fun q h => by rw [← hAe]; exact Or.inr h
  have hS : va_S A s.heap s.heap [] := va_S.rf
  have hl := lv_entry ([.ref (q 0), .int v]) (n := 3) (Nat.le_of_ble_eq_true rfl)
  rw [lg_entry_eq]
  generalize (lg_sl ([.ref (q 0), .int v]) ++ List.replicate (3 - (lg_sl ([.ref (q 0), .int v])).length) Slot.unset).toArray = ls at hl ⊢
  have hl : lv_has ls 3 [(0, .ref (q 0)), (1, .int v)] := hl
  refine lv_aload_n hx hb dX3_reopen_0 rfl (lv_at hl 0 rfl) ?_
  refine lv_iload_n hx hb dX3_reopen_1 rfl (lv_at hl 1 rfl) ?_
  refine vp_callSi (rRV (As := [.int v]) (rest := []) ⟨hx, hb, hml, hown, hT⟩ (c_X3_isKnown (l := l) v) (cwTV 1 hT kc_X3_isKnown km_X3_57 ki_X3_isKnown ks_X3_isKnown kn_X3 rfl rfl md_X3_isKnown ⟨Nat.le_of_ble_eq_true rfl, Nat.le_of_ble_eq_true rfl⟩) hP hK (va_recv hK hP (ci := 3) (q0 := 0) rfl rfl) rfl hl.1 rfl (Nat.le_of_ble_eq_true rfl) dX3_reopen_2 ⟨Nat.le_of_ble_eq_true rfl, Nat.le_of_ble_eq_true rfl⟩) (fun r_2 hw_2 => ?_)
  rcases hw_2 with ⟨rfl, hw_2⟩ | ⟨rfl, hw_2⟩
  · obtain ⟨j, hj, rfl, hbj⟩ := hw_2
    refine lv_if_ne (tgt := 10) hx hb dX3_reopen_5 (by decide) (fun c_5 => ?_) (fun h => absurd h (by decide))
    refine lv_aload_n hx hb dX3_reopen_10 rfl (lv_at hl 0 rfl) ?_
    refine va_get (D := (dC, dI)) (ci := 3) (v := .int ss) (C := RX3) (T := TX3) (N := 11) hx hb hT hiX3 hown hK hP 0 rfl rfl 5 (by decide) (hT _ kf_X3_79) (fun _ h9 => h9) rfl dX3_reopen_11 ?_
    refine lv_iload_n hx hb dX3_reopen_14 rfl (lv_at hl 1 rfl) ?_
    refine vp_callSi (rRS (As := [.int ss, .int (nI j)]) (rest := []) ⟨hx, hb, hml, hown, hT⟩ (c_X3_has (l := l) ss j (by first | assumption | omega)) (cwTS 2 hT kc_X3_has km_X3_49 kt_X3_has kn_X3 rfl rfl md_X3_has ⟨Nat.le_of_ble_eq_true rfl, Nat.le_of_ble_eq_true rfl⟩) nilP hK  rfl hl.1 rfl (Nat.le_of_ble_eq_true rfl) dX3_reopen_15 ⟨Nat.le_of_ble_eq_true rfl, Nat.le_of_ble_eq_true rfl⟩) (fun r_15 hw_15 => ?_)
    rcases hw_15 with ⟨rfl, hw_15⟩ | ⟨rfl, hw_15⟩
    · refine lv_if_ne (tgt := 24) hx hb dX3_reopen_18 (by decide) (fun c_18 => ?_) (fun h => absurd h (by decide))
      refine lv_aload_n hx hb dX3_reopen_24 rfl (lv_at hl 0 rfl) ?_
      refine va_get (D := (dC, dI)) (ci := 3) (v := .ref (q 4)) (C := RX3) (T := TX3) (N := 11) hx hb hT hiX3 hown hK hP 0 rfl rfl 8 (by decide) (hT _ kf_X3_21) (fun _ h9 => h9) rfl dX3_reopen_25 ?_
      refine lv_iload_n hx hb dX3_reopen_28 rfl (lv_at hl 1 rfl) ?_
      refine ald_i hx hb hK hP 4 0 rfl rfl (by decide) (w := j) rfl (by omega) dX3_reopen_29 ?_
      refine lv_istore_n (lv' := [(2, .int (sf j)), (0, .ref (q 0)), (1, .int (nI j))]) hx hb dX3_reopen_30 rfl hl (by decide) rfl (fun ls hl => ?_)
      refine lv_aload_n hx hb dX3_reopen_31 rfl (lv_at hl 1 rfl) ?_
      refine lv_iload_n hx hb dX3_reopen_32 rfl (lv_at hl 2 rfl) ?_
      refine fM_v (wc := xW cI q ln cw ic bs ss se we un sf pa) (wr := []) (rMV (wc := xW cI q ln cw ic bs ss se we un sf pa) (As := [.int (nI j)]) (rest := []) ⟨hx, hb, hml, hown, hT⟩ (c_X3_openUnit (l := l) s.heap.size j (by first | assumption | omega)) (cwTV 1 hT kc_X3_openUnit km_X3_61 ki_X3_openUnit ks_X3_openUnit kn_X3 rfl rfl md_X3_openUnit ⟨Nat.le_of_ble_eq_true rfl, Nat.le_of_ble_eq_true rfl⟩) hP hD hK (va_recv hK hP (ci := 3) (q0 := 0) rfl rfl) rfl hl.1 rfl (Nat.le_of_ble_eq_true rfl) dX3_reopen_33 ⟨Nat.le_of_ble_eq_true rfl, Nat.le_of_ble_eq_true rfl⟩) hP hD hS hA (fun u_33 H locs hw_33 hP hD hS => ?_)
      have hP : va_P (dC, dI) vwCl (xW cI q ln cw ic bs (ss &&& (un j ^^^ (-1))) se we un (x_fill (un j) 0 sf 6) pa) H := hP
      have hD : va_D A (xW cI q ln cw ic bs (ss &&& (un j ^^^ (-1))) se we un (x_fill (un j) 0 sf 6) pa) := hD
      refine lv_iload_n hx hb dX3_reopen_36 rfl (lv_at hl 0 rfl) ?_
      exact retM_i (S := XS) (post := fun r u => xk (fun j => bt ic j = true) (nI j) (r = -1 ∧ u = (ln, cw, ic, bs, ss, se, we, un, sf, pa)) (fun j => (¬ bt ss j = true ∧ r = -3 ∧ u = (ln, cw, ic, bs, ss, se, we, un, sf, pa)) ∨ (bt ss j = true ∧ r = sf j ∧ u = (ln, cw, ic, bs, (ss &&& (un j ^^^ (-1))), se, we, un, (x_fill (un j) 0 sf 6), pa)))) (w2 := fun u => xWt cI q u) (ln, cw, ic, bs, (ss &&& (un j ^^^ (-1))), se, we, un, (x_fill (un j) 0 sf 6), pa) hx hb hr hlocks (by first | exact Or.inr ⟨hw_2, rfl, rfl⟩ | exact Or.inl ⟨j, hj, rfl, hbj, Or.inl ⟨hw_15, rfl, rfl⟩⟩ | exact Or.inl ⟨j, hj, rfl, hbj, Or.inr ⟨hw_15, rfl, rfl⟩⟩) hP hK hD hS dX3_reopen_37
    · refine lv_if_ne (tgt := 24) hx hb dX3_reopen_18 (by decide) (fun h => absurd h (by decide)) (fun c_18 => ?_)
      refine lv_bipush (v := (-3)) hx hb dX3_reopen_21 (by decide) ?_
      exact retM_i (S := XS) (post := fun r u => xk (fun j => bt ic j = true) (nI j) (r = -1 ∧ u = (ln, cw, ic, bs, ss, se, we, un, sf, pa)) (fun j => (¬ bt ss j = true ∧ r = -3 ∧ u = (ln, cw, ic, bs, ss, se, we, un, sf, pa)) ∨ (bt ss j = true ∧ r = sf j ∧ u = (ln, cw, ic, bs, (ss &&& (un j ^^^ (-1))), se, we, un, (x_fill (un j) 0 sf 6), pa)))) (w2 := fun u => xWt cI q u) (ln, cw, ic, bs, ss, se, we, un, sf, pa) hx hb hr hlocks (by first | exact Or.inr ⟨hw_2, rfl, rfl⟩ | exact Or.inl ⟨j, hj, rfl, hbj, Or.inl ⟨hw_15, rfl, rfl⟩⟩ | exact Or.inl ⟨j, hj, rfl, hbj, Or.inr ⟨hw_15, rfl, rfl⟩⟩) hP hK hD hS dX3_reopen_23
  · refine lv_if_ne (tgt := 10) hx hb dX3_reopen_5 (by decide) (fun h => absurd h (by decide)) (fun c_5 => ?_)
    refine lv_iconst (v := (-1)) hx hb dX3_reopen_8 (by decide) ?_
    exact retM_i (S := XS) (post := fun r u => xk (fun j => bt ic j = true) v (r = -1 ∧ u = (ln, cw, ic, bs, ss, se, we, un, sf, pa)) (fun j => (¬ bt ss j = true ∧ r = -3 ∧ u = (ln, cw, ic, bs, ss, se, we, un, sf, pa)) ∨ (bt ss j = true ∧ r = sf j ∧ u = (ln, cw, ic, bs, (ss &&& (un j ^^^ (-1))), se, we, un, (x_fill (un j) 0 sf 6), pa)))) (w2 := fun u => xWt cI q u) (ln, cw, ic, bs, ss, se, we, un, sf, pa) hx hb hr hlocks (by first | exact Or.inr ⟨hw_2, rfl, rfl⟩ | exact Or.inl ⟨j, hj, rfl, hbj, Or.inl ⟨hw_15, rfl, rfl⟩⟩ | exact Or.inl ⟨j, hj, rfl, hbj, Or.inr ⟨hw_15, rfl, rfl⟩⟩) hP hK hD hS dX3_reopen_9
set_option maxHeartbeats 4000000 in
set_option maxRecDepth 100000 in
theorem c_X3_refund (sz : Nat) (v : Int32) : Met l yX3_refund (wT yX3_refund cX3_refund 3 (some .int)) ({ frames := 2, cells := 0, slots := 0, locals := 42 }) (pM (dC, dI) (ty3 cI cJ cZ) (xW cI q ln cw ic bs ss se we un sf pa) [.ref (q 0), .int v] sz) (va_Qi (S := XS) (fun r u => xk (fun j => bt ic j = true) v (r = -1 ∧ u = (ln, cw, ic, bs, ss, se, we, un, sf, pa)) (fun j => (pa j = 0 ∧ r = -3 ∧ u = (ln, cw, ic, bs, ss, se, we, un, sf, pa)) ∨ (¬ pa j = 0 ∧ r = pa j ∧ u = (ln, cw, ic, bs, ss, se, we, un, sf, (upd pa j 0))))) (fun u t9 => bM (dC, dI) (ty3 cI cJ cZ) (va_A (xW cI q ln cw ic bs ss se we un sf pa) sz) (xWt cI q u) t9) (va_A (xW cI q ln cw ic bs ss se we un sf pa) sz)) 0 0 (va_A (xW cI q ln cw ic bs ss se we un sf pa) sz) := by
  refine Met.ofW (cc := cX3_refund) (maxL := 3) (ret := (some .int)) (by decide) rfl ?_
  intro p e s m args below meth c s₁ B hml hv
  obtain ⟨rfl, hsz, hP, hK, hD0⟩ := hv
  have hx := B.exec
  have hb := B.bytes
  have hr := B.returns
  have hts := atoms_spec (ws := wT yX3_refund cX3_refund 3 (some .int)) B.pre
  have hT := wT_T hts
  have hown : s.vm.findClass RX3 = some m.cls := findClass_of_methodNamed B.named
  have hlocks := B.notSynchronized
  subst hsz
  have hD := hD0.self (sz := s.heap.size)
  generalize hAe : va_A (xW cI q ln cw ic bs ss se we un sf pa) s.heap.size = A at hD ⊢
  have hA : ∀ q : Nat, s.heap.size ≤ q → A q := fun q h => by rw [← hAe]; exact Or.inr h
  have hS : va_S A s.heap s.heap [] := va_S.rf
  have hl := lv_entry ([.ref (q 0), .int v]) (n := 3) (Nat.le_of_ble_eq_true rfl)
  rw [lg_entry_eq]
  generalize (lg_sl ([.ref (q 0), .int v]) ++ List.replicate (3 - (lg_sl ([.ref (q 0), .int v])).length) Slot.unset).toArray = ls at hl ⊢
  have hl : lv_has ls 3 [(0, .ref (q 0)), (1, .int v)] := hl
  refine lv_aload_n hx hb dX3_refund_0 rfl (lv_at hl 0 rfl) ?_
  refine lv_iload_n hx hb dX3_refund_1 rfl (lv_at hl 1 rfl) ?_
  refine vp_callSi (rRV (As := [.int v]) (rest := []) ⟨hx, hb, hml, hown, hT⟩ (c_X3_isKnown (l := l) v) (cwTV 1 hT kc_X3_isKnown km_X3_57 ki_X3_isKnown ks_X3_isKnown kn_X3 rfl rfl md_X3_isKnown ⟨Nat.le_of_ble_eq_true rfl, Nat.le_of_ble_eq_true rfl⟩) hP hK (va_recv hK hP (ci := 3) (q0 := 0) rfl rfl) rfl hl.1 rfl (Nat.le_of_ble_eq_true rfl) dX3_refund_2 ⟨Nat.le_of_ble_eq_true rfl, Nat.le_of_ble_eq_true rfl⟩) (fun r_2 hw_2 => ?_)
  rcases hw_2 with ⟨rfl, hw_2⟩ | ⟨rfl, hw_2⟩
  · obtain ⟨j, hj, rfl, hbj⟩ := hw_2
    refine lv_if_ne (tgt := 10) hx hb dX3_refund_5 (by decide) (fun c_5 => ?_) (fun h => absurd h (by decide))
    refine lv_aload_n hx hb dX3_refund_10 rfl (lv_at hl 0 rfl) ?_
    refine va_get (D := (dC, dI)) (ci := 3) (v := .ref (q 5)) (C := RX3) (T := TX3) (N := 11) hx hb hT hiX3 hown hK hP 0 rfl rfl 9 (by decide) (hT _ kf_X3_24) (fun _ h9 => h9) rfl dX3_refund_11 ?_
    refine lv_iload_n hx hb dX3_refund_14 rfl (lv_at hl 1 rfl) ?_
    refine ald_i hx hb hK hP 5 0 rfl rfl (by decide) (w := j) rfl (by omega) dX3_refund_15 ?_
    refine lv_if_ne (tgt := 22) hx hb dX3_refund_16 (by decide) (fun c_16 => ?_) (fun c_16 => ?_)
    · refine lv_aload_n hx hb dX3_refund_22 rfl (lv_at hl 0 rfl) ?_
      refine va_get (D := (dC, dI)) (ci := 3) (v := .ref (q 5)) (C := RX3) (T := TX3) (N := 11) hx hb hT hiX3 hown hK hP 0 rfl rfl 9 (by decide) (hT _ kf_X3_24) (fun _ h9 => h9) rfl dX3_refund_23 ?_
      refine lv_iload_n hx hb dX3_refund_26 rfl (lv_at hl 1 rfl) ?_
      refine ald_i hx hb hK hP 5 0 rfl rfl (by decide) (w := j) rfl (by omega) dX3_refund_27 ?_
      refine lv_istore_n (lv' := [(2, .int (pa j)), (0, .ref (q 0)), (1, .int (nI j))]) hx hb dX3_refund_28 rfl hl (by decide) rfl (fun ls hl => ?_)
      refine lv_aload_n hx hb dX3_refund_29 rfl (lv_at hl 1 rfl) ?_
      refine va_get (D := (dC, dI)) (ci := 3) (v := .ref (q 5)) (C := RX3) (T := TX3) (N := 11) hx hb hT hiX3 hown hK hP 0 rfl rfl 9 (by decide) (hT _ kf_X3_24) (fun _ h9 => h9) rfl dX3_refund_30 ?_
      refine lv_iload_n hx hb dX3_refund_33 rfl (lv_at hl 2 rfl) ?_
      refine lv_iconst (v := 0) hx hb dX3_refund_34 (by decide) ?_
      refine ast_i hx hb hK hP hD hS 5 0 rfl rfl (by decide) (w := j) rfl (by omega) dX3_refund_35 (fun H locs hP hD hS => ?_)
      have hP : va_P (dC, dI) vwCl (xW cI q ln cw ic bs ss se we un sf (upd pa j 0)) H := hP
      have hD : va_D A (xW cI q ln cw ic bs ss se we un sf (upd pa j 0)) := hD
      refine lv_iload_n hx hb dX3_refund_36 rfl (lv_at hl 0 rfl) ?_
      exact retM_i (S := XS) (post := fun r u => xk (fun j => bt ic j = true) (nI j) (r = -1 ∧ u = (ln, cw, ic, bs, ss, se, we, un, sf, pa)) (fun j => (pa j = 0 ∧ r = -3 ∧ u = (ln, cw, ic, bs, ss, se, we, un, sf, pa)) ∨ (¬ pa j = 0 ∧ r = pa j ∧ u = (ln, cw, ic, bs, ss, se, we, un, sf, (upd pa j 0))))) (w2 := fun u => xWt cI q u) (ln, cw, ic, bs, ss, se, we, un, sf, (upd pa j 0)) hx hb hr hlocks (by first | exact Or.inr ⟨hw_2, rfl, rfl⟩ | exact Or.inl ⟨j, hj, rfl, hbj, Or.inl ⟨c_16, rfl, rfl⟩⟩ | exact Or.inl ⟨j, hj, rfl, hbj, Or.inr ⟨c_16, rfl, rfl⟩⟩) hP hK hD hS dX3_refund_37
    · refine lv_bipush (v := (-3)) hx hb dX3_refund_19 (by decide) ?_
      exact retM_i (S := XS) (post := fun r u => xk (fun j => bt ic j = true) (nI j) (r = -1 ∧ u = (ln, cw, ic, bs, ss, se, we, un, sf, pa)) (fun j => (pa j = 0 ∧ r = -3 ∧ u = (ln, cw, ic, bs, ss, se, we, un, sf, pa)) ∨ (¬ pa j = 0 ∧ r = pa j ∧ u = (ln, cw, ic, bs, ss, se, we, un, sf, (upd pa j 0))))) (w2 := fun u => xWt cI q u) (ln, cw, ic, bs, ss, se, we, un, sf, pa) hx hb hr hlocks (by first | exact Or.inr ⟨hw_2, rfl, rfl⟩ | exact Or.inl ⟨j, hj, rfl, hbj, Or.inl ⟨c_16, rfl, rfl⟩⟩ | exact Or.inl ⟨j, hj, rfl, hbj, Or.inr ⟨c_16, rfl, rfl⟩⟩) hP hK hD hS dX3_refund_21
  · refine lv_if_ne (tgt := 10) hx hb dX3_refund_5 (by decide) (fun h => absurd h (by decide)) (fun c_5 => ?_)
    refine lv_iconst (v := (-1)) hx hb dX3_refund_8 (by decide) ?_
    exact retM_i (S := XS) (post := fun r u => xk (fun j => bt ic j = true) v (r = -1 ∧ u = (ln, cw, ic, bs, ss, se, we, un, sf, pa)) (fun j => (pa j = 0 ∧ r = -3 ∧ u = (ln, cw, ic, bs, ss, se, we, un, sf, pa)) ∨ (¬ pa j = 0 ∧ r = pa j ∧ u = (ln, cw, ic, bs, ss, se, we, un, sf, (upd pa j 0))))) (w2 := fun u => xWt cI q u) (ln, cw, ic, bs, ss, se, we, un, sf, pa) hx hb hr hlocks (by first | exact Or.inr ⟨hw_2, rfl, rfl⟩ | exact Or.inl ⟨j, hj, rfl, hbj, Or.inl ⟨c_16, rfl, rfl⟩⟩ | exact Or.inl ⟨j, hj, rfl, hbj, Or.inr ⟨c_16, rfl, rfl⟩⟩) hP hK hD hS dX3_refund_9
