variable {l : Launch} {dC : Nat → ClassId} {dI : Nat → Nat → Nat} {cI cJ cZ : ClassId}
variable {q : Nat → Nat} {ln cw ic bs ss : Int32} {se we un sf pa : Nat → Int32}
variable {ct : Int32} {ov gf : Nat → Int64} {gi ta : Nat → Int32}
variable {k : Nat → Nat} {up lo : Int64} {cn tm : Int32} {isI br ma : Nat → Int32} {aU aL uU uL oU oL gU gL : Nat → Int64}

/-- what of a row a set takes, summed -/
def x_sumN (set : Int32) (row : Nat → Int32) : Nat → Int32
  | 0 => 0
  | i + 1 => if bt set i = true then x_sumN set row i + row i else x_sumN set row i
def x_bit (w : Nat) : Int32 := (1 : Int32) <<< (nI w &&& 31)
theorem has_iff (x : Int32) (w : Nat) (hw : w < 32) : (x >>> (nI w &&& 31)) &&& 1 = 0 ↔ bt x w = false := by
  have h1 : ∀ i, i < 32 → bt 1 i = decide (i = 0) := by decide +kernel
  constructor
  · intro h
    have h2 : bt ((x >>> (nI w &&& 31)) &&& 1) 0 = false := by rw [h]; exact b_0 0
    rw [b_and, b_sshr w hw x (by omega), h1 0 (by omega)] at h2
    simpa [hw] using h2
  · intro h
    refine b_ext (fun i hi => ?_)
    rw [b_and, h1 i hi, b_0]
    by_cases h0 : i = 0
    · subst h0
      rw [b_sshr w hw x hi]
      simp [hw, h]
    · simp [h0]
set_option maxHeartbeats 4000000 in
set_option maxRecDepth 100000 in
theorem c_X3_isOutside (v a b : Int32) : Met l yX3_isOutside (wT yX3_isOutside cX3_isOutside 3 (some .boolean)) ({ frames := 0, cells := 0, slots := 0, locals := 0 }) (pR (dC, dI) (ty3 cI cJ cZ) ([] : va_W) [.int v, .int a, .int b]) (vp_Si (fun r => bp r (v < a ∨ b < v))) 0 0 (fun _ => False) := by
  refine Met.ofW (cc := cX3_isOutside) (maxL := 3) (ret := (some .boolean)) (by decide) rfl ?_
  intro p e s m args below meth c s₁ B hml hv
  obtain ⟨rfl, hP, hK⟩ := hv
  have hx := B.exec
  have hb := B.bytes
  have hr := B.returns
  have hts := atoms_spec (ws := wT yX3_isOutside cX3_isOutside 3 (some .boolean)) B.pre
  have hT := wT_T hts
  have hown : s.vm.findClass RX3 = some m.cls := findClass_of_methodNamed B.named
  have hlocks := B.notSynchronized
  have hl := lv_entry ([.int v, .int a, .int b]) (n := 3) (Nat.le_of_ble_eq_true rfl)
  rw [lg_entry_eq]
  generalize (lg_sl ([.int v, .int a, .int b]) ++ List.replicate (3 - (lg_sl ([.int v, .int a, .int b])).length) Slot.unset).toArray = ls at hl ⊢
  have hl : lv_has ls 3 [(0, .int v), (1, .int a), (2, .int b)] := hl
  refine lv_iload_n hx hb dX3_isOutside_0 rfl (lv_at hl 0 rfl) ?_
  refine lv_iload_n hx hb dX3_isOutside_1 rfl (lv_at hl 1 rfl) ?_
  refine lv_icmp_lt (tgt := 10) hx hb dX3_isOutside_2 (by decide) (fun c_2 => ?_) (fun c_2 => ?_)
  · refine lv_iconst (v := 1) hx hb dX3_isOutside_10 (by decide) ?_
    refine lv_goto (tgt := 15) hx hb dX3_isOutside_11 (by decide) ?_
    exact retR_z hx hb hr hlocks (by first | exact Or.inl rfl | exact Or.inr rfl | assumption) (by first | exact Or.inl ⟨rfl, Or.inl c_2⟩ | exact Or.inl ⟨rfl, Or.inr (Int32.not_le.mp c_7)⟩ | exact Or.inr ⟨rfl, fun h => h.elim c_2 (fun h2 => absurd c_7 (Int32.not_le.mpr h2))⟩) dX3_isOutside_15
  · refine lv_iload_n hx hb dX3_isOutside_5 rfl (lv_at hl 0 rfl) ?_
    refine lv_iload_n hx hb dX3_isOutside_6 rfl (lv_at hl 2 rfl) ?_
    refine lv_icmp_le (tgt := 14) hx hb dX3_isOutside_7 (by decide) (fun c_7 => ?_) (fun c_7 => ?_)
    · refine lv_iconst (v := 0) hx hb dX3_isOutside_14 (by decide) ?_
      exact retR_z hx hb hr hlocks (by first | exact Or.inl rfl | exact Or.inr rfl | assumption) (by first | exact Or.inl ⟨rfl, Or.inl c_2⟩ | exact Or.inl ⟨rfl, Or.inr (Int32.not_le.mp c_7)⟩ | exact Or.inr ⟨rfl, fun h => h.elim c_2 (fun h2 => absurd c_7 (Int32.not_le.mpr h2))⟩) dX3_isOutside_15
    · refine lv_iconst (v := 1) hx hb dX3_isOutside_10 (by decide) ?_
      refine lv_goto (tgt := 15) hx hb dX3_isOutside_11 (by decide) ?_
      exact retR_z hx hb hr hlocks (by first | exact Or.inl rfl | exact Or.inr rfl | assumption) (by first | exact Or.inl ⟨rfl, Or.inl c_2⟩ | exact Or.inl ⟨rfl, Or.inr (Int32.not_le.mp c_7)⟩ | exact Or.inr ⟨rfl, fun h => h.elim c_2 (fun h2 => absurd c_7 (Int32.not_le.mpr h2))⟩) dX3_isOutside_15
set_option maxHeartbeats 4000000 in
set_option maxRecDepth 100000 in
theorem c_X3_bit (w : Nat) : Met l yX3_bit (wT yX3_bit cX3_bit 1 (some .int)) ({ frames := 0, cells := 0, slots := 0, locals := 0 }) (pR (dC, dI) (ty3 cI cJ cZ) ([] : va_W) [.int (nI w)]) (vp_Si (fun r => r = x_bit w)) 0 0 (fun _ => False) := by
  refine Met.ofW (cc := cX3_bit) (maxL := 1) (ret := (some .int)) (by decide) rfl ?_
  intro p e s m args below meth c s₁ B hml hv
  obtain ⟨rfl, hP, hK⟩ := hv
  have hx := B.exec
  have hb := B.bytes
  have hr := B.returns
  have hts := atoms_spec (ws := wT yX3_bit cX3_bit 1 (some .int)) B.pre
  have hT := wT_T hts
  have hown : s.vm.findClass RX3 = some m.cls := findClass_of_methodNamed B.named
  have hlocks := B.notSynchronized
  have hl := lv_entry ([.int (nI w)]) (n := 1) (Nat.le_of_ble_eq_true rfl)
  rw [lg_entry_eq]
  generalize (lg_sl ([.int (nI w)]) ++ List.replicate (1 - (lg_sl ([.int (nI w)])).length) Slot.unset).toArray = ls at hl ⊢
  have hl : lv_has ls 1 [(0, .int (nI w))] := hl
  refine lv_iconst (v := 1) hx hb dX3_bit_0 (by decide) ?_
  refine lv_iload_n hx hb dX3_bit_1 rfl (lv_at hl 0 rfl) ?_
  refine lv_ishl hx hb dX3_bit_2 ?_
  exact retR_i hx hb hr hlocks rfl dX3_bit_3
set_option maxHeartbeats 4000000 in
set_option maxRecDepth 100000 in
theorem c_X3_has (x : Int32) (w : Nat) (hw : w < 6) : Met l yX3_has (wT yX3_has cX3_has 2 (some .boolean)) ({ frames := 0, cells := 0, slots := 0, locals := 0 }) (pR (dC, dI) (ty3 cI cJ cZ) ([] : va_W) [.int x, .int (nI w)]) (vp_Si (fun r => bp r (bt x w = true))) 0 0 (fun _ => False) := by
  refine Met.ofW (cc := cX3_has) (maxL := 2) (ret := (some .boolean)) (by decide) rfl ?_
  intro p e s m args below meth c s₁ B hml hv
  obtain ⟨rfl, hP, hK⟩ := hv
  have hx := B.exec
  have hb := B.bytes
  have hr := B.returns
  have hts := atoms_spec (ws := wT yX3_has cX3_has 2 (some .boolean)) B.pre
  have hT := wT_T hts
  have hown : s.vm.findClass RX3 = some m.cls := findClass_of_methodNamed B.named
  have hlocks := B.notSynchronized
  have hl := lv_entry ([.int x, .int (nI w)]) (n := 2) (Nat.le_of_ble_eq_true rfl)
  rw [lg_entry_eq]
  generalize (lg_sl ([.int x, .int (nI w)]) ++ List.replicate (2 - (lg_sl ([.int x, .int (nI w)])).length) Slot.unset).toArray = ls at hl ⊢
  have hl : lv_has ls 2 [(0, .int x), (1, .int (nI w))] := hl
  refine lv_iload_n hx hb dX3_has_0 rfl (lv_at hl 0 rfl) ?_
  refine lv_iload_n hx hb dX3_has_1 rfl (lv_at hl 1 rfl) ?_
  refine lv_ishr hx hb dX3_has_2 ?_
  refine lv_iconst (v := 1) hx hb dX3_has_3 (by decide) ?_
  refine lv_iand hx hb dX3_has_4 ?_
  refine lv_if_eq (tgt := 12) hx hb dX3_has_5 (by decide) (fun c_5 => ?_) (fun c_5 => ?_)
  · refine lv_iconst (v := 0) hx hb dX3_has_12 (by decide) ?_
    exact retR_z hx hb hr hlocks (by first | exact Or.inl rfl | exact Or.inr rfl | assumption) (by first | exact Or.inr ⟨rfl, by rw [(has_iff x w (by omega)).mp c_5]; decide⟩ | exact Or.inl ⟨rfl, by have h := mt (has_iff x w (by omega)).mpr c_5; simpa using h⟩) dX3_has_13
  · refine lv_iconst (v := 1) hx hb dX3_has_8 (by decide) ?_
    refine lv_goto (tgt := 13) hx hb dX3_has_9 (by decide) ?_
    exact retR_z hx hb hr hlocks (by first | exact Or.inl rfl | exact Or.inr rfl | assumption) (by first | exact Or.inr ⟨rfl, by rw [(has_iff x w (by omega)).mp c_5]; decide⟩ | exact Or.inl ⟨rfl, by have h := mt (has_iff x w (by omega)).mpr c_5; simpa using h⟩) dX3_has_13
set_option maxHeartbeats 4000000 in
set_option maxRecDepth 100000 in
theorem c_X3_sumOver {a : Nat} {row : Nat → Int32} (x : Int32) : Met l yX3_sumOver (wT yX3_sumOver cX3_sumOver 4 (some .int)) ({ frames := 1, cells := 0, slots := 0, locals := 21 }) (pR (dC, dI) (ty3 cI cJ cZ) (aW cI a row) [.int x, .ref a]) (vp_Si (fun r => r = x_sumN x row 6)) 0 0 (fun _ => False) := by
  refine Met.ofW (cc := cX3_sumOver) (maxL := 4) (ret := (some .int)) (by decide) rfl ?_
  intro p e s m args below meth c s₁ B hml hv
  obtain ⟨rfl, hP, hK⟩ := hv
  have hx := B.exec
  have hb := B.bytes
  have hr := B.returns
  have hts := atoms_spec (ws := wT yX3_sumOver cX3_sumOver 4 (some .int)) B.pre
  have hT := wT_T hts
  have hown : s.vm.findClass RX3 = some m.cls := findClass_of_methodNamed B.named
  have hlocks := B.notSynchronized
  have hl := lv_entry ([.int x, .ref a]) (n := 4) (Nat.le_of_ble_eq_true rfl)
  rw [lg_entry_eq]
  generalize (lg_sl ([.int x, .ref a]) ++ List.replicate (4 - (lg_sl ([.int x, .ref a])).length) Slot.unset).toArray = ls at hl ⊢
  have hl : lv_has ls 4 [(0, .int x), (1, .ref a)] := hl
  refine lv_iconst (v := 0) hx hb dX3_sumOver_0 (by decide) ?_
  refine lv_istore_n (lv' := [(2, .int 0), (0, .int x), (1, .ref a)]) hx hb dX3_sumOver_1 rfl hl (by decide) rfl (fun ls hl => ?_)
  refine lv_iconst (v := 0) hx hb dX3_sumOver_2 (by decide) ?_
  refine lv_istore_n (lv' := [(3, .int 0), (2, .int 0), (0, .int x), (1, .ref a)]) hx hb dX3_sumOver_3 rfl hl (by decide) rfl (fun ls hl => ?_)
  refine loopR 6 (fun i ls => lv_has ls 4 [(3, .int (nI i)), (2, .int (x_sumN x row i)), (0, .int x), (1, .ref a)]) (i0 := 0) (Nat.zero_le _) (lv_sub hl [0, 1, 2, 3] rfl) (fun i ls hi hl ih => ?_) (fun ls hl => ?_)
  · refine lv_iload_n hx hb dX3_sumOver_4 rfl (lv_at hl 0 rfl) ?_
    refine lv_aload_n hx hb dX3_sumOver_5 rfl (lv_at hl 3 rfl) ?_
    refine va_alen hx hb hK hP 0 0 rfl rfl (v := 6) rfl dX3_sumOver_6 ?_
    refine lv_icmp_ge (tgt := 30) hx hb dX3_sumOver_7 (by decide) (fun h => absurd h (nI_ge (b := 6) hi (by decide))) (fun c_7 => ?_)
    refine lv_iload_n hx hb dX3_sumOver_10 rfl (lv_at hl 2 rfl) ?_
    refine lv_iload_n hx hb dX3_sumOver_11 rfl (lv_at hl 0 rfl) ?_
    refine vp_callSi (rRS (As := [.int x, .int (nI i)]) (rest := []) ⟨hx, hb, hml, hown, hT⟩ (c_X3_has (l := l) x i (by first | assumption | omega)) (cwTS 2 hT kc_X3_has km_X3_49 kt_X3_has kn_X3 rfl rfl md_X3_has ⟨Nat.le_of_ble_eq_true rfl, Nat.le_of_ble_eq_true rfl⟩) nilP hK  rfl hl.1 rfl (Nat.le_of_ble_eq_true rfl) dX3_sumOver_12 ⟨Nat.le_of_ble_eq_true rfl, Nat.le_of_ble_eq_true rfl⟩) (fun r_12 hw_12 => ?_)
    rcases hw_12 with ⟨rfl, hw_12⟩ | ⟨rfl, hw_12⟩
    · refine lv_if_eq (tgt := 24) hx hb dX3_sumOver_15 (by decide) (fun h => absurd h (by decide)) (fun c_15 => ?_)
      refine lv_iload_n hx hb dX3_sumOver_18 rfl (lv_at hl 1 rfl) ?_
      refine lv_aload_n hx hb dX3_sumOver_19 rfl (lv_at hl 3 rfl) ?_
      refine lv_iload_n hx hb dX3_sumOver_20 rfl (lv_at hl 0 rfl) ?_
      refine ald_i hx hb hK hP 0 0 rfl rfl (by decide) (w := i) rfl (by omega) dX3_sumOver_21 ?_
      refine lv_iadd hx hb dX3_sumOver_22 ?_
      refine lv_istore_n (lv' := [(2, .int ((x_sumN x row i) + (row i))), (3, .int (nI i)), (0, .int x), (1, .ref a)]) hx hb dX3_sumOver_23 rfl hl (by decide) rfl (fun ls hl => ?_)
      refine lv_iinc (v := (nI (i + 1))) (lv' := [(3, .int (nI (i + 1))), (2, .int ((x_sumN x row i) + (row i))), (0, .int x), (1, .ref a)]) hx hb dX3_sumOver_24 hl (k := 1) rfl (nI_1 i) (by decide) rfl (fun ls hl => ?_)
      refine lv_goto (tgt := 4) hx hb dX3_sumOver_27 (by decide) ?_
      have es0 : ((x_sumN x row i) + (row i) : Int32) = (x_sumN x row (i + 1)) := by simp only [x_sumN, hw_12, ↓reduceIte, Bool.false_eq_true]
      exact ih _ (by rw [← es0]; exact lv_sub hl [0, 1, 2, 3] rfl)
    · refine lv_if_eq (tgt := 24) hx hb dX3_sumOver_15 (by decide) (fun c_15 => ?_) (fun h => absurd h (by decide))
      refine lv_iinc (v := (nI (i + 1))) (lv' := [(3, .int (nI (i + 1))), (2, .int (x_sumN x row i)), (0, .int x), (1, .ref a)]) hx hb dX3_sumOver_24 hl (k := 0) rfl (nI_1 i) (by decide) rfl (fun ls hl => ?_)
      refine lv_goto (tgt := 4) hx hb dX3_sumOver_27 (by decide) ?_
      have es0 : (x_sumN x row i : Int32) = (x_sumN x row (i + 1)) := by simp only [x_sumN, hw_12, ↓reduceIte, Bool.false_eq_true]
      exact ih _ (by rw [← es0]; exact lv_sub hl [0, 1, 2, 3] rfl)
  · refine lv_iload_n hx hb dX3_sumOver_4 rfl (lv_at hl 0 rfl) ?_
    refine lv_aload_n hx hb dX3_sumOver_5 rfl (lv_at hl 3 rfl) ?_
    refine va_alen hx hb hK hP 0 0 rfl rfl (v := 6) rfl dX3_sumOver_6 ?_
    refine lv_icmp_ge (tgt := 30) hx hb dX3_sumOver_7 (by decide) (fun c_7 => ?_) (fun h => absurd h (by decide))
    refine lv_iload_n hx hb dX3_sumOver_30 rfl (lv_at hl 1 rfl) ?_
    exact retR_i hx hb hr hlocks rfl dX3_sumOver_31
set_option maxHeartbeats 4000000 in
set_option maxRecDepth 100000 in
theorem c_X3_firstOf (x : Int32) : Met l yX3_firstOf (wT yX3_firstOf cX3_firstOf 2 (some .int)) ({ frames := 1, cells := 0, slots := 0, locals := 21 }) (pR (dC, dI) (ty3 cI cJ cZ) ([] : va_W) [.int x]) (vp_Si (fun r => (∃ w, w < 6 ∧ r = nI w ∧ bt x w = true ∧ ∀ j, j < w → ¬ bt x j = true) ∨ (r = -9 ∧ ∀ j, j < 6 → ¬ bt x j = true))) 0 0 (fun _ => False) := by
  refine Met.ofW (cc := cX3_firstOf) (maxL := 2) (ret := (some .int)) (by decide) rfl ?_
  intro p e s m args below meth c s₁ B hml hv
  obtain ⟨rfl, hP, hK⟩ := hv
  have hx := B.exec
  have hb := B.bytes
  have hr := B.returns
  have hts := atoms_spec (ws := wT yX3_firstOf cX3_firstOf 2 (some .int)) B.pre
  have hT := wT_T hts
  have hown : s.vm.findClass RX3 = some m.cls := findClass_of_methodNamed B.named
  have hlocks := B.notSynchronized
  have hl := lv_entry ([.int x]) (n := 2) (Nat.le_of_ble_eq_true rfl)
  rw [lg_entry_eq]
  generalize (lg_sl ([.int x]) ++ List.replicate (2 - (lg_sl ([.int x])).length) Slot.unset).toArray = ls at hl ⊢
  have hl : lv_has ls 2 [(0, .int x)] := hl
  refine lv_iconst (v := 0) hx hb dX3_firstOf_0 (by decide) ?_
  refine lv_istore_n (lv' := [(1, .int 0), (0, .int x)]) hx hb dX3_firstOf_1 rfl hl (by decide) rfl (fun ls hl => ?_)
  refine loopR 6 (fun i ls => lv_has ls 2 [(1, .int (nI i)), (0, .int x)] ∧ (∀ j, j < i → ¬ bt x j = true)) (i0 := 0) (Nat.zero_le _) ⟨(lv_sub hl [0, 1] rfl), fun j hj => absurd hj (Nat.not_lt_zero j)⟩ (fun i ls hi hl ih => ?_) (fun ls hl => ?_)
  · obtain ⟨hl, hf⟩ := hl
    refine lv_iload_n hx hb dX3_firstOf_2 rfl (lv_at hl 0 rfl) ?_
    refine lv_bipush (v := 6) hx hb dX3_firstOf_3 (by decide) ?_
    refine lv_icmp_ge (tgt := 24) hx hb dX3_firstOf_5 (by decide) (fun h => absurd h (nI_ge (b := 6) hi (by decide))) (fun c_5 => ?_)
    refine lv_iload_n hx hb dX3_firstOf_8 rfl (lv_at hl 1 rfl) ?_
    refine lv_iload_n hx hb dX3_firstOf_9 rfl (lv_at hl 0 rfl) ?_
    refine vp_callSi (rRS (As := [.int x, .int (nI i)]) (rest := []) ⟨hx, hb, hml, hown, hT⟩ (c_X3_has (l := l) x i (by first | assumption | omega)) (cwTS 2 hT kc_X3_has km_X3_49 kt_X3_has kn_X3 rfl rfl md_X3_has ⟨Nat.le_of_ble_eq_true rfl, Nat.le_of_ble_eq_true rfl⟩) nilP hK  rfl hl.1 rfl (Nat.le_of_ble_eq_true rfl) dX3_firstOf_10 ⟨Nat.le_of_ble_eq_true rfl, Nat.le_of_ble_eq_true rfl⟩) (fun r_10 hw_10 => ?_)
    rcases hw_10 with ⟨rfl, hw_10⟩ | ⟨rfl, hw_10⟩
    · refine lv_if_eq (tgt := 18) hx hb dX3_firstOf_13 (by decide) (fun h => absurd h (by decide)) (fun c_13 => ?_)
      refine lv_iload_n hx hb dX3_firstOf_16 rfl (lv_at hl 0 rfl) ?_
      exact retR_i hx hb hr hlocks (by first | exact Or.inl ⟨i, hi, rfl, by assumption, hf⟩ | exact Or.inr ⟨rfl, hf⟩) dX3_firstOf_17
    · refine lv_if_eq (tgt := 18) hx hb dX3_firstOf_13 (by decide) (fun c_13 => ?_) (fun h => absurd h (by decide))
      refine lv_iinc (v := (nI (i + 1))) (lv' := [(1, .int (nI (i + 1))), (0, .int x)]) hx hb dX3_firstOf_18 hl (k := 0) rfl (nI_1 i) (by decide) rfl (fun ls hl => ?_)
      refine lv_goto (tgt := 2) hx hb dX3_firstOf_21 (by decide) ?_
      exact ih _ ⟨by exact lv_sub hl [0, 1] rfl, lt_s hf (by assumption)⟩
  · obtain ⟨hl, hf⟩ := hl
    refine lv_iload_n hx hb dX3_firstOf_2 rfl (lv_at hl 0 rfl) ?_
    refine lv_bipush (v := 6) hx hb dX3_firstOf_3 (by decide) ?_
    refine lv_icmp_ge (tgt := 24) hx hb dX3_firstOf_5 (by decide) (fun c_5 => ?_) (fun h => absurd h (by decide))
    refine lv_bipush (v := (-9)) hx hb dX3_firstOf_24 (by decide) ?_
    exact retR_i hx hb hr hlocks (by first | exact Or.inl ⟨i, hi, rfl, by assumption, hf⟩ | exact Or.inr ⟨rfl, hf⟩) dX3_firstOf_26
