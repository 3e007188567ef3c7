variable {l : Launch} {dC : Nat → ClassId} {dI : Nat → Nat → Nat} {cI cJ cZ : ClassId}
variable {q : Nat → Nat} {ln cw ic bs ss : Int32} {se we un sf pa : Nat → Int32}
variable {ct : Int32} {ov gf : Nat → Int64} {gi ta : Nat → Int32}
variable {k : Nat → Nat} {up lo : Int64} {cn tm : Int32} {isI br ma : Nat → Int32} {aU aL uU uL oU oL gU gL : Nat → Int64}

theorem kn_of {v : Int32} (h1 : ¬ v < 0) (h2 : ¬ 6 ≤ v) : ∃ j : Nat, j < 6 ∧ v = nI j := by
  obtain ⟨j, hj, rfl⟩ := nI_of h1
  refine ⟨j, ?_, rfl⟩
  rcases Nat.lt_or_ge j 6 with h | h
  · exact h
  · exact absurd (nI_le (a := 6) h hj) h2
theorem kn_neg {v : Int32} (h : v < 0) {P : Nat → Prop} : ¬ ∃ j, j < 6 ∧ v = nI j ∧ P j := by
  rintro ⟨j, hj, rfl, -⟩
  exact nI_pos (by omega) h
theorem kn_big {v : Int32} (h : 6 ≤ v) {P : Nat → Prop} : ¬ ∃ j, j < 6 ∧ v = nI j ∧ P j := by
  rintro ⟨j, hj, rfl, -⟩
  exact nI_ge (b := 6) hj (by decide) h
theorem kn_not {j : Nat} (hj : j < 6) {P : Nat → Prop} (h : ¬ P j) : ¬ ∃ i, i < 6 ∧ nI j = nI i ∧ P i := by
  rintro ⟨i, h1, h2, h3⟩
  have := (nI_eq (by omega) (by omega)).mp h2
  subst this
  exact h h3
def x_headsN (ic : Int32) (un : Nat → Int32) : Nat → Int32
  | 0 => 0
  | i + 1 => if bt ic i = true then x_headsN ic un i ||| (un i &&& -(un i)) else x_headsN ic un i
def x_obN (ic : Int32) (un : Nat → Int32) (st br : Int32) : Nat → Int32
  | 0 => 0
  | i + 1 => if bt (ic &&& (st ^^^ (-1))) i = true then (if un i &&& (br ^^^ (-1)) = 0 then x_obN ic un st br i ||| x_bit i else x_obN ic un st br i) else x_obN ic un st br i
def x_blame (cw ic : Int32) (we : Nat → Int32) : Int32 := cw + x_sumN ic we 6
def x_bd (cw ic : Int32) (we : Nat → Int32) : Int32 := if x_blame cw ic we < 1 then 1 else x_blame cw ic we
def x_ent (ln cw ic : Int32) (se we : Nat → Int32) : Int64 := if 100 * cw ≤ se 2 * x_blame cw ic we then ln.toInt64 * (x_blame cw ic we - cw).toInt64 else 0
def x_cred (ln : Int32) (we un sf : Nat → Int32) (w : Nat) (mn dn : Int32) : Int64 := if mn = 0 then (sf w).toInt64 * dn.toInt64 else if mn = 1 then ln.toInt64 * (x_sumN (un w) we 6).toInt64 else if ln.toInt64 * (x_sumN (un w) we 6).toInt64 < (sf w).toInt64 * dn.toInt64 then (sf w).toInt64 * dn.toInt64 else ln.toInt64 * (x_sumN (un w) we 6).toInt64
def x_credsN (ln ic : Int32) (we un sf : Nat → Int32) (mn st dn : Int32) : Nat → Int64
  | 0 => 0
  | i + 1 => if bt (x_headsN ic un 6 &&& st) i = true then x_credsN ln ic we un sf mn st dn i + x_cred ln we un sf i mn dn else x_credsN ln ic we un sf mn st dn i
def x_ub (ic bs : Int32) (we un : Nat → Int32) (w : Nat) (st : Int32) : Int32 := if bt st w = true then 0 else if bt (x_obN ic un st bs 6) w = true then 0 else x_sumN (un w) we 6
def x_bears (bs ss : Int32) (we un : Nat → Int32) (w : Nat) : Int32 := if bt (ss ||| bs) w = true then 0 else if un w &&& bs = 0 then we w else x_sumN (un w) we 6
def x_fairUp (ic bs ss : Int32) (we un pa : Nat → Int32) (w : Nat) (du : Int64) : Int64 := if du = 0 then 0 else (x_sumN ic pa 6).toInt64 * (x_bears bs ss we un w).toInt64
def x_overUp (ic bs ss : Int32) (we un pa : Nat → Int32) (w : Nat) (du fd : Int64) : Int64 := (pa w).toInt64 * fd - x_fairUp ic bs ss we un pa w du
set_option maxHeartbeats 4000000 in
set_option maxRecDepth 100000 in
theorem c_X3_isKnown (v : Int32) : Met l yX3_isKnown (wT yX3_isKnown cX3_isKnown 2 (some .boolean)) ({ frames := 1, cells := 0, slots := 0, locals := 21 }) (pR (dC, dI) (ty3 cI cJ cZ) (xW cI q ln cw ic bs ss se we un sf pa) [.ref (q 0), .int v]) (vp_Si (fun r => bp r (∃ j, j < 6 ∧ v = nI j ∧ bt ic j = true))) 0 0 (fun _ => False) := by
  refine Met.ofW (cc := cX3_isKnown) (maxL := 2) (ret := (some .boolean)) (by decide) rfl ?_
  intro p e s m args below meth c s₁ B hml hv
  obtain ⟨rfl, hP, hK⟩ := hv
  have hx := B.exec
  have hb := B.bytes
  have hr := B.returns
  have hts := atoms_spec (ws := wT yX3_isKnown cX3_isKnown 2 (some .boolean)) B.pre
  have hT := wT_T hts
  have hown : s.vm.findClass RX3 = some m.cls := findClass_of_methodNamed B.named
  have hlocks := B.notSynchronized
  have hl := lv_entry ([.ref (q 0), .int v]) (n := 2) (Nat.le_of_ble_eq_true rfl)
  rw [lg_entry_eq]
  generalize (lg_sl ([.ref (q 0), .int v]) ++ List.replicate (2 - (lg_sl ([.ref (q 0), .int v])).length) Slot.unset).toArray = ls at hl ⊢
  have hl : lv_has ls 2 [(0, .ref (q 0)), (1, .int v)] := hl
  refine lv_iload_n hx hb dX3_isKnown_0 rfl (lv_at hl 1 rfl) ?_
  refine lv_if_lt (tgt := 25) hx hb dX3_isKnown_1 (by decide) (fun c_1 => ?_) (fun c_1 => ?_)
  · refine lv_iconst (v := 0) hx hb dX3_isKnown_25 (by decide) ?_
    exact retR_z hx hb hr hlocks (by first | exact Or.inl rfl | exact Or.inr rfl | assumption) (by first | exact Or.inr ⟨rfl, kn_neg c_1⟩ | exact Or.inr ⟨rfl, kn_big c_7⟩ | exact Or.inl ⟨rfl, j, hj, rfl, hw_15⟩ | exact Or.inr ⟨rfl, kn_not hj hw_15⟩) dX3_isKnown_26
  · refine lv_iload_n hx hb dX3_isKnown_4 rfl (lv_at hl 1 rfl) ?_
    refine lv_bipush (v := 6) hx hb dX3_isKnown_5 (by decide) ?_
    refine lv_icmp_ge (tgt := 25) hx hb dX3_isKnown_7 (by decide) (fun c_7 => ?_) (fun c_7 => ?_)
    · refine lv_iconst (v := 0) hx hb dX3_isKnown_25 (by decide) ?_
      exact retR_z hx hb hr hlocks (by first | exact Or.inl rfl | exact Or.inr rfl | assumption) (by first | exact Or.inr ⟨rfl, kn_neg c_1⟩ | exact Or.inr ⟨rfl, kn_big c_7⟩ | exact Or.inl ⟨rfl, j, hj, rfl, hw_15⟩ | exact Or.inr ⟨rfl, kn_not hj hw_15⟩) dX3_isKnown_26
    · obtain ⟨j, hj, rfl⟩ : ∃ j : Nat, j < 6 ∧ v = nI j := kn_of c_1 c_7
      refine lv_aload_n hx hb dX3_isKnown_10 rfl (lv_at hl 0 rfl) ?_
      refine va_get (D := (dC, dI)) (ci := 3) (v := .int ic) (C := RX3) (T := TX3) (N := 11) hx hb hT hiX3 hown hK hP 0 rfl rfl 3 (by decide) (hT _ kf_X3_46) (fun _ h9 => h9) rfl dX3_isKnown_11 ?_
      refine lv_iload_n hx hb dX3_isKnown_14 rfl (lv_at hl 1 rfl) ?_
      refine vp_callSi (rRS (As := [.int ic, .int (nI j)]) (rest := []) ⟨hx, hb, hml, hown, hT⟩ (c_X3_has (l := l) ic j (by first | assumption | omega)) (cwTS 2 hT kc_X3_has km_X3_49 kt_X3_has kn_X3 rfl rfl md_X3_has ⟨Nat.le_of_ble_eq_true rfl, Nat.le_of_ble_eq_true rfl⟩) nilP hK  rfl hl.1 rfl (Nat.le_of_ble_eq_true rfl) dX3_isKnown_15 ⟨Nat.le_of_ble_eq_true rfl, Nat.le_of_ble_eq_true rfl⟩) (fun r_15 hw_15 => ?_)
      rcases hw_15 with ⟨rfl, hw_15⟩ | ⟨rfl, hw_15⟩
      · refine lv_if_eq (tgt := 25) hx hb dX3_isKnown_18 (by decide) (fun h => absurd h (by decide)) (fun c_18 => ?_)
        refine lv_iconst (v := 1) hx hb dX3_isKnown_21 (by decide) ?_
        refine lv_goto (tgt := 26) hx hb dX3_isKnown_22 (by decide) ?_
        exact retR_z hx hb hr hlocks (by first | exact Or.inl rfl | exact Or.inr rfl | assumption) (by first | exact Or.inr ⟨rfl, kn_neg c_1⟩ | exact Or.inr ⟨rfl, kn_big c_7⟩ | exact Or.inl ⟨rfl, j, hj, rfl, hw_15⟩ | exact Or.inr ⟨rfl, kn_not hj hw_15⟩) dX3_isKnown_26
      · refine lv_if_eq (tgt := 25) hx hb dX3_isKnown_18 (by decide) (fun c_18 => ?_) (fun h => absurd h (by decide))
        refine lv_iconst (v := 0) hx hb dX3_isKnown_25 (by decide) ?_
        exact retR_z hx hb hr hlocks (by first | exact Or.inl rfl | exact Or.inr rfl | assumption) (by first | exact Or.inr ⟨rfl, kn_neg c_1⟩ | exact Or.inr ⟨rfl, kn_big c_7⟩ | exact Or.inl ⟨rfl, j, hj, rfl, hw_15⟩ | exact Or.inr ⟨rfl, kn_not hj hw_15⟩) dX3_isKnown_26
set_option maxHeartbeats 4000000 in
set_option maxRecDepth 100000 in
theorem c_X3_isPaired (w : Nat) (hw : w < 6) : Met l yX3_isPaired (wT yX3_isPaired cX3_isPaired 2 (some .boolean)) ({ frames := 1, cells := 0, slots := 0, locals := 20 }) (pR (dC, dI) (ty3 cI cJ cZ) (xW cI q ln cw ic bs ss se we un sf pa) [.ref (q 0), .int (nI w)]) (vp_Si (fun r => bp r (¬ un w = x_bit w))) 0 0 (fun _ => False) := by
  refine Met.ofW (cc := cX3_isPaired) (maxL := 2) (ret := (some .boolean)) (by decide) rfl ?_
  intro p e s m args below meth c s₁ B hml hv
  obtain ⟨rfl, hP, hK⟩ := hv
  have hx := B.exec
  have hb := B.bytes
  have hr := B.returns
  have hts := atoms_spec (ws := wT yX3_isPaired cX3_isPaired 2 (some .boolean)) B.pre
  have hT := wT_T hts
  have hown : s.vm.findClass RX3 = some m.cls := findClass_of_methodNamed B.named
  have hlocks := B.notSynchronized
  have hl := lv_entry ([.ref (q 0), .int (nI w)]) (n := 2) (Nat.le_of_ble_eq_true rfl)
  rw [lg_entry_eq]
  generalize (lg_sl ([.ref (q 0), .int (nI w)]) ++ List.replicate (2 - (lg_sl ([.ref (q 0), .int (nI w)])).length) Slot.unset).toArray = ls at hl ⊢
  have hl : lv_has ls 2 [(0, .ref (q 0)), (1, .int (nI w))] := hl
  refine lv_aload_n hx hb dX3_isPaired_0 rfl (lv_at hl 0 rfl) ?_
  refine va_get (D := (dC, dI)) (ci := 3) (v := .ref (q 3)) (C := RX3) (T := TX3) (N := 11) hx hb hT hiX3 hown hK hP 0 rfl rfl 7 (by decide) (hT _ kf_X3_18) (fun _ h9 => h9) rfl dX3_isPaired_1 ?_
  refine lv_iload_n hx hb dX3_isPaired_4 rfl (lv_at hl 1 rfl) ?_
  refine ald_i hx hb hK hP 3 0 rfl rfl (by decide) (w := w) rfl (by omega) dX3_isPaired_5 ?_
  refine lv_iload_n hx hb dX3_isPaired_6 rfl (lv_at hl 1 rfl) ?_
  refine vp_callSi (rRS (As := [.int (nI w)]) (rest := [.int (un w)]) ⟨hx, hb, hml, hown, hT⟩ (c_X3_bit (l := l) w) (cwTS 1 hT kc_X3_bit km_X3_53 kt_X3_bit kn_X3 rfl rfl md_X3_bit ⟨Nat.le_of_ble_eq_true rfl, Nat.le_of_ble_eq_true rfl⟩) nilP hK  rfl hl.1 rfl (Nat.le_of_ble_eq_true rfl) dX3_isPaired_7 ⟨Nat.le_of_ble_eq_true rfl, Nat.le_of_ble_eq_true rfl⟩) (fun r_7 hw_7 => ?_)
  subst hw_7
  refine lv_icmp_eq (tgt := 17) hx hb dX3_isPaired_10 (by decide) (fun c_10 => ?_) (fun c_10 => ?_)
  · refine lv_iconst (v := 0) hx hb dX3_isPaired_17 (by decide) ?_
    exact retR_z hx hb hr hlocks (by first | exact Or.inl rfl | exact Or.inr rfl | assumption) (by first | exact Or.inr ⟨rfl, fun h => h c_10⟩ | exact Or.inl ⟨rfl, c_10⟩) dX3_isPaired_18
  · refine lv_iconst (v := 1) hx hb dX3_isPaired_13 (by decide) ?_
    refine lv_goto (tgt := 18) hx hb dX3_isPaired_14 (by decide) ?_
    exact retR_z hx hb hr hlocks (by first | exact Or.inl rfl | exact Or.inr rfl | assumption) (by first | exact Or.inr ⟨rfl, fun h => h c_10⟩ | exact Or.inl ⟨rfl, c_10⟩) dX3_isPaired_18
set_option maxHeartbeats 4000000 in
set_option maxRecDepth 100000 in
theorem c_X3_unitHeads  : Met l yX3_unitHeads (wT yX3_unitHeads cX3_unitHeads 3 (some .int)) ({ frames := 1, cells := 0, slots := 0, locals := 21 }) (pR (dC, dI) (ty3 cI cJ cZ) (xW cI q ln cw ic bs ss se we un sf pa) [.ref (q 0)]) (vp_Si (fun r => r = x_headsN ic un 6)) 0 0 (fun _ => False) := by
  refine Met.ofW (cc := cX3_unitHeads) (maxL := 3) (ret := (some .int)) (by decide) rfl ?_
  intro p e s m args below meth c s₁ B hml hv
  obtain ⟨rfl, hP, hK⟩ := hv
  have hx := B.exec
  have hb := B.bytes
  have hr := B.returns
  have hts := atoms_spec (ws := wT yX3_unitHeads cX3_unitHeads 3 (some .int)) B.pre
  have hT := wT_T hts
  have hown : s.vm.findClass RX3 = some m.cls := findClass_of_methodNamed B.named
  have hlocks := B.notSynchronized
  have hl := lv_entry ([.ref (q 0)]) (n := 3) (Nat.le_of_ble_eq_true rfl)
  rw [lg_entry_eq]
  generalize (lg_sl ([.ref (q 0)]) ++ List.replicate (3 - (lg_sl ([.ref (q 0)])).length) Slot.unset).toArray = ls at hl ⊢
  have hl : lv_has ls 3 [(0, .ref (q 0))] := hl
  refine lv_iconst (v := 0) hx hb dX3_unitHeads_0 (by decide) ?_
  refine lv_istore_n (lv' := [(1, .int 0), (0, .ref (q 0))]) hx hb dX3_unitHeads_1 rfl hl (by decide) rfl (fun ls hl => ?_)
  refine lv_iconst (v := 0) hx hb dX3_unitHeads_2 (by decide) ?_
  refine lv_istore_n (lv' := [(2, .int 0), (1, .int 0), (0, .ref (q 0))]) hx hb dX3_unitHeads_3 rfl hl (by decide) rfl (fun ls hl => ?_)
  refine loopR 6 (fun i ls => lv_has ls 3 [(2, .int (nI i)), (1, .int (x_headsN ic un i)), (0, .ref (q 0))]) (i0 := 0) (Nat.zero_le _) (lv_sub hl [0, 1, 2] rfl) (fun i ls hi hl ih => ?_) (fun ls hl => ?_)
  · refine lv_iload_n hx hb dX3_unitHeads_4 rfl (lv_at hl 0 rfl) ?_
    refine lv_bipush (v := 6) hx hb dX3_unitHeads_5 (by decide) ?_
    refine lv_icmp_ge (tgt := 44) hx hb dX3_unitHeads_7 (by decide) (fun h => absurd h (nI_ge (b := 6) hi (by decide))) (fun c_7 => ?_)
    refine lv_aload_n hx hb dX3_unitHeads_10 rfl (lv_at hl 2 rfl) ?_
    refine va_get (D := (dC, dI)) (ci := 3) (v := .int ic) (C := RX3) (T := TX3) (N := 11) hx hb hT hiX3 hown hK hP 0 rfl rfl 3 (by decide) (hT _ kf_X3_46) (fun _ h9 => h9) rfl dX3_unitHeads_11 ?_
    refine lv_iload_n hx hb dX3_unitHeads_14 rfl (lv_at hl 0 rfl) ?_
    refine vp_callSi (rRS (As := [.int ic, .int (nI i)]) (rest := []) ⟨hx, hb, hml, hown, hT⟩ (c_X3_has (l := l) ic i (by first | assumption | omega)) (cwTS 2 hT kc_X3_has km_X3_49 kt_X3_has kn_X3 rfl rfl md_X3_has ⟨Nat.le_of_ble_eq_true rfl, Nat.le_of_ble_eq_true rfl⟩) nilP hK  rfl hl.1 rfl (Nat.le_of_ble_eq_true rfl) dX3_unitHeads_15 ⟨Nat.le_of_ble_eq_true rfl, Nat.le_of_ble_eq_true rfl⟩) (fun r_15 hw_15 => ?_)
    rcases hw_15 with ⟨rfl, hw_15⟩ | ⟨rfl, hw_15⟩
    · refine lv_if_eq (tgt := 38) hx hb dX3_unitHeads_18 (by decide) (fun h => absurd h (by decide)) (fun c_18 => ?_)
      refine lv_iload_n hx hb dX3_unitHeads_21 rfl (lv_at hl 1 rfl) ?_
      refine lv_aload_n hx hb dX3_unitHeads_22 rfl (lv_at hl 2 rfl) ?_
      refine va_get (D := (dC, dI)) (ci := 3) (v := .ref (q 3)) (C := RX3) (T := TX3) (N := 11) hx hb hT hiX3 hown hK hP 0 rfl rfl 7 (by decide) (hT _ kf_X3_18) (fun _ h9 => h9) rfl dX3_unitHeads_23 ?_
      refine lv_iload_n hx hb dX3_unitHeads_26 rfl (lv_at hl 0 rfl) ?_
      refine ald_i hx hb hK hP 3 0 rfl rfl (by decide) (w := i) rfl (by omega) dX3_unitHeads_27 ?_
      refine lv_aload_n hx hb dX3_unitHeads_28 rfl (lv_at hl 2 rfl) ?_
      refine va_get (D := (dC, dI)) (ci := 3) (v := .ref (q 3)) (C := RX3) (T := TX3) (N := 11) hx hb hT hiX3 hown hK hP 0 rfl rfl 7 (by decide) (hT _ kf_X3_18) (fun _ h9 => h9) rfl dX3_unitHeads_29 ?_
      refine lv_iload_n hx hb dX3_unitHeads_32 rfl (lv_at hl 0 rfl) ?_
      refine ald_i hx hb hK hP 3 0 rfl rfl (by decide) (w := i) rfl (by omega) dX3_unitHeads_33 ?_
      refine lv_ineg hx hb dX3_unitHeads_34 ?_
      refine lv_iand hx hb dX3_unitHeads_35 ?_
      refine lv_ior hx hb dX3_unitHeads_36 ?_
      refine lv_istore_n (lv' := [(1, .int ((x_headsN ic un i) ||| ((un i) &&& (-(un i))))), (2, .int (nI i)), (0, .ref (q 0))]) hx hb dX3_unitHeads_37 rfl hl (by decide) rfl (fun ls hl => ?_)
      refine lv_iinc (v := (nI (i + 1))) (lv' := [(2, .int (nI (i + 1))), (1, .int ((x_headsN ic un i) ||| ((un i) &&& (-(un i))))), (0, .ref (q 0))]) hx hb dX3_unitHeads_38 hl (k := 1) rfl (nI_1 i) (by decide) rfl (fun ls hl => ?_)
      refine lv_goto (tgt := 4) hx hb dX3_unitHeads_41 (by decide) ?_
      have es0 : ((x_headsN ic un i) ||| ((un i) &&& (-(un i))) : Int32) = (x_headsN ic un (i + 1)) := by simp only [x_headsN, hw_15, ↓reduceIte, Bool.false_eq_true, i10]
      exact ih _ (by rw [← es0]; exact lv_sub hl [0, 1, 2] rfl)
    · refine lv_if_eq (tgt := 38) hx hb dX3_unitHeads_18 (by decide) (fun c_18 => ?_) (fun h => absurd h (by decide))
      refine lv_iinc (v := (nI (i + 1))) (lv' := [(2, .int (nI (i + 1))), (1, .int (x_headsN ic un i)), (0, .ref (q 0))]) hx hb dX3_unitHeads_38 hl (k := 0) rfl (nI_1 i) (by decide) rfl (fun ls hl => ?_)
      refine lv_goto (tgt := 4) hx hb dX3_unitHeads_41 (by decide) ?_
      have es0 : (x_headsN ic un i : Int32) = (x_headsN ic un (i + 1)) := by simp only [x_headsN, hw_15, ↓reduceIte, Bool.false_eq_true, i10]
      exact ih _ (by rw [← es0]; exact lv_sub hl [0, 1, 2] rfl)
  · refine lv_iload_n hx hb dX3_unitHeads_4 rfl (lv_at hl 0 rfl) ?_
    refine lv_bipush (v := 6) hx hb dX3_unitHeads_5 (by decide) ?_
    refine lv_icmp_ge (tgt := 44) hx hb dX3_unitHeads_7 (by decide) (fun c_7 => ?_) (fun h => absurd h (by decide))
    refine lv_iload_n hx hb dX3_unitHeads_44 rfl (lv_at hl 1 rfl) ?_
    exact retR_i hx hb hr hlocks rfl dX3_unitHeads_45
set_option maxHeartbeats 4000000 in
set_option maxRecDepth 100000 in
theorem c_X3_openBroke (st br : Int32) : Met l yX3_openBroke (wT yX3_openBroke cX3_openBroke 5 (some .int)) ({ frames := 1, cells := 0, slots := 0, locals := 21 }) (pR (dC, dI) (ty3 cI cJ cZ) (xW cI q ln cw ic bs ss se we un sf pa) [.ref (q 0), .int st, .int br]) (vp_Si (fun r => r = x_obN ic un st br 6)) 0 0 (fun _ => False) := by
  refine Met.ofW (cc := cX3_openBroke) (maxL := 5) (ret := (some .int)) (by decide) rfl ?_
  intro p e s m args below meth c s₁ B hml hv
  obtain ⟨rfl, hP, hK⟩ := hv
  have hx := B.exec
  have hb := B.bytes
  have hr := B.returns
  have hts := atoms_spec (ws := wT yX3_openBroke cX3_openBroke 5 (some .int)) B.pre
  have hT := wT_T hts
  have hown : s.vm.findClass RX3 = some m.cls := findClass_of_methodNamed B.named
  have hlocks := B.notSynchronized
  have hl := lv_entry ([.ref (q 0), .int st, .int br]) (n := 5) (Nat.le_of_ble_eq_true rfl)
  rw [lg_entry_eq]
  generalize (lg_sl ([.ref (q 0), .int st, .int br]) ++ List.replicate (5 - (lg_sl ([.ref (q 0), .int st, .int br])).length) Slot.unset).toArray = ls at hl ⊢
  have hl : lv_has ls 5 [(0, .ref (q 0)), (1, .int st), (2, .int br)] := hl
  refine lv_iconst (v := 0) hx hb dX3_openBroke_0 (by decide) ?_
  refine lv_istore_n (lv' := [(3, .int 0), (0, .ref (q 0)), (1, .int st), (2, .int br)]) hx hb dX3_openBroke_1 rfl hl (by decide) rfl (fun ls hl => ?_)
  refine lv_iconst (v := 0) hx hb dX3_openBroke_2 (by decide) ?_
  refine lv_istore (lv' := [(4, .int 0), (3, .int 0), (0, .ref (q 0)), (1, .int st), (2, .int br)]) hx hb dX3_openBroke_3 hl (by decide) rfl (fun ls hl => ?_)
  refine loopR 6 (fun i ls => lv_has ls 5 [(4, .int (nI i)), (3, .int (x_obN ic un st br i)), (0, .ref (q 0)), (1, .int st), (2, .int br)]) (i0 := 0) (Nat.zero_le _) (lv_sub hl [0, 1, 2, 3, 4] rfl) (fun i ls hi hl ih => ?_) (fun ls hl => ?_)
  · refine lv_iload hx hb dX3_openBroke_5 (lv_at hl 0 rfl) ?_
    refine lv_bipush (v := 6) hx hb dX3_openBroke_7 (by decide) ?_
    refine lv_icmp_ge (tgt := 56) hx hb dX3_openBroke_9 (by decide) (fun h => absurd h (nI_ge (b := 6) hi (by decide))) (fun c_9 => ?_)
    refine lv_aload_n hx hb dX3_openBroke_12 rfl (lv_at hl 2 rfl) ?_
    refine va_get (D := (dC, dI)) (ci := 3) (v := .int ic) (C := RX3) (T := TX3) (N := 11) hx hb hT hiX3 hown hK hP 0 rfl rfl 3 (by decide) (hT _ kf_X3_46) (fun _ h9 => h9) rfl dX3_openBroke_13 ?_
    refine lv_iload_n hx hb dX3_openBroke_16 rfl (lv_at hl 3 rfl) ?_
    refine lv_iconst (v := (-1)) hx hb dX3_openBroke_17 (by decide) ?_
    refine lv_ixor hx hb dX3_openBroke_18 ?_
    refine lv_iand hx hb dX3_openBroke_19 ?_
    refine lv_iload hx hb dX3_openBroke_20 (lv_at hl 0 rfl) ?_
    refine vp_callSi (rRS (As := [.int (ic &&& (st ^^^ (-1))), .int (nI i)]) (rest := []) ⟨hx, hb, hml, hown, hT⟩ (c_X3_has (l := l) (ic &&& (st ^^^ (-1))) i (by first | assumption | omega)) (cwTS 2 hT kc_X3_has km_X3_49 kt_X3_has kn_X3 rfl rfl md_X3_has ⟨Nat.le_of_ble_eq_true rfl, Nat.le_of_ble_eq_true rfl⟩) nilP hK  rfl hl.1 rfl (Nat.le_of_ble_eq_true rfl) dX3_openBroke_22 ⟨Nat.le_of_ble_eq_true rfl, Nat.le_of_ble_eq_true rfl⟩) (fun r_22 hw_22 => ?_)
    rcases hw_22 with ⟨rfl, hw_22⟩ | ⟨rfl, hw_22⟩
    · refine lv_if_eq (tgt := 50) hx hb dX3_openBroke_25 (by decide) (fun h => absurd h (by decide)) (fun c_25 => ?_)
      refine lv_aload_n hx hb dX3_openBroke_28 rfl (lv_at hl 2 rfl) ?_
      refine va_get (D := (dC, dI)) (ci := 3) (v := .ref (q 3)) (C := RX3) (T := TX3) (N := 11) hx hb hT hiX3 hown hK hP 0 rfl rfl 7 (by decide) (hT _ kf_X3_18) (fun _ h9 => h9) rfl dX3_openBroke_29 ?_
      refine lv_iload hx hb dX3_openBroke_32 (lv_at hl 0 rfl) ?_
      refine ald_i hx hb hK hP 3 0 rfl rfl (by decide) (w := i) rfl (by omega) dX3_openBroke_34 ?_
      refine lv_iload_n hx hb dX3_openBroke_35 rfl (lv_at hl 4 rfl) ?_
      refine lv_iconst (v := (-1)) hx hb dX3_openBroke_36 (by decide) ?_
      refine lv_ixor hx hb dX3_openBroke_37 ?_
      refine lv_iand hx hb dX3_openBroke_38 ?_
      refine lv_if_ne (tgt := 50) hx hb dX3_openBroke_39 (by decide) (fun c_39 => ?_) (fun c_39 => ?_)
      · refine lv_iinc (v := (nI (i + 1))) (lv' := [(4, .int (nI (i + 1))), (3, .int (x_obN ic un st br i)), (0, .ref (q 0)), (1, .int st), (2, .int br)]) hx hb dX3_openBroke_50 hl (k := 0) rfl (nI_1 i) (by decide) rfl (fun ls hl => ?_)
        refine lv_goto (tgt := 5) hx hb dX3_openBroke_53 (by decide) ?_
        have es0 : (x_obN ic un st br i : Int32) = (x_obN ic un st br (i + 1)) := by simp only [x_obN, hw_22, c_39, ↓reduceIte, Bool.false_eq_true, i10]
        exact ih _ (by rw [← es0]; exact lv_sub hl [0, 1, 2, 3, 4] rfl)
      · refine lv_iload_n hx hb dX3_openBroke_42 rfl (lv_at hl 1 rfl) ?_
        refine lv_iload hx hb dX3_openBroke_43 (lv_at hl 0 rfl) ?_
        refine vp_callSi (rRS (As := [.int (nI i)]) (rest := [.int (x_obN ic un st br i)]) ⟨hx, hb, hml, hown, hT⟩ (c_X3_bit (l := l) i) (cwTS 1 hT kc_X3_bit km_X3_53 kt_X3_bit kn_X3 rfl rfl md_X3_bit ⟨Nat.le_of_ble_eq_true rfl, Nat.le_of_ble_eq_true rfl⟩) nilP hK  rfl hl.1 rfl (Nat.le_of_ble_eq_true rfl) dX3_openBroke_45 ⟨Nat.le_of_ble_eq_true rfl, Nat.le_of_ble_eq_true rfl⟩) (fun r_45 hw_45 => ?_)
        subst hw_45
        refine lv_ior hx hb dX3_openBroke_48 ?_
        refine lv_istore_n (lv' := [(3, .int ((x_obN ic un st br i) ||| (x_bit i))), (4, .int (nI i)), (0, .ref (q 0)), (1, .int st), (2, .int br)]) hx hb dX3_openBroke_49 rfl hl (by decide) rfl (fun ls hl => ?_)
        refine lv_iinc (v := (nI (i + 1))) (lv' := [(4, .int (nI (i + 1))), (3, .int ((x_obN ic un st br i) ||| (x_bit i))), (0, .ref (q 0)), (1, .int st), (2, .int br)]) hx hb dX3_openBroke_50 hl (k := 1) rfl (nI_1 i) (by decide) rfl (fun ls hl => ?_)
        refine lv_goto (tgt := 5) hx hb dX3_openBroke_53 (by decide) ?_
        have es0 : ((x_obN ic un st br i) ||| (x_bit i) : Int32) = (x_obN ic un st br (i + 1)) := by simp only [x_obN, hw_22, c_39, ↓reduceIte, Bool.false_eq_true, i10]
        exact ih _ (by rw [← es0]; exact lv_sub hl [0, 1, 2, 3, 4] rfl)
    · refine lv_if_eq (tgt := 50) hx hb dX3_openBroke_25 (by decide) (fun c_25 => ?_) (fun h => absurd h (by decide))
      refine lv_iinc (v := (nI (i + 1))) (lv' := [(4, .int (nI (i + 1))), (3, .int (x_obN ic un st br i)), (0, .ref (q 0)), (1, .int st), (2, .int br)]) hx hb dX3_openBroke_50 hl (k := 0) rfl (nI_1 i) (by decide) rfl (fun ls hl => ?_)
      refine lv_goto (tgt := 5) hx hb dX3_openBroke_53 (by decide) ?_
      have es0 : (x_obN ic un st br i : Int32) = (x_obN ic un st br (i + 1)) := by simp only [x_obN, hw_22, ↓reduceIte, Bool.false_eq_true, i10]
      exact ih _ (by rw [← es0]; exact lv_sub hl [0, 1, 2, 3, 4] rfl)
  · refine lv_iload hx hb dX3_openBroke_5 (lv_at hl 0 rfl) ?_
    refine lv_bipush (v := 6) hx hb dX3_openBroke_7 (by decide) ?_
    refine lv_icmp_ge (tgt := 56) hx hb dX3_openBroke_9 (by decide) (fun c_9 => ?_) (fun h => absurd h (by decide))
    refine lv_iload_n hx hb dX3_openBroke_56 rfl (lv_at hl 1 rfl) ?_
    exact retR_i hx hb hr hlocks rfl dX3_openBroke_57
set_option maxHeartbeats 4000000 in
set_option maxRecDepth 100000 in
theorem c_X3_blame  : Met l yX3_blame (wT yX3_blame cX3_blame 1 (some .int)) ({ frames := 2, cells := 0, slots := 0, locals := 44 }) (pR (dC, dI) (ty3 cI cJ cZ) (xW cI q ln cw ic bs ss se we un sf pa) [.ref (q 0)]) (vp_Si (fun r => r = x_blame cw ic we)) 0 0 (fun _ => False) := by
  refine Met.ofW (cc := cX3_blame) (maxL := 1) (ret := (some .int)) (by decide) rfl ?_
  intro p e s m args below meth c s₁ B hml hv
  obtain ⟨rfl, hP, hK⟩ := hv
  have hx := B.exec
  have hb := B.bytes
  have hr := B.returns
  have hts := atoms_spec (ws := wT yX3_blame cX3_blame 1 (some .int)) B.pre
  have hT := wT_T hts
  have hown : s.vm.findClass RX3 = some m.cls := findClass_of_methodNamed B.named
  have hlocks := B.notSynchronized
  have hl := lv_entry ([.ref (q 0)]) (n := 1) (Nat.le_of_ble_eq_true rfl)
  rw [lg_entry_eq]
  generalize (lg_sl ([.ref (q 0)]) ++ List.replicate (1 - (lg_sl ([.ref (q 0)])).length) Slot.unset).toArray = ls at hl ⊢
  have hl : lv_has ls 1 [(0, .ref (q 0))] := hl
  refine lv_aload_n hx hb dX3_blame_0 rfl (lv_at hl 0 rfl) ?_
  refine va_get (D := (dC, dI)) (ci := 3) (v := .int cw) (C := RX3) (T := TX3) (N := 11) hx hb hT hiX3 hown hK hP 0 rfl rfl 1 (by decide) (hT _ kf_X3_43) (fun _ h9 => h9) rfl dX3_blame_1 ?_
  refine lv_aload_n hx hb dX3_blame_4 rfl (lv_at hl 0 rfl) ?_
  refine va_get (D := (dC, dI)) (ci := 3) (v := .int ic) (C := RX3) (T := TX3) (N := 11) hx hb hT hiX3 hown hK hP 0 rfl rfl 3 (by decide) (hT _ kf_X3_46) (fun _ h9 => h9) rfl dX3_blame_5 ?_
  refine lv_aload_n hx hb dX3_blame_8 rfl (lv_at hl 0 rfl) ?_
  refine va_get (D := (dC, dI)) (ci := 3) (v := .ref (q 2)) (C := RX3) (T := TX3) (N := 11) hx hb hT hiX3 hown hK hP 0 rfl rfl 6 (by decide) (hT _ kf_X3_15) (fun _ h9 => h9) rfl dX3_blame_9 ?_
  refine vp_callSi (rRS (As := [.int ic, .ref (q 2)]) (rest := [.int cw]) ⟨hx, hb, hml, hown, hT⟩ (c_X3_sumOver (l := l) ic) (cwTS 2 hT kc_X3_sumOver km_X3_82 kt_X3_sumOver kn_X3 rfl rfl md_X3_sumOver ⟨Nat.le_of_ble_eq_true rfl, Nat.le_of_ble_eq_true rfl⟩) (va_P.sub (ws' := aW cI (q 2) we) hP [2] rfl) hK  rfl hl.1 rfl (Nat.le_of_ble_eq_true rfl) dX3_blame_12 ⟨Nat.le_of_ble_eq_true rfl, Nat.le_of_ble_eq_true rfl⟩) (fun r_12 hw_12 => ?_)
  subst hw_12
  refine lv_iadd hx hb dX3_blame_15 ?_
  exact retR_i hx hb hr hlocks rfl dX3_blame_16
set_option maxHeartbeats 4000000 in
set_option maxRecDepth 100000 in
theorem c_X3_blameDown  : Met l yX3_blameDown (wT yX3_blameDown cX3_blameDown 1 (some .int)) ({ frames := 3, cells := 0, slots := 0, locals := 64 }) (pR (dC, dI) (ty3 cI cJ cZ) (xW cI q ln cw ic bs ss se we un sf pa) [.ref (q 0)]) (vp_Si (fun r => r = x_bd cw ic we)) 0 0 (fun _ => False) := by
  refine Met.ofW (cc := cX3_blameDown) (maxL := 1) (ret := (some .int)) (by decide) rfl ?_
  intro p e s m args below meth c s₁ B hml hv
  obtain ⟨rfl, hP, hK⟩ := hv
  have hx := B.exec
  have hb := B.bytes
  have hr := B.returns
  have hts := atoms_spec (ws := wT yX3_blameDown cX3_blameDown 1 (some .int)) B.pre
  have hT := wT_T hts
  have hown : s.vm.findClass RX3 = some m.cls := findClass_of_methodNamed B.named
  have hlocks := B.notSynchronized
  have hl := lv_entry ([.ref (q 0)]) (n := 1) (Nat.le_of_ble_eq_true rfl)
  rw [lg_entry_eq]
  generalize (lg_sl ([.ref (q 0)]) ++ List.replicate (1 - (lg_sl ([.ref (q 0)])).length) Slot.unset).toArray = ls at hl ⊢
  have hl : lv_has ls 1 [(0, .ref (q 0))] := hl
  refine lv_aload_n hx hb dX3_blameDown_0 rfl (lv_at hl 0 rfl) ?_
  refine vp_callSi (rRV (As := []) (rest := []) ⟨hx, hb, hml, hown, hT⟩ (c_X3_blame (l := l) ) (cwTV 0 hT kc_X3_blame km_X3_210 ki_X3_blame ks_X3_blame kn_X3 rfl rfl md_X3_blame ⟨Nat.le_of_ble_eq_true rfl, Nat.le_of_ble_eq_true rfl⟩) hP hK (va_recv hK hP (ci := 3) (q0 := 0) rfl rfl) rfl hl.1 rfl (Nat.le_of_ble_eq_true rfl) dX3_blameDown_1 ⟨Nat.le_of_ble_eq_true rfl, Nat.le_of_ble_eq_true rfl⟩) (fun r_1 hw_1 => ?_)
  subst hw_1
  refine lv_iconst (v := 1) hx hb dX3_blameDown_4 (by decide) ?_
  refine va_mmax hx hb (by rw [hml]; exact hl.1.symm) hown (hT _ km_X3_213) (hT _ kt_max) (hT _ kn_J9) (hT _ kc_max) (Nat.le_of_ble_eq_true rfl) (Nat.le_of_ble_eq_true rfl) (Nat.le_of_ble_eq_true rfl) (Nat.le_of_ble_eq_true rfl) dX3_blameDown_5 ?_
  exact retR_i hx hb hr hlocks rfl dX3_blameDown_8
set_option maxHeartbeats 4000000 in
set_option maxRecDepth 100000 in
theorem c_X3_entitledUp  : Met l yX3_entitledUp (wT yX3_entitledUp cX3_entitledUp 2 (some .long)) ({ frames := 3, cells := 0, slots := 0, locals := 64 }) (pR (dC, dI) (ty3 cI cJ cZ) (xW cI q ln cw ic bs ss se we un sf pa) [.ref (q 0)]) (vp_Sl (fun r => r = x_ent ln cw ic se we)) 0 0 (fun _ => False) := by
  refine Met.ofW (cc := cX3_entitledUp) (maxL := 2) (ret := (some .long)) (by decide) rfl ?_
  intro p e s m args below meth c s₁ B hml hv
  obtain ⟨rfl, hP, hK⟩ := hv
  have hx := B.exec
  have hb := B.bytes
  have hr := B.returns
  have hts := atoms_spec (ws := wT yX3_entitledUp cX3_entitledUp 2 (some .long)) B.pre
  have hT := wT_T hts
  have hown : s.vm.findClass RX3 = some m.cls := findClass_of_methodNamed B.named
  have hlocks := B.notSynchronized
  have hl := lv_entry ([.ref (q 0)]) (n := 2) (Nat.le_of_ble_eq_true rfl)
  rw [lg_entry_eq]
  generalize (lg_sl ([.ref (q 0)]) ++ List.replicate (2 - (lg_sl ([.ref (q 0)])).length) Slot.unset).toArray = ls at hl ⊢
  have hl : lv_has ls 2 [(0, .ref (q 0))] := hl
  refine lv_aload_n hx hb dX3_entitledUp_0 rfl (lv_at hl 0 rfl) ?_
  refine vp_callSi (rRV (As := []) (rest := []) ⟨hx, hb, hml, hown, hT⟩ (c_X3_blame (l := l) ) (cwTV 0 hT kc_X3_blame km_X3_210 ki_X3_blame ks_X3_blame kn_X3 rfl rfl md_X3_blame ⟨Nat.le_of_ble_eq_true rfl, Nat.le_of_ble_eq_true rfl⟩) hP hK (va_recv hK hP (ci := 3) (q0 := 0) rfl rfl) rfl hl.1 rfl (Nat.le_of_ble_eq_true rfl) dX3_entitledUp_1 ⟨Nat.le_of_ble_eq_true rfl, Nat.le_of_ble_eq_true rfl⟩) (fun r_1 hw_1 => ?_)
  subst hw_1
  refine lv_istore_n (lv' := [(1, .int (x_blame cw ic we)), (0, .ref (q 0))]) hx hb dX3_entitledUp_4 rfl hl (by decide) rfl (fun ls hl => ?_)
  refine lv_bipush (v := 100) hx hb dX3_entitledUp_5 (by decide) ?_
  refine lv_aload_n hx hb dX3_entitledUp_7 rfl (lv_at hl 1 rfl) ?_
  refine va_get (D := (dC, dI)) (ci := 3) (v := .int cw) (C := RX3) (T := TX3) (N := 11) hx hb hT hiX3 hown hK hP 0 rfl rfl 1 (by decide) (hT _ kf_X3_43) (fun _ h9 => h9) rfl dX3_entitledUp_8 ?_
  refine lv_imul hx hb dX3_entitledUp_11 ?_
  refine lv_aload_n hx hb dX3_entitledUp_12 rfl (lv_at hl 1 rfl) ?_
  refine va_get (D := (dC, dI)) (ci := 3) (v := .ref (q 1)) (C := RX3) (T := TX3) (N := 11) hx hb hT hiX3 hown hK hP 0 rfl rfl 2 (by decide) (hT _ kf_X3_9) (fun _ h9 => h9) rfl dX3_entitledUp_13 ?_
  refine lv_iconst (v := 2) hx hb dX3_entitledUp_16 (by decide) ?_
  refine ald_i hx hb hK hP 1 0 rfl rfl (by decide) (w := 2) rfl (by decide) dX3_entitledUp_17 ?_
  refine lv_iload_n hx hb dX3_entitledUp_18 rfl (lv_at hl 0 rfl) ?_
  refine lv_imul hx hb dX3_entitledUp_19 ?_
  refine lv_icmp_le (tgt := 25) hx hb dX3_entitledUp_20 (by decide) (fun c_20 => ?_) (fun c_20 => ?_)
  · refine lv_aload_n hx hb dX3_entitledUp_25 rfl (lv_at hl 1 rfl) ?_
    refine va_get (D := (dC, dI)) (ci := 3) (v := .int ln) (C := RX3) (T := TX3) (N := 11) hx hb hT hiX3 hown hK hP 0 rfl rfl 0 (by decide) (hT _ kf_X3_39) (fun _ h9 => h9) rfl dX3_entitledUp_26 ?_
    refine lv_i2l hx hb dX3_entitledUp_29 rfl ?_
    refine lv_iload_n hx hb dX3_entitledUp_30 rfl (lv_at hl 0 rfl) ?_
    refine lv_aload_n hx hb dX3_entitledUp_31 rfl (lv_at hl 1 rfl) ?_
    refine va_get (D := (dC, dI)) (ci := 3) (v := .int cw) (C := RX3) (T := TX3) (N := 11) hx hb hT hiX3 hown hK hP 0 rfl rfl 1 (by decide) (hT _ kf_X3_43) (fun _ h9 => h9) rfl dX3_entitledUp_32 ?_
    refine lv_isub hx hb dX3_entitledUp_35 ?_
    refine lv_i2l hx hb dX3_entitledUp_36 rfl ?_
    refine lv_lmul hx hb dX3_entitledUp_37 ?_
    exact retR_l hx hb hr hlocks (by simp only [x_ent, c_20, ↓reduceIte, Bool.false_eq_true, i10]) dX3_entitledUp_38
  · refine lv_lconst (v := 0) hx hb dX3_entitledUp_23 (by decide) ?_
    exact retR_l hx hb hr hlocks (by simp only [x_ent, c_20, ↓reduceIte, Bool.false_eq_true, i10]) dX3_entitledUp_24
set_option maxHeartbeats 4000000 in
set_option maxRecDepth 100000 in
theorem c_X3_creditUp (w : Nat) (mn dn : Int32) (hw : w < 6) : Met l yX3_creditUp (wT yX3_creditUp cX3_creditUp 8 (some .long)) ({ frames := 2, cells := 0, slots := 0, locals := 44 }) (pR (dC, dI) (ty3 cI cJ cZ) (xW cI q ln cw ic bs ss se we un sf pa) [.ref (q 0), .int (nI w), .int mn, .int dn]) (vp_Sl (fun r => r = x_cred ln we un sf w mn dn)) 0 0 (fun _ => False) := by
  refine Met.ofW (cc := cX3_creditUp) (maxL := 8) (ret := (some .long)) (by decide) rfl ?_
  intro p e s m args below meth c s₁ B hml hv
  obtain ⟨rfl, hP, hK⟩ := hv
  have hx := B.exec
  have hb := B.bytes
  have hr := B.returns
  have hts := atoms_spec (ws := wT yX3_creditUp cX3_creditUp 8 (some .long)) B.pre
  have hT := wT_T hts
  have hown : s.vm.findClass RX3 = some m.cls := findClass_of_methodNamed B.named
  have hlocks := B.notSynchronized
  have hl := lv_entry ([.ref (q 0), .int (nI w), .int mn, .int dn]) (n := 8) (Nat.le_of_ble_eq_true rfl)
  rw [lg_entry_eq]
  generalize (lg_sl ([.ref (q 0), .int (nI w), .int mn, .int dn]) ++ List.replicate (8 - (lg_sl ([.ref (q 0), .int (nI w), .int mn, .int dn])).length) Slot.unset).toArray = ls at hl ⊢
  have hl : lv_has ls 8 [(0, .ref (q 0)), (1, .int (nI w)), (2, .int mn), (3, .int dn)] := hl
  refine lv_aload_n hx hb dX3_creditUp_0 rfl (lv_at hl 0 rfl) ?_
  refine va_get (D := (dC, dI)) (ci := 3) (v := .ref (q 4)) (C := RX3) (T := TX3) (N := 11) hx hb hT hiX3 hown hK hP 0 rfl rfl 8 (by decide) (hT _ kf_X3_21) (fun _ h9 => h9) rfl dX3_creditUp_1 ?_
  refine lv_iload_n hx hb dX3_creditUp_4 rfl (lv_at hl 1 rfl) ?_
  refine ald_i hx hb hK hP 4 0 rfl rfl (by decide) (w := w) rfl (by omega) dX3_creditUp_5 ?_
  refine lv_i2l hx hb dX3_creditUp_6 rfl ?_
  refine lv_iload_n hx hb dX3_creditUp_7 rfl (lv_at hl 3 rfl) ?_
  refine lv_i2l hx hb dX3_creditUp_8 rfl ?_
  refine lv_lmul hx hb dX3_creditUp_9 ?_
  refine lv_lstore (lv' := [(4, .long ((sf w).toInt64 * (dn).toInt64)), (0, .ref (q 0)), (1, .int (nI w)), (2, .int mn), (3, .int dn)]) hx hb dX3_creditUp_10 hl (by decide) rfl (fun ls hl => ?_)
  refine lv_aload_n hx hb dX3_creditUp_12 rfl (lv_at hl 1 rfl) ?_
  refine va_get (D := (dC, dI)) (ci := 3) (v := .int ln) (C := RX3) (T := TX3) (N := 11) hx hb hT hiX3 hown hK hP 0 rfl rfl 0 (by decide) (hT _ kf_X3_39) (fun _ h9 => h9) rfl dX3_creditUp_13 ?_
  refine lv_i2l hx hb dX3_creditUp_16 rfl ?_
  refine lv_aload_n hx hb dX3_creditUp_17 rfl (lv_at hl 1 rfl) ?_
  refine va_get (D := (dC, dI)) (ci := 3) (v := .ref (q 3)) (C := RX3) (T := TX3) (N := 11) hx hb hT hiX3 hown hK hP 0 rfl rfl 7 (by decide) (hT _ kf_X3_18) (fun _ h9 => h9) rfl dX3_creditUp_18 ?_
  refine lv_iload_n hx hb dX3_creditUp_21 rfl (lv_at hl 2 rfl) ?_
  refine ald_i hx hb hK hP 3 0 rfl rfl (by decide) (w := w) rfl (by omega) dX3_creditUp_22 ?_
  refine lv_aload_n hx hb dX3_creditUp_23 rfl (lv_at hl 1 rfl) ?_
  refine va_get (D := (dC, dI)) (ci := 3) (v := .ref (q 2)) (C := RX3) (T := TX3) (N := 11) hx hb hT hiX3 hown hK hP 0 rfl rfl 6 (by decide) (hT _ kf_X3_15) (fun _ h9 => h9) rfl dX3_creditUp_24 ?_
  refine vp_callSi (rRS (As := [.int (un w), .ref (q 2)]) (rest := [.long ((ln).toInt64)]) ⟨hx, hb, hml, hown, hT⟩ (c_X3_sumOver (l := l) (un w)) (cwTS 2 hT kc_X3_sumOver km_X3_82 kt_X3_sumOver kn_X3 rfl rfl md_X3_sumOver ⟨Nat.le_of_ble_eq_true rfl, Nat.le_of_ble_eq_true rfl⟩) (va_P.sub (ws' := aW cI (q 2) we) hP [2] rfl) hK  rfl hl.1 rfl (Nat.le_of_ble_eq_true rfl) dX3_creditUp_27 ⟨Nat.le_of_ble_eq_true rfl, Nat.le_of_ble_eq_true rfl⟩) (fun r_27 hw_27 => ?_)
  subst hw_27
  refine lv_i2l hx hb dX3_creditUp_30 rfl ?_
  refine lv_lmul hx hb dX3_creditUp_31 ?_
  refine lv_lstore (lv' := [(6, .long ((ln).toInt64 * (x_sumN (un w) we 6).toInt64)), (4, .long ((sf w).toInt64 * (dn).toInt64)), (0, .ref (q 0)), (1, .int (nI w)), (2, .int mn), (3, .int dn)]) hx hb dX3_creditUp_32 hl (by decide) rfl (fun ls hl => ?_)
  refine lv_iload_n hx hb dX3_creditUp_34 rfl (lv_at hl 4 rfl) ?_
  refine lv_if_ne (tgt := 41) hx hb dX3_creditUp_35 (by decide) (fun c_35 => ?_) (fun c_35 => ?_)
  · refine lv_iload_n hx hb dX3_creditUp_41 rfl (lv_at hl 4 rfl) ?_
    refine lv_iconst (v := 1) hx hb dX3_creditUp_42 (by decide) ?_
    refine lv_icmp_ne (tgt := 51) hx hb dX3_creditUp_43 (by decide) (fun c_43 => ?_) (fun c_43 => ?_)
    · refine lv_lload hx hb dX3_creditUp_51 (lv_at hl 1 rfl) ?_
      refine lv_lload hx hb dX3_creditUp_53 (lv_at hl 0 rfl) ?_
      refine va_mmax_long hx hb (by rw [hml]; exact hl.1.symm) hown (hT _ km_X3_218) (hT _ kt_maxl) (hT _ kn_J9) (hT _ kc_maxl) (Nat.le_of_ble_eq_true rfl) (Nat.le_of_ble_eq_true rfl) (Nat.le_of_ble_eq_true rfl) (Nat.le_of_ble_eq_true rfl) dX3_creditUp_55 ?_
      exact retR_l hx hb hr hlocks (by simp only [x_cred, c_35, c_43, ↓reduceIte, Bool.false_eq_true, i10]) dX3_creditUp_58
    · refine lv_lload hx hb dX3_creditUp_46 (lv_at hl 0 rfl) ?_
      refine lv_goto (tgt := 58) hx hb dX3_creditUp_48 (by decide) ?_
      exact retR_l hx hb hr hlocks (by simp only [x_cred, c_35, c_43, ↓reduceIte, Bool.false_eq_true, i10]) dX3_creditUp_58
  · refine lv_lload hx hb dX3_creditUp_38 (lv_at hl 1 rfl) ?_
    exact retR_l hx hb hr hlocks (by simp only [x_cred, c_35, ↓reduceIte, Bool.false_eq_true, i10]) dX3_creditUp_40
set_option maxHeartbeats 4000000 in
set_option maxRecDepth 100000 in
theorem c_X3_creditsUp (mn st dn : Int32) : Met l yX3_creditsUp (wT yX3_creditsUp cX3_creditsUp 8 (some .long)) ({ frames := 3, cells := 0, slots := 0, locals := 71 }) (pR (dC, dI) (ty3 cI cJ cZ) (xW cI q ln cw ic bs ss se we un sf pa) [.ref (q 0), .int mn, .int st, .int dn]) (vp_Sl (fun r => r = x_credsN ln ic we un sf mn st dn 6)) 0 0 (fun _ => False) := by
  refine Met.ofW (cc := cX3_creditsUp) (maxL := 8) (ret := (some .long)) (by decide) rfl ?_
  intro p e s m args below meth c s₁ B hml hv
  obtain ⟨rfl, hP, hK⟩ := hv
  have hx := B.exec
  have hb := B.bytes
  have hr := B.returns
  have hts := atoms_spec (ws := wT yX3_creditsUp cX3_creditsUp 8 (some .long)) B.pre
  have hT := wT_T hts
  have hown : s.vm.findClass RX3 = some m.cls := findClass_of_methodNamed B.named
  have hlocks := B.notSynchronized
  have hl := lv_entry ([.ref (q 0), .int mn, .int st, .int dn]) (n := 8) (Nat.le_of_ble_eq_true rfl)
  rw [lg_entry_eq]
  generalize (lg_sl ([.ref (q 0), .int mn, .int st, .int dn]) ++ List.replicate (8 - (lg_sl ([.ref (q 0), .int mn, .int st, .int dn])).length) Slot.unset).toArray = ls at hl ⊢
  have hl : lv_has ls 8 [(0, .ref (q 0)), (1, .int mn), (2, .int st), (3, .int dn)] := hl
  refine lv_aload_n hx hb dX3_creditsUp_0 rfl (lv_at hl 0 rfl) ?_
  refine vp_callSi (rRV (As := []) (rest := []) ⟨hx, hb, hml, hown, hT⟩ (c_X3_unitHeads (l := l) ) (cwTV 0 hT kc_X3_unitHeads km_X3_204 ki_X3_unitHeads ks_X3_unitHeads kn_X3 rfl rfl md_X3_unitHeads ⟨Nat.le_of_ble_eq_true rfl, Nat.le_of_ble_eq_true rfl⟩) hP hK (va_recv hK hP (ci := 3) (q0 := 0) rfl rfl) rfl hl.1 rfl (Nat.le_of_ble_eq_true rfl) dX3_creditsUp_1 ⟨Nat.le_of_ble_eq_true rfl, Nat.le_of_ble_eq_true rfl⟩) (fun r_1 hw_1 => ?_)
  subst hw_1
  refine lv_iload_n hx hb dX3_creditsUp_4 rfl (lv_at hl 2 rfl) ?_
  refine lv_iand hx hb dX3_creditsUp_5 ?_
  refine lv_istore (lv' := [(4, .int ((x_headsN ic un 6) &&& st)), (0, .ref (q 0)), (1, .int mn), (2, .int st), (3, .int dn)]) hx hb dX3_creditsUp_6 hl (by decide) rfl (fun ls hl => ?_)
  refine lv_lconst (v := 0) hx hb dX3_creditsUp_8 (by decide) ?_
  refine lv_lstore (lv' := [(5, .long 0), (4, .int ((x_headsN ic un 6) &&& st)), (0, .ref (q 0)), (1, .int mn), (2, .int st), (3, .int dn)]) hx hb dX3_creditsUp_9 hl (by decide) rfl (fun ls hl => ?_)
  refine lv_iconst (v := 0) hx hb dX3_creditsUp_11 (by decide) ?_
  refine lv_istore (lv' := [(7, .int 0), (5, .long 0), (4, .int ((x_headsN ic un 6) &&& st)), (0, .ref (q 0)), (1, .int mn), (2, .int st), (3, .int dn)]) hx hb dX3_creditsUp_12 hl (by decide) rfl (fun ls hl => ?_)
  refine loopR 6 (fun i ls => lv_has ls 8 [(7, .int (nI i)), (5, .long (x_credsN ln ic we un sf mn st dn i)), (4, .int ((x_headsN ic un 6) &&& st)), (0, .ref (q 0)), (1, .int mn), (2, .int st), (3, .int dn)]) (i0 := 0) (Nat.zero_le _) (lv_sub hl [0, 1, 2, 3, 4, 5, 6] rfl) (fun i ls hi hl ih => ?_) (fun ls hl => ?_)
  · refine lv_iload hx hb dX3_creditsUp_14 (lv_at hl 0 rfl) ?_
    refine lv_bipush (v := 6) hx hb dX3_creditsUp_16 (by decide) ?_
    refine lv_icmp_ge (tgt := 50) hx hb dX3_creditsUp_18 (by decide) (fun h => absurd h (nI_ge (b := 6) hi (by decide))) (fun c_18 => ?_)
    refine lv_iload hx hb dX3_creditsUp_21 (lv_at hl 2 rfl) ?_
    refine lv_iload hx hb dX3_creditsUp_23 (lv_at hl 0 rfl) ?_
    refine vp_callSi (rRS (As := [.int ((x_headsN ic un 6) &&& st), .int (nI i)]) (rest := []) ⟨hx, hb, hml, hown, hT⟩ (c_X3_has (l := l) ((x_headsN ic un 6) &&& st) i (by first | assumption | omega)) (cwTS 2 hT kc_X3_has km_X3_49 kt_X3_has kn_X3 rfl rfl md_X3_has ⟨Nat.le_of_ble_eq_true rfl, Nat.le_of_ble_eq_true rfl⟩) nilP hK  rfl hl.1 rfl (Nat.le_of_ble_eq_true rfl) dX3_creditsUp_25 ⟨Nat.le_of_ble_eq_true rfl, Nat.le_of_ble_eq_true rfl⟩) (fun r_25 hw_25 => ?_)
    rcases hw_25 with ⟨rfl, hw_25⟩ | ⟨rfl, hw_25⟩
    · refine lv_if_eq (tgt := 44) hx hb dX3_creditsUp_28 (by decide) (fun h => absurd h (by decide)) (fun c_28 => ?_)
      refine lv_lload hx hb dX3_creditsUp_31 (lv_at hl 1 rfl) ?_
      refine lv_aload_n hx hb dX3_creditsUp_33 rfl (lv_at hl 3 rfl) ?_
      refine lv_iload hx hb dX3_creditsUp_34 (lv_at hl 0 rfl) ?_
      refine lv_iload_n hx hb dX3_creditsUp_36 rfl (lv_at hl 4 rfl) ?_
      refine lv_iload_n hx hb dX3_creditsUp_37 rfl (lv_at hl 6 rfl) ?_
      refine vp_callSl (rRV (As := [.int (nI i), .int mn, .int dn]) (rest := [.long (x_credsN ln ic we un sf mn st dn i)]) ⟨hx, hb, hml, hown, hT⟩ (c_X3_creditUp (l := l) i mn dn (by first | assumption | omega)) (cwTV 3 hT kc_X3_creditUp km_X3_130 ki_X3_creditUp ks_X3_creditUp kn_X3 rfl rfl md_X3_creditUp ⟨Nat.le_of_ble_eq_true rfl, Nat.le_of_ble_eq_true rfl⟩) hP hK (va_recv hK hP (ci := 3) (q0 := 0) rfl rfl) rfl hl.1 rfl (Nat.le_of_ble_eq_true rfl) dX3_creditsUp_38 ⟨Nat.le_of_ble_eq_true rfl, Nat.le_of_ble_eq_true rfl⟩) (fun r_38 hw_38 => ?_)
      subst hw_38
      refine lv_ladd hx hb dX3_creditsUp_41 ?_
      refine lv_lstore (lv' := [(5, .long ((x_credsN ln ic we un sf mn st dn i) + (x_cred ln we un sf i mn dn))), (7, .int (nI i)), (4, .int ((x_headsN ic un 6) &&& st)), (0, .ref (q 0)), (1, .int mn), (2, .int st), (3, .int dn)]) hx hb dX3_creditsUp_42 hl (by decide) rfl (fun ls hl => ?_)
      refine lv_iinc (v := (nI (i + 1))) (lv' := [(7, .int (nI (i + 1))), (5, .long ((x_credsN ln ic we un sf mn st dn i) + (x_cred ln we un sf i mn dn))), (4, .int ((x_headsN ic un 6) &&& st)), (0, .ref (q 0)), (1, .int mn), (2, .int st), (3, .int dn)]) hx hb dX3_creditsUp_44 hl (k := 1) rfl (nI_1 i) (by decide) rfl (fun ls hl => ?_)
      refine lv_goto (tgt := 14) hx hb dX3_creditsUp_47 (by decide) ?_
      have es0 : ((x_credsN ln ic we un sf mn st dn i) + (x_cred ln we un sf i mn dn) : Int64) = (x_credsN ln ic we un sf mn st dn (i + 1)) := by simp only [x_credsN, hw_25, ↓reduceIte, Bool.false_eq_true, i10]
      exact ih _ (by rw [← es0]; exact lv_sub hl [0, 1, 2, 3, 4, 5, 6] rfl)
    · refine lv_if_eq (tgt := 44) hx hb dX3_creditsUp_28 (by decide) (fun c_28 => ?_) (fun h => absurd h (by decide))
      refine lv_iinc (v := (nI (i + 1))) (lv' := [(7, .int (nI (i + 1))), (5, .long (x_credsN ln ic we un sf mn st dn i)), (4, .int ((x_headsN ic un 6) &&& st)), (0, .ref (q 0)), (1, .int mn), (2, .int st), (3, .int dn)]) hx hb dX3_creditsUp_44 hl (k := 0) rfl (nI_1 i) (by decide) rfl (fun ls hl => ?_)
      refine lv_goto (tgt := 14) hx hb dX3_creditsUp_47 (by decide) ?_
      have es0 : (x_credsN ln ic we un sf mn st dn i : Int64) = (x_credsN ln ic we un sf mn st dn (i + 1)) := by simp only [x_credsN, hw_25, ↓reduceIte, Bool.false_eq_true, i10]
      exact ih _ (by rw [← es0]; exact lv_sub hl [0, 1, 2, 3, 4, 5, 6] rfl)
  · refine lv_iload hx hb dX3_creditsUp_14 (lv_at hl 0 rfl) ?_
    refine lv_bipush (v := 6) hx hb dX3_creditsUp_16 (by decide) ?_
    refine lv_icmp_ge (tgt := 50) hx hb dX3_creditsUp_18 (by decide) (fun c_18 => ?_) (fun h => absurd h (by decide))
    refine lv_lload hx hb dX3_creditsUp_50 (lv_at hl 1 rfl) ?_
    exact retR_l hx hb hr hlocks rfl dX3_creditsUp_52
set_option maxHeartbeats 4000000 in
set_option maxRecDepth 100000 in
theorem c_X3_unitBears (w : Nat) (st : Int32) (hw : w < 6) : Met l yX3_unitBears (wT yX3_unitBears cX3_unitBears 4 (some .int)) ({ frames := 2, cells := 0, slots := 0, locals := 45 }) (pR (dC, dI) (ty3 cI cJ cZ) (xW cI q ln cw ic bs ss se we un sf pa) [.ref (q 0), .int (nI w), .int st]) (vp_Si (fun r => r = x_ub ic bs we un w st)) 0 0 (fun _ => False) := by
  refine Met.ofW (cc := cX3_unitBears) (maxL := 4) (ret := (some .int)) (by decide) rfl ?_
  intro p e s m args below meth c s₁ B hml hv
  obtain ⟨rfl, hP, hK⟩ := hv
  have hx := B.exec
  have hb := B.bytes
  have hr := B.returns
  have hts := atoms_spec (ws := wT yX3_unitBears cX3_unitBears 4 (some .int)) B.pre
  have hT := wT_T hts
  have hown : s.vm.findClass RX3 = some m.cls := findClass_of_methodNamed B.named
  have hlocks := B.notSynchronized
  have hl := lv_entry ([.ref (q 0), .int (nI w), .int st]) (n := 4) (Nat.le_of_ble_eq_true rfl)
  rw [lg_entry_eq]
  generalize (lg_sl ([.ref (q 0), .int (nI w), .int st]) ++ List.replicate (4 - (lg_sl ([.ref (q 0), .int (nI w), .int st])).length) Slot.unset).toArray = ls at hl ⊢
  have hl : lv_has ls 4 [(0, .ref (q 0)), (1, .int (nI w)), (2, .int st)] := hl
  refine lv_iload_n hx hb dX3_unitBears_0 rfl (lv_at hl 2 rfl) ?_
  refine lv_iload_n hx hb dX3_unitBears_1 rfl (lv_at hl 1 rfl) ?_
  refine vp_callSi (rRS (As := [.int st, .int (nI w)]) (rest := []) ⟨hx, hb, hml, hown, hT⟩ (c_X3_has (l := l) st w (by first | assumption | omega)) (cwTS 2 hT kc_X3_has km_X3_49 kt_X3_has kn_X3 rfl rfl md_X3_has ⟨Nat.le_of_ble_eq_true rfl, Nat.le_of_ble_eq_true rfl⟩) nilP hK  rfl hl.1 rfl (Nat.le_of_ble_eq_true rfl) dX3_unitBears_2 ⟨Nat.le_of_ble_eq_true rfl, Nat.le_of_ble_eq_true rfl⟩) (fun r_2 hw_2 => ?_)
  rcases hw_2 with ⟨rfl, hw_2⟩ | ⟨rfl, hw_2⟩
  · refine lv_if_ne (tgt := 28) hx hb dX3_unitBears_5 (by decide) (fun c_5 => ?_) (fun h => absurd h (by decide))
    refine lv_iconst (v := 0) hx hb dX3_unitBears_28 (by decide) ?_
    refine lv_istore_n (lv' := [(3, .int 0), (0, .ref (q 0)), (1, .int (nI w)), (2, .int st)]) hx hb dX3_unitBears_29 rfl hl (by decide) rfl (fun ls hl => ?_)
    refine lv_iload_n hx hb dX3_unitBears_30 rfl (lv_at hl 0 rfl) ?_
    refine lv_if_eq (tgt := 50) hx hb dX3_unitBears_31 (by decide) (fun c_31 => ?_) (fun h => absurd h (by decide))
    refine lv_iconst (v := 0) hx hb dX3_unitBears_50 (by decide) ?_
    exact retR_i hx hb hr hlocks (by simp only [x_ub, hw_2, ↓reduceIte, Bool.false_eq_true, i10]) dX3_unitBears_51
  · refine lv_if_ne (tgt := 28) hx hb dX3_unitBears_5 (by decide) (fun h => absurd h (by decide)) (fun c_5 => ?_)
    refine lv_aload_n hx hb dX3_unitBears_8 rfl (lv_at hl 0 rfl) ?_
    refine lv_iload_n hx hb dX3_unitBears_9 rfl (lv_at hl 2 rfl) ?_
    refine lv_aload_n hx hb dX3_unitBears_10 rfl (lv_at hl 0 rfl) ?_
    refine va_get (D := (dC, dI)) (ci := 3) (v := .int bs) (C := RX3) (T := TX3) (N := 11) hx hb hT hiX3 hown hK hP 0 rfl rfl 4 (by decide) (hT _ kf_X3_68) (fun _ h9 => h9) rfl dX3_unitBears_11 ?_
    refine vp_callSi (rRV (As := [.int st, .int bs]) (rest := []) ⟨hx, hb, hml, hown, hT⟩ (c_X3_openBroke (l := l) st bs) (cwTV 2 hT kc_X3_openBroke km_X3_207 ki_X3_openBroke ks_X3_openBroke kn_X3 rfl rfl md_X3_openBroke ⟨Nat.le_of_ble_eq_true rfl, Nat.le_of_ble_eq_true rfl⟩) hP hK (va_recv hK hP (ci := 3) (q0 := 0) rfl rfl) rfl hl.1 rfl (Nat.le_of_ble_eq_true rfl) dX3_unitBears_14 ⟨Nat.le_of_ble_eq_true rfl, Nat.le_of_ble_eq_true rfl⟩) (fun r_14 hw_14 => ?_)
    subst hw_14
    refine lv_iload_n hx hb dX3_unitBears_17 rfl (lv_at hl 1 rfl) ?_
    refine vp_callSi (rRS (As := [.int (x_obN ic un st bs 6), .int (nI w)]) (rest := []) ⟨hx, hb, hml, hown, hT⟩ (c_X3_has (l := l) (x_obN ic un st bs 6) w (by first | assumption | omega)) (cwTS 2 hT kc_X3_has km_X3_49 kt_X3_has kn_X3 rfl rfl md_X3_has ⟨Nat.le_of_ble_eq_true rfl, Nat.le_of_ble_eq_true rfl⟩) nilP hK  rfl hl.1 rfl (Nat.le_of_ble_eq_true rfl) dX3_unitBears_18 ⟨Nat.le_of_ble_eq_true rfl, Nat.le_of_ble_eq_true rfl⟩) (fun r_18 hw_18 => ?_)
    rcases hw_18 with ⟨rfl, hw_18⟩ | ⟨rfl, hw_18⟩
    · refine lv_if_ne (tgt := 28) hx hb dX3_unitBears_21 (by decide) (fun c_21 => ?_) (fun h => absurd h (by decide))
      refine lv_iconst (v := 0) hx hb dX3_unitBears_28 (by decide) ?_
      refine lv_istore_n (lv' := [(3, .int 0), (0, .ref (q 0)), (1, .int (nI w)), (2, .int st)]) hx hb dX3_unitBears_29 rfl hl (by decide) rfl (fun ls hl => ?_)
      refine lv_iload_n hx hb dX3_unitBears_30 rfl (lv_at hl 0 rfl) ?_
      refine lv_if_eq (tgt := 50) hx hb dX3_unitBears_31 (by decide) (fun c_31 => ?_) (fun h => absurd h (by decide))
      refine lv_iconst (v := 0) hx hb dX3_unitBears_50 (by decide) ?_
      exact retR_i hx hb hr hlocks (by simp only [x_ub, hw_2, hw_18, ↓reduceIte, Bool.false_eq_true, i10]) dX3_unitBears_51
    · refine lv_if_ne (tgt := 28) hx hb dX3_unitBears_21 (by decide) (fun h => absurd h (by decide)) (fun c_21 => ?_)
      refine lv_iconst (v := 1) hx hb dX3_unitBears_24 (by decide) ?_
      refine lv_goto (tgt := 29) hx hb dX3_unitBears_25 (by decide) ?_
      refine lv_istore_n (lv' := [(3, .int 1), (0, .ref (q 0)), (1, .int (nI w)), (2, .int st)]) hx hb dX3_unitBears_29 rfl hl (by decide) rfl (fun ls hl => ?_)
      refine lv_iload_n hx hb dX3_unitBears_30 rfl (lv_at hl 0 rfl) ?_
      refine lv_if_eq (tgt := 50) hx hb dX3_unitBears_31 (by decide) (fun h => absurd h (by decide)) (fun c_31 => ?_)
      refine lv_aload_n hx hb dX3_unitBears_34 rfl (lv_at hl 1 rfl) ?_
      refine va_get (D := (dC, dI)) (ci := 3) (v := .ref (q 3)) (C := RX3) (T := TX3) (N := 11) hx hb hT hiX3 hown hK hP 0 rfl rfl 7 (by decide) (hT _ kf_X3_18) (fun _ h9 => h9) rfl dX3_unitBears_35 ?_
      refine lv_iload_n hx hb dX3_unitBears_38 rfl (lv_at hl 2 rfl) ?_
      refine ald_i hx hb hK hP 3 0 rfl rfl (by decide) (w := w) rfl (by omega) dX3_unitBears_39 ?_
      refine lv_aload_n hx hb dX3_unitBears_40 rfl (lv_at hl 1 rfl) ?_
      refine va_get (D := (dC, dI)) (ci := 3) (v := .ref (q 2)) (C := RX3) (T := TX3) (N := 11) hx hb hT hiX3 hown hK hP 0 rfl rfl 6 (by decide) (hT _ kf_X3_15) (fun _ h9 => h9) rfl dX3_unitBears_41 ?_
      refine vp_callSi (rRS (As := [.int (un w), .ref (q 2)]) (rest := []) ⟨hx, hb, hml, hown, hT⟩ (c_X3_sumOver (l := l) (un w)) (cwTS 2 hT kc_X3_sumOver km_X3_82 kt_X3_sumOver kn_X3 rfl rfl md_X3_sumOver ⟨Nat.le_of_ble_eq_true rfl, Nat.le_of_ble_eq_true rfl⟩) (va_P.sub (ws' := aW cI (q 2) we) hP [2] rfl) hK  rfl hl.1 rfl (Nat.le_of_ble_eq_true rfl) dX3_unitBears_44 ⟨Nat.le_of_ble_eq_true rfl, Nat.le_of_ble_eq_true rfl⟩) (fun r_44 hw_44 => ?_)
      subst hw_44
      refine lv_goto (tgt := 51) hx hb dX3_unitBears_47 (by decide) ?_
      exact retR_i hx hb hr hlocks (by simp only [x_ub, hw_2, hw_18, ↓reduceIte, Bool.false_eq_true, i10]) dX3_unitBears_51
set_option maxHeartbeats 4000000 in
set_option maxRecDepth 100000 in
theorem c_X3_bears (w : Nat) (hw : w < 6) : Met l yX3_bears (wT yX3_bears cX3_bears 3 (some .int)) ({ frames := 2, cells := 0, slots := 0, locals := 44 }) (pR (dC, dI) (ty3 cI cJ cZ) (xW cI q ln cw ic bs ss se we un sf pa) [.ref (q 0), .int (nI w)]) (vp_Si (fun r => r = x_bears bs ss we un w)) 0 0 (fun _ => False) := by
  refine Met.ofW (cc := cX3_bears) (maxL := 3) (ret := (some .int)) (by decide) rfl ?_
  intro p e s m args below meth c s₁ B hml hv
  obtain ⟨rfl, hP, hK⟩ := hv
  have hx := B.exec
  have hb := B.bytes
  have hr := B.returns
  have hts := atoms_spec (ws := wT yX3_bears cX3_bears 3 (some .int)) B.pre
  have hT := wT_T hts
  have hown : s.vm.findClass RX3 = some m.cls := findClass_of_methodNamed B.named
  have hlocks := B.notSynchronized
  have hl := lv_entry ([.ref (q 0), .int (nI w)]) (n := 3) (Nat.le_of_ble_eq_true rfl)
  rw [lg_entry_eq]
  generalize (lg_sl ([.ref (q 0), .int (nI w)]) ++ List.replicate (3 - (lg_sl ([.ref (q 0), .int (nI w)])).length) Slot.unset).toArray = ls at hl ⊢
  have hl : lv_has ls 3 [(0, .ref (q 0)), (1, .int (nI w))] := hl
  refine lv_aload_n hx hb dX3_bears_0 rfl (lv_at hl 0 rfl) ?_
  refine va_get (D := (dC, dI)) (ci := 3) (v := .int ss) (C := RX3) (T := TX3) (N := 11) hx hb hT hiX3 hown hK hP 0 rfl rfl 5 (by decide) (hT _ kf_X3_79) (fun _ h9 => h9) rfl dX3_bears_1 ?_
  refine lv_aload_n hx hb dX3_bears_4 rfl (lv_at hl 0 rfl) ?_
  refine va_get (D := (dC, dI)) (ci := 3) (v := .int bs) (C := RX3) (T := TX3) (N := 11) hx hb hT hiX3 hown hK hP 0 rfl rfl 4 (by decide) (hT _ kf_X3_68) (fun _ h9 => h9) rfl dX3_bears_5 ?_
  refine lv_ior hx hb dX3_bears_8 ?_
  refine lv_iload_n hx hb dX3_bears_9 rfl (lv_at hl 1 rfl) ?_
  refine vp_callSi (rRS (As := [.int (ss ||| bs), .int (nI w)]) (rest := []) ⟨hx, hb, hml, hown, hT⟩ (c_X3_has (l := l) (ss ||| bs) w (by first | assumption | omega)) (cwTS 2 hT kc_X3_has km_X3_49 kt_X3_has kn_X3 rfl rfl md_X3_has ⟨Nat.le_of_ble_eq_true rfl, Nat.le_of_ble_eq_true rfl⟩) nilP hK  rfl hl.1 rfl (Nat.le_of_ble_eq_true rfl) dX3_bears_10 ⟨Nat.le_of_ble_eq_true rfl, Nat.le_of_ble_eq_true rfl⟩) (fun r_10 hw_10 => ?_)
  rcases hw_10 with ⟨rfl, hw_10⟩ | ⟨rfl, hw_10⟩
  · refine lv_if_eq (tgt := 18) hx hb dX3_bears_13 (by decide) (fun h => absurd h (by decide)) (fun c_13 => ?_)
    refine lv_iconst (v := 0) hx hb dX3_bears_16 (by decide) ?_
    exact retR_i hx hb hr hlocks (by simp only [x_bears, hw_10, ↓reduceIte, Bool.false_eq_true, i10]) dX3_bears_17
  · refine lv_if_eq (tgt := 18) hx hb dX3_bears_13 (by decide) (fun c_13 => ?_) (fun h => absurd h (by decide))
    refine lv_aload_n hx hb dX3_bears_18 rfl (lv_at hl 0 rfl) ?_
    refine va_get (D := (dC, dI)) (ci := 3) (v := .ref (q 3)) (C := RX3) (T := TX3) (N := 11) hx hb hT hiX3 hown hK hP 0 rfl rfl 7 (by decide) (hT _ kf_X3_18) (fun _ h9 => h9) rfl dX3_bears_19 ?_
    refine lv_iload_n hx hb dX3_bears_22 rfl (lv_at hl 1 rfl) ?_
    refine ald_i hx hb hK hP 3 0 rfl rfl (by decide) (w := w) rfl (by omega) dX3_bears_23 ?_
    refine lv_aload_n hx hb dX3_bears_24 rfl (lv_at hl 0 rfl) ?_
    refine va_get (D := (dC, dI)) (ci := 3) (v := .int bs) (C := RX3) (T := TX3) (N := 11) hx hb hT hiX3 hown hK hP 0 rfl rfl 4 (by decide) (hT _ kf_X3_68) (fun _ h9 => h9) rfl dX3_bears_25 ?_
    refine lv_iand hx hb dX3_bears_28 ?_
    refine lv_if_eq (tgt := 36) hx hb dX3_bears_29 (by decide) (fun c_29 => ?_) (fun c_29 => ?_)
    · refine lv_iconst (v := 0) hx hb dX3_bears_36 (by decide) ?_
      refine lv_istore_n (lv' := [(2, .int 0), (0, .ref (q 0)), (1, .int (nI w))]) hx hb dX3_bears_37 rfl hl (by decide) rfl (fun ls hl => ?_)
      refine lv_iload_n hx hb dX3_bears_38 rfl (lv_at hl 0 rfl) ?_
      refine lv_if_eq (tgt := 58) hx hb dX3_bears_39 (by decide) (fun c_39 => ?_) (fun h => absurd h (by decide))
      refine lv_aload_n hx hb dX3_bears_58 rfl (lv_at hl 1 rfl) ?_
      refine va_get (D := (dC, dI)) (ci := 3) (v := .ref (q 2)) (C := RX3) (T := TX3) (N := 11) hx hb hT hiX3 hown hK hP 0 rfl rfl 6 (by decide) (hT _ kf_X3_15) (fun _ h9 => h9) rfl dX3_bears_59 ?_
      refine lv_iload_n hx hb dX3_bears_62 rfl (lv_at hl 2 rfl) ?_
      refine ald_i hx hb hK hP 2 0 rfl rfl (by decide) (w := w) rfl (by omega) dX3_bears_63 ?_
      exact retR_i hx hb hr hlocks (by simp only [x_bears, hw_10, c_29, ↓reduceIte, Bool.false_eq_true, i10]) dX3_bears_64
    · refine lv_iconst (v := 1) hx hb dX3_bears_32 (by decide) ?_
      refine lv_goto (tgt := 37) hx hb dX3_bears_33 (by decide) ?_
      refine lv_istore_n (lv' := [(2, .int 1), (0, .ref (q 0)), (1, .int (nI w))]) hx hb dX3_bears_37 rfl hl (by decide) rfl (fun ls hl => ?_)
      refine lv_iload_n hx hb dX3_bears_38 rfl (lv_at hl 0 rfl) ?_
      refine lv_if_eq (tgt := 58) hx hb dX3_bears_39 (by decide) (fun h => absurd h (by decide)) (fun c_39 => ?_)
      refine lv_aload_n hx hb dX3_bears_42 rfl (lv_at hl 1 rfl) ?_
      refine va_get (D := (dC, dI)) (ci := 3) (v := .ref (q 3)) (C := RX3) (T := TX3) (N := 11) hx hb hT hiX3 hown hK hP 0 rfl rfl 7 (by decide) (hT _ kf_X3_18) (fun _ h9 => h9) rfl dX3_bears_43 ?_
      refine lv_iload_n hx hb dX3_bears_46 rfl (lv_at hl 2 rfl) ?_
      refine ald_i hx hb hK hP 3 0 rfl rfl (by decide) (w := w) rfl (by omega) dX3_bears_47 ?_
      refine lv_aload_n hx hb dX3_bears_48 rfl (lv_at hl 1 rfl) ?_
      refine va_get (D := (dC, dI)) (ci := 3) (v := .ref (q 2)) (C := RX3) (T := TX3) (N := 11) hx hb hT hiX3 hown hK hP 0 rfl rfl 6 (by decide) (hT _ kf_X3_15) (fun _ h9 => h9) rfl dX3_bears_49 ?_
      refine vp_callSi (rRS (As := [.int (un w), .ref (q 2)]) (rest := []) ⟨hx, hb, hml, hown, hT⟩ (c_X3_sumOver (l := l) (un w)) (cwTS 2 hT kc_X3_sumOver km_X3_82 kt_X3_sumOver kn_X3 rfl rfl md_X3_sumOver ⟨Nat.le_of_ble_eq_true rfl, Nat.le_of_ble_eq_true rfl⟩) (va_P.sub (ws' := aW cI (q 2) we) hP [2] rfl) hK  rfl hl.1 rfl (Nat.le_of_ble_eq_true rfl) dX3_bears_52 ⟨Nat.le_of_ble_eq_true rfl, Nat.le_of_ble_eq_true rfl⟩) (fun r_52 hw_52 => ?_)
      subst hw_52
      refine lv_goto (tgt := 64) hx hb dX3_bears_55 (by decide) ?_
      exact retR_i hx hb hr hlocks (by simp only [x_bears, hw_10, c_29, ↓reduceIte, Bool.false_eq_true, i10]) dX3_bears_64
set_option maxHeartbeats 4000000 in
set_option maxRecDepth 100000 in
theorem c_X3_allPaid  : Met l yX3_allPaid (wT yX3_allPaid cX3_allPaid 1 (some .int)) ({ frames := 2, cells := 0, slots := 0, locals := 44 }) (pR (dC, dI) (ty3 cI cJ cZ) (xW cI q ln cw ic bs ss se we un sf pa) [.ref (q 0)]) (vp_Si (fun r => r = x_sumN ic pa 6)) 0 0 (fun _ => False) := by
  refine Met.ofW (cc := cX3_allPaid) (maxL := 1) (ret := (some .int)) (by decide) rfl ?_
  intro p e s m args below meth c s₁ B hml hv
  obtain ⟨rfl, hP, hK⟩ := hv
  have hx := B.exec
  have hb := B.bytes
  have hr := B.returns
  have hts := atoms_spec (ws := wT yX3_allPaid cX3_allPaid 1 (some .int)) B.pre
  have hT := wT_T hts
  have hown : s.vm.findClass RX3 = some m.cls := findClass_of_methodNamed B.named
  have hlocks := B.notSynchronized
  have hl := lv_entry ([.ref (q 0)]) (n := 1) (Nat.le_of_ble_eq_true rfl)
  rw [lg_entry_eq]
  generalize (lg_sl ([.ref (q 0)]) ++ List.replicate (1 - (lg_sl ([.ref (q 0)])).length) Slot.unset).toArray = ls at hl ⊢
  have hl : lv_has ls 1 [(0, .ref (q 0))] := hl
  refine lv_aload_n hx hb dX3_allPaid_0 rfl (lv_at hl 0 rfl) ?_
  refine va_get (D := (dC, dI)) (ci := 3) (v := .int ic) (C := RX3) (T := TX3) (N := 11) hx hb hT hiX3 hown hK hP 0 rfl rfl 3 (by decide) (hT _ kf_X3_46) (fun _ h9 => h9) rfl dX3_allPaid_1 ?_
  refine lv_aload_n hx hb dX3_allPaid_4 rfl (lv_at hl 0 rfl) ?_
  refine va_get (D := (dC, dI)) (ci := 3) (v := .ref (q 5)) (C := RX3) (T := TX3) (N := 11) hx hb hT hiX3 hown hK hP 0 rfl rfl 9 (by decide) (hT _ kf_X3_24) (fun _ h9 => h9) rfl dX3_allPaid_5 ?_
  refine vp_callSi (rRS (As := [.int ic, .ref (q 5)]) (rest := []) ⟨hx, hb, hml, hown, hT⟩ (c_X3_sumOver (l := l) ic) (cwTS 2 hT kc_X3_sumOver km_X3_82 kt_X3_sumOver kn_X3 rfl rfl md_X3_sumOver ⟨Nat.le_of_ble_eq_true rfl, Nat.le_of_ble_eq_true rfl⟩) (va_P.sub (ws' := aW cI (q 5) pa) hP [5] rfl) hK  rfl hl.1 rfl (Nat.le_of_ble_eq_true rfl) dX3_allPaid_8 ⟨Nat.le_of_ble_eq_true rfl, Nat.le_of_ble_eq_true rfl⟩) (fun r_8 hw_8 => ?_)
  subst hw_8
  exact retR_i hx hb hr hlocks rfl dX3_allPaid_11
set_option maxHeartbeats 4000000 in
set_option maxRecDepth 100000 in
theorem c_X3_fairUp {o e1 e2 e3 e4 e5 e6 : Nat} {fd du dd : Int64} (w : Nat) (hw : w < 6) : Met l yX3_fairUp (wT yX3_fairUp cX3_fairUp 3 (some .long)) ({ frames := 3, cells := 0, slots := 0, locals := 66 }) (pR (dC, dI) (ty3 cI cJ cZ) ((xW cI q ln cw ic bs ss se we un sf pa) ++ (owW  o e1 e2 e3 e4 e5 e6 fd) ++ (shW  e5 du dd)) [.ref (q 0), .int (nI w), .ref o]) (vp_Sl (fun r => r = x_fairUp ic bs ss we un pa w du)) 0 0 (fun _ => False) := by
  refine Met.ofW (cc := cX3_fairUp) (maxL := 3) (ret := (some .long)) (by decide) rfl ?_
  intro p e s m args below meth c s₁ B hml hv
  obtain ⟨rfl, hP, hK⟩ := hv
  have hx := B.exec
  have hb := B.bytes
  have hr := B.returns
  have hts := atoms_spec (ws := wT yX3_fairUp cX3_fairUp 3 (some .long)) B.pre
  have hT := wT_T hts
  have hown : s.vm.findClass RX3 = some m.cls := findClass_of_methodNamed B.named
  have hlocks := B.notSynchronized
  have hl := lv_entry ([.ref (q 0), .int (nI w), .ref o]) (n := 3) (Nat.le_of_ble_eq_true rfl)
  rw [lg_entry_eq]
  generalize (lg_sl ([.ref (q 0), .int (nI w), .ref o]) ++ List.replicate (3 - (lg_sl ([.ref (q 0), .int (nI w), .ref o])).length) Slot.unset).toArray = ls at hl ⊢
  have hl : lv_has ls 3 [(0, .ref (q 0)), (1, .int (nI w)), (2, .ref o)] := hl
  refine lv_aload_n hx hb dX3_fairUp_0 rfl (lv_at hl 2 rfl) ?_
  refine va_get (D := (dC, dI)) (ci := 1) (v := .ref e5) (C := RX1) (T := TX1) (N := 7) hx hb hT hiX1 hown hK hP 6 rfl rfl 4 (by decide) (hT _ kf_X3_123) (fun _ h9 => h9) rfl dX3_fairUp_1 ?_
  refine va_get (D := (dC, dI)) (ci := 2) (v := .long du) (C := RX2) (T := TX2) (N := 2) hx hb hT hiX2 hown hK hP 7 rfl rfl 0 (by decide) (hT _ kf_X3_160) (fun _ h9 => h9) rfl dX3_fairUp_4 ?_
  refine lv_lconst (v := 0) hx hb dX3_fairUp_7 (by decide) ?_
  refine lc_ne (tgt := 16) hx hb dX3_fairUp_8 dX3_fairUp_9 (by decide) (fun c_8 => ?_) (fun c_8 => ?_)
  · refine lv_aload_n hx hb dX3_fairUp_16 rfl (lv_at hl 0 rfl) ?_
    refine vp_callSi (rRV (As := []) (rest := []) ⟨hx, hb, hml, hown, hT⟩ (c_X3_allPaid (l := l) ) (cwTV 0 hT kc_X3_allPaid km_X3_171 ki_X3_allPaid ks_X3_allPaid kn_X3 rfl rfl md_X3_allPaid ⟨Nat.le_of_ble_eq_true rfl, Nat.le_of_ble_eq_true rfl⟩) (va_P.sub (ws' := xW cI q ln cw ic bs ss se we un sf pa) hP [0, 1, 2, 3, 4, 5] rfl) hK (va_recv hK hP (ci := 3) (q0 := 0) rfl rfl) rfl hl.1 rfl (Nat.le_of_ble_eq_true rfl) dX3_fairUp_17 ⟨Nat.le_of_ble_eq_true rfl, Nat.le_of_ble_eq_true rfl⟩) (fun r_17 hw_17 => ?_)
    subst hw_17
    refine lv_i2l hx hb dX3_fairUp_20 rfl ?_
    refine lv_aload_n hx hb dX3_fairUp_21 rfl (lv_at hl 0 rfl) ?_
    refine lv_iload_n hx hb dX3_fairUp_22 rfl (lv_at hl 1 rfl) ?_
    refine vp_callSi (rRV (As := [.int (nI w)]) (rest := [.long ((x_sumN ic pa 6).toInt64)]) ⟨hx, hb, hml, hown, hT⟩ (c_X3_bears (l := l) w (by first | assumption | omega)) (cwTV 1 hT kc_X3_bears km_X3_149 ki_X3_bears ks_X3_bears kn_X3 rfl rfl md_X3_bears ⟨Nat.le_of_ble_eq_true rfl, Nat.le_of_ble_eq_true rfl⟩) (va_P.sub (ws' := xW cI q ln cw ic bs ss se we un sf pa) hP [0, 1, 2, 3, 4, 5] rfl) hK (va_recv hK hP (ci := 3) (q0 := 0) rfl rfl) rfl hl.1 rfl (Nat.le_of_ble_eq_true rfl) dX3_fairUp_23 ⟨Nat.le_of_ble_eq_true rfl, Nat.le_of_ble_eq_true rfl⟩) (fun r_23 hw_23 => ?_)
    subst hw_23
    refine lv_i2l hx hb dX3_fairUp_26 rfl ?_
    refine lv_lmul hx hb dX3_fairUp_27 ?_
    exact retR_l hx hb hr hlocks (by simp only [x_fairUp, c_8, ↓reduceIte, Bool.false_eq_true, i10]) dX3_fairUp_28
  · refine lv_lconst (v := 0) hx hb dX3_fairUp_12 (by decide) ?_
    refine lv_goto (tgt := 28) hx hb dX3_fairUp_13 (by decide) ?_
    exact retR_l hx hb hr hlocks (by simp only [x_fairUp, c_8, ↓reduceIte, Bool.false_eq_true, i10]) dX3_fairUp_28
set_option maxHeartbeats 4000000 in
set_option maxRecDepth 100000 in
theorem c_X3_overUp {o e1 e2 e3 e4 e5 e6 : Nat} {fd du dd : Int64} (w : Nat) (hw : w < 6) : Met l yX3_overUp (wT yX3_overUp cX3_overUp 3 (some .long)) ({ frames := 4, cells := 0, slots := 0, locals := 88 }) (pR (dC, dI) (ty3 cI cJ cZ) ((xW cI q ln cw ic bs ss se we un sf pa) ++ (owW  o e1 e2 e3 e4 e5 e6 fd) ++ (shW  e5 du dd)) [.ref (q 0), .int (nI w), .ref o]) (vp_Sl (fun r => r = x_overUp ic bs ss we un pa w du fd)) 0 0 (fun _ => False) := by
  refine Met.ofW (cc := cX3_overUp) (maxL := 3) (ret := (some .long)) (by decide) rfl ?_
  intro p e s m args below meth c s₁ B hml hv
  obtain ⟨rfl, hP, hK⟩ := hv
  have hx := B.exec
  have hb := B.bytes
  have hr := B.returns
  have hts := atoms_spec (ws := wT yX3_overUp cX3_overUp 3 (some .long)) B.pre
  have hT := wT_T hts
  have hown : s.vm.findClass RX3 = some m.cls := findClass_of_methodNamed B.named
  have hlocks := B.notSynchronized
  have hl := lv_entry ([.ref (q 0), .int (nI w), .ref o]) (n := 3) (Nat.le_of_ble_eq_true rfl)
  rw [lg_entry_eq]
  generalize (lg_sl ([.ref (q 0), .int (nI w), .ref o]) ++ List.replicate (3 - (lg_sl ([.ref (q 0), .int (nI w), .ref o])).length) Slot.unset).toArray = ls at hl ⊢
  have hl : lv_has ls 3 [(0, .ref (q 0)), (1, .int (nI w)), (2, .ref o)] := hl
  refine lv_aload_n hx hb dX3_overUp_0 rfl (lv_at hl 0 rfl) ?_
  refine va_get (D := (dC, dI)) (ci := 3) (v := .ref (q 5)) (C := RX3) (T := TX3) (N := 11) hx hb hT hiX3 hown hK hP 0 rfl rfl 9 (by decide) (hT _ kf_X3_24) (fun _ h9 => h9) rfl dX3_overUp_1 ?_
  refine lv_iload_n hx hb dX3_overUp_4 rfl (lv_at hl 1 rfl) ?_
  refine ald_i hx hb hK hP 5 0 rfl rfl (by decide) (w := w) rfl (by omega) dX3_overUp_5 ?_
  refine lv_i2l hx hb dX3_overUp_6 rfl ?_
  refine lv_aload_n hx hb dX3_overUp_7 rfl (lv_at hl 2 rfl) ?_
  refine va_get (D := (dC, dI)) (ci := 1) (v := .long fd) (C := RX1) (T := TX1) (N := 7) hx hb hT hiX1 hown hK hP 6 rfl rfl 6 (by decide) (hT _ kf_X3_178) (fun _ h9 => h9) rfl dX3_overUp_8 ?_
  refine lv_lmul hx hb dX3_overUp_11 ?_
  refine lv_aload_n hx hb dX3_overUp_12 rfl (lv_at hl 0 rfl) ?_
  refine lv_iload_n hx hb dX3_overUp_13 rfl (lv_at hl 1 rfl) ?_
  refine lv_aload_n hx hb dX3_overUp_14 rfl (lv_at hl 2 rfl) ?_
  refine vp_callSl (rRV (As := [.int (nI w), .ref o]) (rest := [.long ((pa w).toInt64 * fd)]) ⟨hx, hb, hml, hown, hT⟩ (c_X3_fairUp (l := l) w (by first | assumption | omega)) (cwTV 2 hT kc_X3_fairUp km_X3_174 ki_X3_fairUp ks_X3_fairUp kn_X3 rfl rfl md_X3_fairUp ⟨Nat.le_of_ble_eq_true rfl, Nat.le_of_ble_eq_true rfl⟩) hP hK (va_recv hK hP (ci := 3) (q0 := 0) rfl rfl) rfl hl.1 rfl (Nat.le_of_ble_eq_true rfl) dX3_overUp_15 ⟨Nat.le_of_ble_eq_true rfl, Nat.le_of_ble_eq_true rfl⟩) (fun r_15 hw_15 => ?_)
  subst hw_15
  refine lv_lsub hx hb dX3_overUp_18 ?_
  exact retR_l hx hb hr hlocks rfl dX3_overUp_19
