variable {l : Launch} {dC : Nat → ClassId} {dI : Nat → Nat → Nat} {cI cJ cZ : ClassId}
variable {q : Nat → Nat} {ln cw ic bs ss : Int32} {se we un sf pa : Nat → Int32}
variable {ct : Int32} {ov gf : Nat → Int64} {gi ta : Nat → Int32}
variable {k : Nat → Nat} {r : Rat} {up lo : Int64} {cn tm : Int32} {isI br ma : Nat → Int32} {aU aL uU uL oU oL gU gL : Nat → Int64}
set_option maxHeartbeats 4000000 in
set_option maxRecDepth 100000 in
theorem c_X4_blame  : Met l yX4_blame (wT yX4_blame cX4_blame 3 (some .int)) ({ frames := 0, cells := 0, slots := 0, locals := 0 }) (pR (dC, dI) (ty3 cI cJ cZ) (mW cI cZ k up lo ln cn tm se isI we br ma sf pa) [.ref (k 0)]) (vp_Si (fun r9 => r9 = m_blN cn isI we 6)) 0 0 (fun _ => False) := by
  refine Met.ofW (cc := cX4_blame) (maxL := 3) (ret := (some .int)) (by decide) rfl ?_
  intro p e s m args below meth c s₁ B hml hv
  obtain ⟨rfl, hP, hK⟩ := hv
  have hx := B.exec
  have hb := B.bytes
  have hr := B.returns
  have hts := atoms_spec (ws := wT yX4_blame cX4_blame 3 (some .int)) B.pre
  have hT := wT_T hts
  have hown : s.vm.findClass RX4 = some m.cls := findClass_of_methodNamed B.named
  have hlocks := B.notSynchronized
  have hl := lv_entry ([.ref (k 0)]) (n := 3) (Nat.le_of_ble_eq_true rfl)
  rw [lg_entry_eq]
  generalize (lg_sl ([.ref (k 0)]) ++ List.replicate (3 - (lg_sl ([.ref (k 0)])).length) Slot.unset).toArray = ls at hl ⊢
  have hl : lv_has ls 3 [(0, .ref (k 0))] := hl
  refine lv_aload_n hx hb dX4_blame_0 rfl (lv_at hl 0 rfl) ?_
  refine va_get (D := (dC, dI)) (ci := 4) (v := .int cn) (C := RX4) (T := TX4) (N := 22) hx hb hT hiX4 hown hK hP 0 rfl rfl 3 (by decide) (hT _ kf_X4_91) (fun _ h9 => h9) rfl dX4_blame_1 ?_
  refine lv_istore_n (lv' := [(1, .int cn), (0, .ref (k 0))]) hx hb dX4_blame_4 rfl hl (by decide) rfl (fun ls hl => ?_)
  refine lv_iconst (v := 0) hx hb dX4_blame_5 (by decide) ?_
  refine lv_istore_n (lv' := [(2, .int 0), (1, .int cn), (0, .ref (k 0))]) hx hb dX4_blame_6 rfl hl (by decide) rfl (fun ls hl => ?_)
  refine loopR 6 (fun i ls => lv_has ls 3 [(2, .int (nI i)), (1, .int (m_blN cn isI we i)), (0, .ref (k 0))]) (i0 := 0) (Nat.zero_le _) (lv_sub hl [0, 1, 2] rfl) (fun i ls hi hl ih => ?_) (fun ls hl => ?_)
  · refine lv_iload_n hx hb dX4_blame_7 rfl (lv_at hl 0 rfl) ?_
    refine lv_bipush (v := 6) hx hb dX4_blame_8 (by decide) ?_
    refine lv_icmp_ge (tgt := 41) hx hb dX4_blame_10 (by decide) (fun h => absurd h (nI_ge (b := 6) hi (by decide))) (fun c_10 => ?_)
    refine lv_iload_n hx hb dX4_blame_13 rfl (lv_at hl 1 rfl) ?_
    refine lv_aload_n hx hb dX4_blame_14 rfl (lv_at hl 2 rfl) ?_
    refine va_get (D := (dC, dI)) (ci := 4) (v := .ref (k 2)) (C := RX4) (T := TX4) (N := 22) hx hb hT hiX4 hown hK hP 0 rfl rfl 5 (by decide) (hT _ kf_X4_17) (fun _ h9 => h9) rfl dX4_blame_15 ?_
    refine lv_iload_n hx hb dX4_blame_18 rfl (lv_at hl 0 rfl) ?_
    refine ald_z hx hb hK hP 2 2 rfl rfl (by decide) (w := i) rfl (by omega) dX4_blame_19 ?_
    refine lv_if_eq (tgt := 32) hx hb dX4_blame_20 (by decide) (fun c_20 => ?_) (fun c_20 => ?_)
    · refine lv_iconst (v := 0) hx hb dX4_blame_32 (by decide) ?_
      refine lv_iadd hx hb dX4_blame_33 ?_
      refine lv_istore_n (lv' := [(1, .int ((m_blN cn isI we i) + 0)), (2, .int (nI i)), (0, .ref (k 0))]) hx hb dX4_blame_34 rfl hl (by decide) rfl (fun ls hl => ?_)
      refine lv_iinc (v := (nI (i + 1))) (lv' := [(2, .int (nI (i + 1))), (1, .int ((m_blN cn isI we i) + 0)), (0, .ref (k 0))]) hx hb dX4_blame_35 hl (k := 1) rfl (nI_1 i) (by decide) rfl (fun ls hl => ?_)
      refine lv_goto (tgt := 7) hx hb dX4_blame_38 (by decide) ?_
      have es0 : ((m_blN cn isI we i) + 0 : Int32) = (m_blN cn isI we (i + 1)) := by simp only [m_blN, c_20, ↓reduceIte, Bool.false_eq_true, i10]
      exact ih _ (by rw [← es0]; exact lv_sub hl [0, 1, 2] rfl)
    · refine lv_aload_n hx hb dX4_blame_23 rfl (lv_at hl 2 rfl) ?_
      refine va_get (D := (dC, dI)) (ci := 4) (v := .ref (k 3)) (C := RX4) (T := TX4) (N := 22) hx hb hT hiX4 hown hK hP 0 rfl rfl 6 (by decide) (hT _ kf_X4_21) (fun _ h9 => h9) rfl dX4_blame_24 ?_
      refine lv_iload_n hx hb dX4_blame_27 rfl (lv_at hl 0 rfl) ?_
      refine ald_i hx hb hK hP 3 0 rfl rfl (by decide) (w := i) rfl (by omega) dX4_blame_28 ?_
      refine lv_goto (tgt := 33) hx hb dX4_blame_29 (by decide) ?_
      refine lv_iadd hx hb dX4_blame_33 ?_
      refine lv_istore_n (lv' := [(1, .int ((m_blN cn isI we i) + (we i))), (2, .int (nI i)), (0, .ref (k 0))]) hx hb dX4_blame_34 rfl hl (by decide) rfl (fun ls hl => ?_)
      refine lv_iinc (v := (nI (i + 1))) (lv' := [(2, .int (nI (i + 1))), (1, .int ((m_blN cn isI we i) + (we i))), (0, .ref (k 0))]) hx hb dX4_blame_35 hl (k := 1) rfl (nI_1 i) (by decide) rfl (fun ls hl => ?_)
      refine lv_goto (tgt := 7) hx hb dX4_blame_38 (by decide) ?_
      have es0 : ((m_blN cn isI we i) + (we i) : Int32) = (m_blN cn isI we (i + 1)) := by simp only [m_blN, c_20, ↓reduceIte, Bool.false_eq_true, i10]
      exact ih _ (by rw [← es0]; exact lv_sub hl [0, 1, 2] rfl)
  · refine lv_iload_n hx hb dX4_blame_7 rfl (lv_at hl 0 rfl) ?_
    refine lv_bipush (v := 6) hx hb dX4_blame_8 (by decide) ?_
    refine lv_icmp_ge (tgt := 41) hx hb dX4_blame_10 (by decide) (fun c_10 => ?_) (fun h => absurd h (by decide))
    refine lv_iload_n hx hb dX4_blame_41 rfl (lv_at hl 1 rfl) ?_
    exact retR_i hx hb hr hlocks rfl dX4_blame_42
set_option maxHeartbeats 4000000 in
set_option maxRecDepth 100000 in
theorem c_X4_openWeight (z : Int32) (hm : mok ma) : Met l yX4_openWeight (wT yX4_openWeight cX4_openWeight 4 (some .int)) ({ frames := 1, cells := 0, slots := 0, locals := 21 }) (pR (dC, dI) (ty3 cI cJ cZ) (mW cI cZ k up lo ln cn tm se isI we br ma sf pa) [.ref (k 0), .int z]) (vp_Si (fun r9 => r9 = m_opN z isI we br ma sf 6)) 0 0 (fun _ => False) := by
  refine Met.ofW (cc := cX4_openWeight) (maxL := 4) (ret := (some .int)) (by decide) rfl ?_
  intro p e s m args below meth c s₁ B hml hv
  obtain ⟨rfl, hP, hK⟩ := hv
  have hx := B.exec
  have hb := B.bytes
  have hr := B.returns
  have hts := atoms_spec (ws := wT yX4_openWeight cX4_openWeight 4 (some .int)) B.pre
  have hT := wT_T hts
  have hown : s.vm.findClass RX4 = some m.cls := findClass_of_methodNamed B.named
  have hlocks := B.notSynchronized
  have hl := lv_entry ([.ref (k 0), .int z]) (n := 4) (Nat.le_of_ble_eq_true rfl)
  rw [lg_entry_eq]
  generalize (lg_sl ([.ref (k 0), .int z]) ++ List.replicate (4 - (lg_sl ([.ref (k 0), .int z])).length) Slot.unset).toArray = ls at hl ⊢
  have hl : lv_has ls 4 [(0, .ref (k 0)), (1, .int z)] := hl
  refine lv_iconst (v := 0) hx hb dX4_openWeight_0 (by decide) ?_
  refine lv_istore_n (lv' := [(2, .int 0), (0, .ref (k 0)), (1, .int z)]) hx hb dX4_openWeight_1 rfl hl (by decide) rfl (fun ls hl => ?_)
  refine lv_iconst (v := 0) hx hb dX4_openWeight_2 (by decide) ?_
  refine lv_istore_n (lv' := [(3, .int 0), (2, .int 0), (0, .ref (k 0)), (1, .int z)]) hx hb dX4_openWeight_3 rfl hl (by decide) rfl (fun ls hl => ?_)
  refine loopR 6 (fun i ls => lv_has ls 4 [(3, .int (nI i)), (2, .int (m_opN z isI we br ma sf i)), (0, .ref (k 0)), (1, .int z)]) (i0 := 0) (Nat.zero_le _) (lv_sub hl [0, 1, 2, 3] rfl) (fun i ls hi hl ih => ?_) (fun ls hl => ?_)
  · refine lv_iload_n hx hb dX4_openWeight_4 rfl (lv_at hl 0 rfl) ?_
    refine lv_bipush (v := 6) hx hb dX4_openWeight_5 (by decide) ?_
    refine lv_icmp_ge (tgt := 59) hx hb dX4_openWeight_7 (by decide) (fun h => absurd h (nI_ge (b := 6) hi (by decide))) (fun c_7 => ?_)
    refine lv_iload_n hx hb dX4_openWeight_10 rfl (lv_at hl 1 rfl) ?_
    refine lv_aload_n hx hb dX4_openWeight_11 rfl (lv_at hl 2 rfl) ?_
    refine lv_iload_n hx hb dX4_openWeight_12 rfl (lv_at hl 0 rfl) ?_
    refine vp_callSi (rRV (As := [.int (nI i)]) (rest := [.int (m_opN z isI we br ma sf i)]) ⟨hx, hb, hml, hown, hT⟩ (c_X4_isUnit (l := l) i (by first | assumption | omega)) (cwTV 1 hT kc_X4_isUnit km_X4_113 ki_X4_isUnit ks_X4_isUnit kn_X4 rfl rfl md_X4_isUnit ⟨Nat.le_of_ble_eq_true rfl, Nat.le_of_ble_eq_true rfl⟩) hP hK (va_recv hK hP (ci := 4) (q0 := 0) rfl rfl) rfl hl.1 rfl (Nat.le_of_ble_eq_true rfl) dX4_openWeight_13 ⟨Nat.le_of_ble_eq_true rfl, Nat.le_of_ble_eq_true rfl⟩) (fun r_13 hw_13 => ?_)
    rcases hw_13 with ⟨rfl, hw_13⟩ | ⟨rfl, hw_13⟩
    · refine lv_if_eq (tgt := 50) hx hb dX4_openWeight_16 (by decide) (fun h => absurd h (by decide)) (fun c_16 => ?_)
      refine lv_aload_n hx hb dX4_openWeight_19 rfl (lv_at hl 2 rfl) ?_
      refine va_get (D := (dC, dI)) (ci := 4) (v := .ref (k 6)) (C := RX4) (T := TX4) (N := 22) hx hb hT hiX4 hown hK hP 0 rfl rfl 9 (by decide) (hT _ kf_X4_30) (fun _ h9 => h9) rfl dX4_openWeight_20 ?_
      refine lv_iload_n hx hb dX4_openWeight_23 rfl (lv_at hl 0 rfl) ?_
      refine ald_i hx hb hK hP 6 0 rfl rfl (by decide) (w := i) rfl (by omega) dX4_openWeight_24 ?_
      refine lv_bipush (v := (-9)) hx hb dX4_openWeight_25 (by decide) ?_
      refine lv_icmp_ne (tgt := 50) hx hb dX4_openWeight_27 (by decide) (fun c_27 => ?_) (fun c_27 => ?_)
      · refine lv_iconst (v := 0) hx hb dX4_openWeight_50 (by decide) ?_
        refine lv_iadd hx hb dX4_openWeight_51 ?_
        refine lv_istore_n (lv' := [(2, .int ((m_opN z isI we br ma sf i) + 0)), (3, .int (nI i)), (0, .ref (k 0)), (1, .int z)]) hx hb dX4_openWeight_52 rfl hl (by decide) rfl (fun ls hl => ?_)
        refine lv_iinc (v := (nI (i + 1))) (lv' := [(3, .int (nI (i + 1))), (2, .int ((m_opN z isI we br ma sf i) + 0)), (0, .ref (k 0)), (1, .int z)]) hx hb dX4_openWeight_53 hl (k := 1) rfl (nI_1 i) (by decide) rfl (fun ls hl => ?_)
        refine lv_goto (tgt := 4) hx hb dX4_openWeight_56 (by decide) ?_
        have es0 : ((m_opN z isI we br ma sf i) + 0 : Int32) = (m_opN z isI we br ma sf (i + 1)) := by first | (have hc : (m_isU isI ma i ∧ sf i = -9 ∧ (¬ z = 0 ∨ ¬ m_ubr br ma i)) := ⟨hw_13, c_27, Or.inl c_31⟩; rw [m_opN_s, if_pos hc]) | (have hc : (m_isU isI ma i ∧ sf i = -9 ∧ (¬ z = 0 ∨ ¬ m_ubr br ma i)) := ⟨hw_13, c_27, Or.inr hw_36⟩; rw [m_opN_s, if_pos hc]) | (have hc : ¬ (m_isU isI ma i ∧ sf i = -9 ∧ (¬ z = 0 ∨ ¬ m_ubr br ma i)) := (fun h => h.2.2.elim (fun h2 => h2 c_31) (fun h2 => h2 hw_36)); rw [m_opN_s, if_neg hc]) | (have hc : ¬ (m_isU isI ma i ∧ sf i = -9 ∧ (¬ z = 0 ∨ ¬ m_ubr br ma i)) := (fun h => c_27 h.2.1); rw [m_opN_s, if_neg hc]) | (have hc : ¬ (m_isU isI ma i ∧ sf i = -9 ∧ (¬ z = 0 ∨ ¬ m_ubr br ma i)) := (fun h => hw_13 h.1); rw [m_opN_s, if_neg hc])
        exact ih _ (by rw [← es0]; exact lv_sub hl [0, 1, 2, 3] rfl)
      · refine lv_iload_n hx hb dX4_openWeight_30 rfl (lv_at hl 3 rfl) ?_
        refine lv_if_ne (tgt := 42) hx hb dX4_openWeight_31 (by decide) (fun c_31 => ?_) (fun c_31 => ?_)
        · refine lv_aload_n hx hb dX4_openWeight_42 rfl (lv_at hl 2 rfl) ?_
          refine lv_iload_n hx hb dX4_openWeight_43 rfl (lv_at hl 0 rfl) ?_
          refine vp_callSi (rRV (As := [.int (nI i)]) (rest := [.int (m_opN z isI we br ma sf i)]) ⟨hx, hb, hml, hown, hT⟩ (c_X4_unitWeight (l := l) i (by first | assumption | omega) (by first | assumption | omega)) (cwTV 1 hT kc_X4_unitWeight km_X4_109 ki_X4_unitWeight ks_X4_unitWeight kn_X4 rfl rfl md_X4_unitWeight ⟨Nat.le_of_ble_eq_true rfl, Nat.le_of_ble_eq_true rfl⟩) hP hK (va_recv hK hP (ci := 4) (q0 := 0) rfl rfl) rfl hl.1 rfl (Nat.le_of_ble_eq_true rfl) dX4_openWeight_44 ⟨Nat.le_of_ble_eq_true rfl, Nat.le_of_ble_eq_true rfl⟩) (fun r_44 hw_44 => ?_)
          subst hw_44
          refine lv_goto (tgt := 51) hx hb dX4_openWeight_47 (by decide) ?_
          refine lv_iadd hx hb dX4_openWeight_51 ?_
          refine lv_istore_n (lv' := [(2, .int ((m_opN z isI we br ma sf i) + (m_uw we ma i))), (3, .int (nI i)), (0, .ref (k 0)), (1, .int z)]) hx hb dX4_openWeight_52 rfl hl (by decide) rfl (fun ls hl => ?_)
          refine lv_iinc (v := (nI (i + 1))) (lv' := [(3, .int (nI (i + 1))), (2, .int ((m_opN z isI we br ma sf i) + (m_uw we ma i))), (0, .ref (k 0)), (1, .int z)]) hx hb dX4_openWeight_53 hl (k := 1) rfl (nI_1 i) (by decide) rfl (fun ls hl => ?_)
          refine lv_goto (tgt := 4) hx hb dX4_openWeight_56 (by decide) ?_
          have es0 : ((m_opN z isI we br ma sf i) + (m_uw we ma i) : Int32) = (m_opN z isI we br ma sf (i + 1)) := by first | (have hc : (m_isU isI ma i ∧ sf i = -9 ∧ (¬ z = 0 ∨ ¬ m_ubr br ma i)) := ⟨hw_13, c_27, Or.inl c_31⟩; rw [m_opN_s, if_pos hc]) | (have hc : (m_isU isI ma i ∧ sf i = -9 ∧ (¬ z = 0 ∨ ¬ m_ubr br ma i)) := ⟨hw_13, c_27, Or.inr hw_36⟩; rw [m_opN_s, if_pos hc]) | (have hc : ¬ (m_isU isI ma i ∧ sf i = -9 ∧ (¬ z = 0 ∨ ¬ m_ubr br ma i)) := (fun h => h.2.2.elim (fun h2 => h2 c_31) (fun h2 => h2 hw_36)); rw [m_opN_s, if_neg hc]) | (have hc : ¬ (m_isU isI ma i ∧ sf i = -9 ∧ (¬ z = 0 ∨ ¬ m_ubr br ma i)) := (fun h => c_27 h.2.1); rw [m_opN_s, if_neg hc]) | (have hc : ¬ (m_isU isI ma i ∧ sf i = -9 ∧ (¬ z = 0 ∨ ¬ m_ubr br ma i)) := (fun h => hw_13 h.1); rw [m_opN_s, if_neg hc])
          exact ih _ (by rw [← es0]; exact lv_sub hl [0, 1, 2, 3] rfl)
        · refine lv_aload_n hx hb dX4_openWeight_34 rfl (lv_at hl 2 rfl) ?_
          refine lv_iload_n hx hb dX4_openWeight_35 rfl (lv_at hl 0 rfl) ?_
          refine vp_callSi (rRV (As := [.int (nI i)]) (rest := [.int (m_opN z isI we br ma sf i)]) ⟨hx, hb, hml, hown, hT⟩ (c_X4_isUnitBroke (l := l) i (by first | assumption | omega) (by first | assumption | omega)) (cwTV 1 hT kc_X4_isUnitBroke km_X4_116 ki_X4_isUnitBroke ks_X4_isUnitBroke kn_X4 rfl rfl md_X4_isUnitBroke ⟨Nat.le_of_ble_eq_true rfl, Nat.le_of_ble_eq_true rfl⟩) hP hK (va_recv hK hP (ci := 4) (q0 := 0) rfl rfl) rfl hl.1 rfl (Nat.le_of_ble_eq_true rfl) dX4_openWeight_36 ⟨Nat.le_of_ble_eq_true rfl, Nat.le_of_ble_eq_true rfl⟩) (fun r_36 hw_36 => ?_)
          rcases hw_36 with ⟨rfl, hw_36⟩ | ⟨rfl, hw_36⟩
          · refine lv_if_ne (tgt := 50) hx hb dX4_openWeight_39 (by decide) (fun c_39 => ?_) (fun h => absurd h (by decide))
            refine lv_iconst (v := 0) hx hb dX4_openWeight_50 (by decide) ?_
            refine lv_iadd hx hb dX4_openWeight_51 ?_
            refine lv_istore_n (lv' := [(2, .int ((m_opN z isI we br ma sf i) + 0)), (3, .int (nI i)), (0, .ref (k 0)), (1, .int z)]) hx hb dX4_openWeight_52 rfl hl (by decide) rfl (fun ls hl => ?_)
            refine lv_iinc (v := (nI (i + 1))) (lv' := [(3, .int (nI (i + 1))), (2, .int ((m_opN z isI we br ma sf i) + 0)), (0, .ref (k 0)), (1, .int z)]) hx hb dX4_openWeight_53 hl (k := 1) rfl (nI_1 i) (by decide) rfl (fun ls hl => ?_)
            refine lv_goto (tgt := 4) hx hb dX4_openWeight_56 (by decide) ?_
            have es0 : ((m_opN z isI we br ma sf i) + 0 : Int32) = (m_opN z isI we br ma sf (i + 1)) := by first | (have hc : (m_isU isI ma i ∧ sf i = -9 ∧ (¬ z = 0 ∨ ¬ m_ubr br ma i)) := ⟨hw_13, c_27, Or.inl c_31⟩; rw [m_opN_s, if_pos hc]) | (have hc : (m_isU isI ma i ∧ sf i = -9 ∧ (¬ z = 0 ∨ ¬ m_ubr br ma i)) := ⟨hw_13, c_27, Or.inr hw_36⟩; rw [m_opN_s, if_pos hc]) | (have hc : ¬ (m_isU isI ma i ∧ sf i = -9 ∧ (¬ z = 0 ∨ ¬ m_ubr br ma i)) := (fun h => h.2.2.elim (fun h2 => h2 c_31) (fun h2 => h2 hw_36)); rw [m_opN_s, if_neg hc]) | (have hc : ¬ (m_isU isI ma i ∧ sf i = -9 ∧ (¬ z = 0 ∨ ¬ m_ubr br ma i)) := (fun h => c_27 h.2.1); rw [m_opN_s, if_neg hc]) | (have hc : ¬ (m_isU isI ma i ∧ sf i = -9 ∧ (¬ z = 0 ∨ ¬ m_ubr br ma i)) := (fun h => hw_13 h.1); rw [m_opN_s, if_neg hc])
            exact ih _ (by rw [← es0]; exact lv_sub hl [0, 1, 2, 3] rfl)
          · refine lv_if_ne (tgt := 50) hx hb dX4_openWeight_39 (by decide) (fun h => absurd h (by decide)) (fun c_39 => ?_)
            refine lv_aload_n hx hb dX4_openWeight_42 rfl (lv_at hl 2 rfl) ?_
            refine lv_iload_n hx hb dX4_openWeight_43 rfl (lv_at hl 0 rfl) ?_
            refine vp_callSi (rRV (As := [.int (nI i)]) (rest := [.int (m_opN z isI we br ma sf i)]) ⟨hx, hb, hml, hown, hT⟩ (c_X4_unitWeight (l := l) i (by first | assumption | omega) (by first | assumption | omega)) (cwTV 1 hT kc_X4_unitWeight km_X4_109 ki_X4_unitWeight ks_X4_unitWeight kn_X4 rfl rfl md_X4_unitWeight ⟨Nat.le_of_ble_eq_true rfl, Nat.le_of_ble_eq_true rfl⟩) hP hK (va_recv hK hP (ci := 4) (q0 := 0) rfl rfl) rfl hl.1 rfl (Nat.le_of_ble_eq_true rfl) dX4_openWeight_44 ⟨Nat.le_of_ble_eq_true rfl, Nat.le_of_ble_eq_true rfl⟩) (fun r_44 hw_44 => ?_)
            subst hw_44
            refine lv_goto (tgt := 51) hx hb dX4_openWeight_47 (by decide) ?_
            refine lv_iadd hx hb dX4_openWeight_51 ?_
            refine lv_istore_n (lv' := [(2, .int ((m_opN z isI we br ma sf i) + (m_uw we ma i))), (3, .int (nI i)), (0, .ref (k 0)), (1, .int z)]) hx hb dX4_openWeight_52 rfl hl (by decide) rfl (fun ls hl => ?_)
            refine lv_iinc (v := (nI (i + 1))) (lv' := [(3, .int (nI (i + 1))), (2, .int ((m_opN z isI we br ma sf i) + (m_uw we ma i))), (0, .ref (k 0)), (1, .int z)]) hx hb dX4_openWeight_53 hl (k := 1) rfl (nI_1 i) (by decide) rfl (fun ls hl => ?_)
            refine lv_goto (tgt := 4) hx hb dX4_openWeight_56 (by decide) ?_
            have es0 : ((m_opN z isI we br ma sf i) + (m_uw we ma i) : Int32) = (m_opN z isI we br ma sf (i + 1)) := by first | (have hc : (m_isU isI ma i ∧ sf i = -9 ∧ (¬ z = 0 ∨ ¬ m_ubr br ma i)) := ⟨hw_13, c_27, Or.inl c_31⟩; rw [m_opN_s, if_pos hc]) | (have hc : (m_isU isI ma i ∧ sf i = -9 ∧ (¬ z = 0 ∨ ¬ m_ubr br ma i)) := ⟨hw_13, c_27, Or.inr hw_36⟩; rw [m_opN_s, if_pos hc]) | (have hc : ¬ (m_isU isI ma i ∧ sf i = -9 ∧ (¬ z = 0 ∨ ¬ m_ubr br ma i)) := (fun h => h.2.2.elim (fun h2 => h2 c_31) (fun h2 => h2 hw_36)); rw [m_opN_s, if_neg hc]) | (have hc : ¬ (m_isU isI ma i ∧ sf i = -9 ∧ (¬ z = 0 ∨ ¬ m_ubr br ma i)) := (fun h => c_27 h.2.1); rw [m_opN_s, if_neg hc]) | (have hc : ¬ (m_isU isI ma i ∧ sf i = -9 ∧ (¬ z = 0 ∨ ¬ m_ubr br ma i)) := (fun h => hw_13 h.1); rw [m_opN_s, if_neg hc])
            exact ih _ (by rw [← es0]; exact lv_sub hl [0, 1, 2, 3] rfl)
    · refine lv_if_eq (tgt := 50) hx hb dX4_openWeight_16 (by decide) (fun c_16 => ?_) (fun h => absurd h (by decide))
      refine lv_iconst (v := 0) hx hb dX4_openWeight_50 (by decide) ?_
      refine lv_iadd hx hb dX4_openWeight_51 ?_
      refine lv_istore_n (lv' := [(2, .int ((m_opN z isI we br ma sf i) + 0)), (3, .int (nI i)), (0, .ref (k 0)), (1, .int z)]) hx hb dX4_openWeight_52 rfl hl (by decide) rfl (fun ls hl => ?_)
      refine lv_iinc (v := (nI (i + 1))) (lv' := [(3, .int (nI (i + 1))), (2, .int ((m_opN z isI we br ma sf i) + 0)), (0, .ref (k 0)), (1, .int z)]) hx hb dX4_openWeight_53 hl (k := 1) rfl (nI_1 i) (by decide) rfl (fun ls hl => ?_)
      refine lv_goto (tgt := 4) hx hb dX4_openWeight_56 (by decide) ?_
      have es0 : ((m_opN z isI we br ma sf i) + 0 : Int32) = (m_opN z isI we br ma sf (i + 1)) := by first | (have hc : (m_isU isI ma i ∧ sf i = -9 ∧ (¬ z = 0 ∨ ¬ m_ubr br ma i)) := ⟨hw_13, c_27, Or.inl c_31⟩; rw [m_opN_s, if_pos hc]) | (have hc : (m_isU isI ma i ∧ sf i = -9 ∧ (¬ z = 0 ∨ ¬ m_ubr br ma i)) := ⟨hw_13, c_27, Or.inr hw_36⟩; rw [m_opN_s, if_pos hc]) | (have hc : ¬ (m_isU isI ma i ∧ sf i = -9 ∧ (¬ z = 0 ∨ ¬ m_ubr br ma i)) := (fun h => h.2.2.elim (fun h2 => h2 c_31) (fun h2 => h2 hw_36)); rw [m_opN_s, if_neg hc]) | (have hc : ¬ (m_isU isI ma i ∧ sf i = -9 ∧ (¬ z = 0 ∨ ¬ m_ubr br ma i)) := (fun h => c_27 h.2.1); rw [m_opN_s, if_neg hc]) | (have hc : ¬ (m_isU isI ma i ∧ sf i = -9 ∧ (¬ z = 0 ∨ ¬ m_ubr br ma i)) := (fun h => hw_13 h.1); rw [m_opN_s, if_neg hc])
      exact ih _ (by rw [← es0]; exact lv_sub hl [0, 1, 2, 3] rfl)
  · refine lv_iload_n hx hb dX4_openWeight_4 rfl (lv_at hl 0 rfl) ?_
    refine lv_bipush (v := 6) hx hb dX4_openWeight_5 (by decide) ?_
    refine lv_icmp_ge (tgt := 59) hx hb dX4_openWeight_7 (by decide) (fun c_7 => ?_) (fun h => absurd h (by decide))
    refine lv_iload_n hx hb dX4_openWeight_59 rfl (lv_at hl 1 rfl) ?_
    exact retR_i hx hb hr hlocks rfl dX4_openWeight_60
set_option maxHeartbeats 4000000 in
set_option maxRecDepth 100000 in
theorem c_X4_paidAll  : Met l yX4_paidAll (wT yX4_paidAll cX4_paidAll 4 (some .long)) ({ frames := 0, cells := 0, slots := 0, locals := 0 }) (pR (dC, dI) (ty3 cI cJ cZ) (mW cI cZ k up lo ln cn tm se isI we br ma sf pa) [.ref (k 0)]) (vp_Sl (fun r9 => r9 = m_paN pa 6)) 0 0 (fun _ => False) := by
  refine Met.ofW (cc := cX4_paidAll) (maxL := 4) (ret := (some .long)) (by decide) rfl ?_
  intro p e s m args below meth c s₁ B hml hv
  obtain ⟨rfl, hP, hK⟩ := hv
  have hx := B.exec
  have hb := B.bytes
  have hr := B.returns
  have hts := atoms_spec (ws := wT yX4_paidAll cX4_paidAll 4 (some .long)) B.pre
  have hT := wT_T hts
  have hown : s.vm.findClass RX4 = some m.cls := findClass_of_methodNamed B.named
  have hlocks := B.notSynchronized
  have hl := lv_entry ([.ref (k 0)]) (n := 4) (Nat.le_of_ble_eq_true rfl)
  rw [lg_entry_eq]
  generalize (lg_sl ([.ref (k 0)]) ++ List.replicate (4 - (lg_sl ([.ref (k 0)])).length) Slot.unset).toArray = ls at hl ⊢
  have hl : lv_has ls 4 [(0, .ref (k 0))] := hl
  refine lv_lconst (v := 0) hx hb dX4_paidAll_0 (by decide) ?_
  refine lv_lstore_n (lv' := [(1, .long 0), (0, .ref (k 0))]) hx hb dX4_paidAll_1 rfl hl (by decide) rfl (fun ls hl => ?_)
  refine lv_iconst (v := 0) hx hb dX4_paidAll_2 (by decide) ?_
  refine lv_istore_n (lv' := [(3, .int 0), (1, .long 0), (0, .ref (k 0))]) hx hb dX4_paidAll_3 rfl hl (by decide) rfl (fun ls hl => ?_)
  refine loopR 6 (fun i ls => lv_has ls 4 [(3, .int (nI i)), (1, .long (m_paN pa i)), (0, .ref (k 0))]) (i0 := 0) (Nat.zero_le _) (lv_sub hl [0, 1, 2] rfl) (fun i ls hi hl ih => ?_) (fun ls hl => ?_)
  · refine lv_iload_n hx hb dX4_paidAll_4 rfl (lv_at hl 0 rfl) ?_
    refine lv_bipush (v := 6) hx hb dX4_paidAll_5 (by decide) ?_
    refine lv_icmp_ge (tgt := 26) hx hb dX4_paidAll_7 (by decide) (fun h => absurd h (nI_ge (b := 6) hi (by decide))) (fun c_7 => ?_)
    refine lv_lload_n hx hb dX4_paidAll_10 rfl (lv_at hl 1 rfl) ?_
    refine lv_aload_n hx hb dX4_paidAll_11 rfl (lv_at hl 2 rfl) ?_
    refine va_get (D := (dC, dI)) (ci := 4) (v := .ref (k 7)) (C := RX4) (T := TX4) (N := 22) hx hb hT hiX4 hown hK hP 0 rfl rfl 10 (by decide) (hT _ kf_X4_33) (fun _ h9 => h9) rfl dX4_paidAll_12 ?_
    refine lv_iload_n hx hb dX4_paidAll_15 rfl (lv_at hl 0 rfl) ?_
    refine ald_i hx hb hK hP 7 0 rfl rfl (by decide) (w := i) rfl (by omega) dX4_paidAll_16 ?_
    refine lv_i2l hx hb dX4_paidAll_17 rfl ?_
    refine lv_ladd hx hb dX4_paidAll_18 ?_
    refine lv_lstore_n (lv' := [(1, .long ((m_paN pa i) + (pa i).toInt64)), (3, .int (nI i)), (0, .ref (k 0))]) hx hb dX4_paidAll_19 rfl hl (by decide) rfl (fun ls hl => ?_)
    refine lv_iinc (v := (nI (i + 1))) (lv' := [(3, .int (nI (i + 1))), (1, .long ((m_paN pa i) + (pa i).toInt64)), (0, .ref (k 0))]) hx hb dX4_paidAll_20 hl (k := 1) rfl (nI_1 i) (by decide) rfl (fun ls hl => ?_)
    refine lv_goto (tgt := 4) hx hb dX4_paidAll_23 (by decide) ?_
    have es0 : ((m_paN pa i) + (pa i).toInt64 : Int64) = (m_paN pa (i + 1)) := rfl
    exact ih _ (by rw [← es0]; exact lv_sub hl [0, 1, 2] rfl)
  · refine lv_iload_n hx hb dX4_paidAll_4 rfl (lv_at hl 0 rfl) ?_
    refine lv_bipush (v := 6) hx hb dX4_paidAll_5 (by decide) ?_
    refine lv_icmp_ge (tgt := 26) hx hb dX4_paidAll_7 (by decide) (fun c_7 => ?_) (fun h => absurd h (by decide))
    refine lv_lload_n hx hb dX4_paidAll_26 rfl (lv_at hl 1 rfl) ?_
    exact retR_l hx hb hr hlocks rfl dX4_paidAll_27
set_option maxHeartbeats 4000000 in
set_option maxRecDepth 100000 in
theorem c_X4_firstWith (sg : Int32) : Met l yX4_firstWith (wT yX4_firstWith cX4_firstWith 3 (some .int)) ({ frames := 0, cells := 0, slots := 0, locals := 0 }) (pR (dC, dI) (ty3 cI cJ cZ) ((mW cI cZ k up lo ln cn tm se isI we br ma sf pa) ++ (mT cI cJ k oU oL gi ta gU gL)) [.ref (k 0), .int sg]) (vp_Si (fun r => (∃ w, w < 6 ∧ r = nI w ∧ 0 < oU w * sg.toInt64 ∧ ∀ j, j < w → ¬ 0 < oU j * sg.toInt64) ∨ (r = -9 ∧ ∀ j, j < 6 → ¬ 0 < oU j * sg.toInt64))) 0 0 (fun _ => False) := by
  refine Met.ofW (cc := cX4_firstWith) (maxL := 3) (ret := (some .int)) (by decide) rfl ?_
  intro p e s m args below meth c s₁ B hml hv
  obtain ⟨rfl, hP, hK⟩ := hv
  have hx := B.exec
  have hb := B.bytes
  have hr := B.returns
  have hts := atoms_spec (ws := wT yX4_firstWith cX4_firstWith 3 (some .int)) B.pre
  have hT := wT_T hts
  have hown : s.vm.findClass RX4 = some m.cls := findClass_of_methodNamed B.named
  have hlocks := B.notSynchronized
  have hl := lv_entry ([.ref (k 0), .int sg]) (n := 3) (Nat.le_of_ble_eq_true rfl)
  rw [lg_entry_eq]
  generalize (lg_sl ([.ref (k 0), .int sg]) ++ List.replicate (3 - (lg_sl ([.ref (k 0), .int sg])).length) Slot.unset).toArray = ls at hl ⊢
  have hl : lv_has ls 3 [(0, .ref (k 0)), (1, .int sg)] := hl
  refine lv_iconst (v := 0) hx hb dX4_firstWith_0 (by decide) ?_
  refine lv_istore_n (lv' := [(2, .int 0), (0, .ref (k 0)), (1, .int sg)]) hx hb dX4_firstWith_1 rfl hl (by decide) rfl (fun ls hl => ?_)
  refine loopR 6 (fun i ls => lv_has ls 3 [(2, .int (nI i)), (0, .ref (k 0)), (1, .int sg)] ∧ (∀ j, j < i → ¬ 0 < oU j * sg.toInt64)) (i0 := 0) (Nat.zero_le _) ⟨(lv_sub hl [0, 1, 2] rfl), fun j hj => absurd hj (Nat.not_lt_zero j)⟩ (fun i ls hi hl ih => ?_) (fun ls hl => ?_)
  · obtain ⟨hl, hf⟩ := hl
    refine lv_iload_n hx hb dX4_firstWith_2 rfl (lv_at hl 0 rfl) ?_
    refine lv_bipush (v := 6) hx hb dX4_firstWith_3 (by decide) ?_
    refine lv_icmp_ge (tgt := 30) hx hb dX4_firstWith_5 (by decide) (fun h => absurd h (nI_ge (b := 6) hi (by decide))) (fun c_5 => ?_)
    refine lv_aload_n hx hb dX4_firstWith_8 rfl (lv_at hl 1 rfl) ?_
    refine va_get (D := (dC, dI)) (ci := 4) (v := .ref (k 12)) (C := RX4) (T := TX4) (N := 22) hx hb hT hiX4 hown hK hP 0 rfl rfl 15 (by decide) (hT _ kf_X4_49) (fun _ h9 => h9) rfl dX4_firstWith_9 ?_
    refine lv_iload_n hx hb dX4_firstWith_12 rfl (lv_at hl 0 rfl) ?_
    refine ald_l hx hb hK hP 8 1 rfl rfl (by decide) (w := i) rfl (by omega) dX4_firstWith_13 ?_
    refine lv_iload_n hx hb dX4_firstWith_14 rfl (lv_at hl 2 rfl) ?_
    refine lv_i2l hx hb dX4_firstWith_15 rfl ?_
    refine lv_lmul hx hb dX4_firstWith_16 ?_
    refine lv_lconst (v := 0) hx hb dX4_firstWith_17 (by decide) ?_
    refine lc_le (tgt := 24) hx hb dX4_firstWith_18 dX4_firstWith_19 (by decide) (fun c_18 => ?_) (fun c_18 => ?_)
    · refine lv_iinc (v := (nI (i + 1))) (lv' := [(2, .int (nI (i + 1))), (0, .ref (k 0)), (1, .int sg)]) hx hb dX4_firstWith_24 hl (k := 0) rfl (nI_1 i) (by decide) rfl (fun ls hl => ?_)
      refine lv_goto (tgt := 2) hx hb dX4_firstWith_27 (by decide) ?_
      exact ih _ ⟨by exact lv_sub hl [0, 1, 2] rfl, lt_s hf (Int64.not_lt.mpr c_18)⟩
    · refine lv_iload_n hx hb dX4_firstWith_22 rfl (lv_at hl 0 rfl) ?_
      exact retR_i hx hb hr hlocks (by first | exact Or.inl ⟨i, hi, rfl, Int64.not_le.mp c_18, hf⟩ | exact Or.inr ⟨rfl, hf⟩) dX4_firstWith_23
  · obtain ⟨hl, hf⟩ := hl
    refine lv_iload_n hx hb dX4_firstWith_2 rfl (lv_at hl 0 rfl) ?_
    refine lv_bipush (v := 6) hx hb dX4_firstWith_3 (by decide) ?_
    refine lv_icmp_ge (tgt := 30) hx hb dX4_firstWith_5 (by decide) (fun c_5 => ?_) (fun h => absurd h (by decide))
    refine lv_bipush (v := (-9)) hx hb dX4_firstWith_30 (by decide) ?_
    exact retR_i hx hb hr hlocks (by first | exact Or.inl ⟨i, hi, rfl, Int64.not_le.mp c_18, hf⟩ | exact Or.inr ⟨rfl, hf⟩) dX4_firstWith_32
