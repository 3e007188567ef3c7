variable {l : Launch} {dC : Nat → ClassId} {dI : Nat → Nat → Nat} {cI cJ cZ : ClassId}
variable {q : Nat → Nat} {ln cw ic bs ss : Int32} {se we un sf pa : Nat → Int32}
variable {ct : Int32} {ov gf : Nat → Int64} {gi ta : Nat → Int32}
variable {k : Nat → Nat} {r : Rat} {up lo : Int64} {cn tm : Int32} {isI br ma : Nat → Int32} {aU aL uU uL oU oL gU gL : Nat → Int64}
set_option maxHeartbeats 4000000 in
set_option maxRecDepth 100000 in
theorem c_X4_manyUnits (z1 z2 : Int32) (hm : mok ma) : Met l yX4_manyUnits (wT yX4_manyUnits cX4_manyUnits 6 (some .int)) ({ frames := 1, cells := 0, slots := 0, locals := 21 }) (pR (dC, dI) (ty3 cI cJ cZ) (mW cI cZ k up lo ln cn tm se isI we br ma sf pa) [.ref (k 0), .int z1, .int z2]) (vp_Si (fun r9 => r9 = m_muN z1 z2 isI br ma sf 6)) 0 0 (fun _ => False) := by
  refine Met.ofW (cc := cX4_manyUnits) (maxL := 6) (ret := (some .int)) (by decide) rfl ?_
  intro p e s m args below meth c s₁ B hml hv
  obtain ⟨rfl, hP, hK⟩ := hv
  have hx := B.exec
  have hb := B.bytes
  have hr := B.returns
  have hts := atoms_spec (ws := wT yX4_manyUnits cX4_manyUnits 6 (some .int)) B.pre
  have hT := wT_T hts
  have hown : s.vm.findClass RX4 = some m.cls := findClass_of_methodNamed B.named
  have hlocks := B.notSynchronized
  have hl := lv_entry ([.ref (k 0), .int z1, .int z2]) (n := 6) (Nat.le_of_ble_eq_true rfl)
  rw [lg_entry_eq]
  generalize (lg_sl ([.ref (k 0), .int z1, .int z2]) ++ List.replicate (6 - (lg_sl ([.ref (k 0), .int z1, .int z2])).length) Slot.unset).toArray = ls at hl ⊢
  have hl : lv_has ls 6 [(0, .ref (k 0)), (1, .int z1), (2, .int z2)] := hl
  refine lv_iconst (v := 0) hx hb dX4_manyUnits_0 (by decide) ?_
  refine lv_istore_n (lv' := [(3, .int 0), (0, .ref (k 0)), (1, .int z1), (2, .int z2)]) hx hb dX4_manyUnits_1 rfl hl (by decide) rfl (fun ls hl => ?_)
  refine lv_iconst (v := 0) hx hb dX4_manyUnits_2 (by decide) ?_
  refine lv_istore (lv' := [(4, .int 0), (3, .int 0), (0, .ref (k 0)), (1, .int z1), (2, .int z2)]) hx hb dX4_manyUnits_3 hl (by decide) rfl (fun ls hl => ?_)
  refine loopR 6 (fun i ls => lv_has ls 6 [(4, .int (nI i)), (3, .int (m_muN z1 z2 isI br ma sf i)), (0, .ref (k 0)), (1, .int z1), (2, .int z2)]) (i0 := 0) (Nat.zero_le _) (lv_sub hl [0, 1, 2, 3, 4] rfl) (fun i ls hi hl ih => ?_) (fun ls hl => ?_)
  · refine lv_iload hx hb dX4_manyUnits_5 (lv_at hl 0 rfl) ?_
    refine lv_bipush (v := 6) hx hb dX4_manyUnits_7 (by decide) ?_
    refine lv_icmp_ge (tgt := 88) hx hb dX4_manyUnits_9 (by decide) (fun h => absurd h (nI_ge (b := 6) hi (by decide))) (fun c_9 => ?_)
    refine lv_aload_n hx hb dX4_manyUnits_12 rfl (lv_at hl 2 rfl) ?_
    refine lv_iload hx hb dX4_manyUnits_13 (lv_at hl 0 rfl) ?_
    refine vp_callSi (rRV (As := [.int (nI i)]) (rest := []) ⟨hx, hb, hml, hown, hT⟩ (c_X4_isUnit (l := l) i (by first | assumption | omega)) (cwTV 1 hT kc_X4_isUnit km_X4_113 ki_X4_isUnit ks_X4_isUnit kn_X4 rfl rfl md_X4_isUnit ⟨Nat.le_of_ble_eq_true rfl, Nat.le_of_ble_eq_true rfl⟩) hP hK (va_recv hK hP (ci := 4) (q0 := 0) rfl rfl) rfl hl.1 rfl (Nat.le_of_ble_eq_true rfl) dX4_manyUnits_15 ⟨Nat.le_of_ble_eq_true rfl, Nat.le_of_ble_eq_true rfl⟩) (fun r_15 hw_15 => ?_)
    rcases hw_15 with ⟨rfl, hw_15⟩ | ⟨rfl, hw_15⟩
    · refine lv_if_eq (tgt := 66) hx hb dX4_manyUnits_18 (by decide) (fun h => absurd h (by decide)) (fun c_18 => ?_)
      refine lv_iload_n hx hb dX4_manyUnits_21 rfl (lv_at hl 3 rfl) ?_
      refine lv_if_eq (tgt := 37) hx hb dX4_manyUnits_22 (by decide) (fun c_22 => ?_) (fun c_22 => ?_)
      · refine lv_iload_n hx hb dX4_manyUnits_37 rfl (lv_at hl 4 rfl) ?_
        refine lv_if_eq (tgt := 62) hx hb dX4_manyUnits_38 (by decide) (fun c_38 => ?_) (fun c_38 => ?_)
        · refine lv_iconst (v := 1) hx hb dX4_manyUnits_62 (by decide) ?_
          refine lv_goto (tgt := 67) hx hb dX4_manyUnits_63 (by decide) ?_
          refine lv_istore (lv' := [(5, .int 1), (4, .int (nI i)), (3, .int (m_muN z1 z2 isI br ma sf i)), (0, .ref (k 0)), (1, .int z1), (2, .int z2)]) hx hb dX4_manyUnits_67 hl (by decide) rfl (fun ls hl => ?_)
          refine lv_iload_n hx hb dX4_manyUnits_69 rfl (lv_at hl 2 rfl) ?_
          refine lv_iload hx hb dX4_manyUnits_70 (lv_at hl 0 rfl) ?_
          refine lv_if_eq (tgt := 79) hx hb dX4_manyUnits_72 (by decide) (fun h => absurd h (by decide)) (fun c_72 => ?_)
          refine lv_iconst (v := 1) hx hb dX4_manyUnits_75 (by decide) ?_
          refine lv_goto (tgt := 80) hx hb dX4_manyUnits_76 (by decide) ?_
          refine lv_iadd hx hb dX4_manyUnits_80 ?_
          refine lv_istore_n (lv' := [(3, .int ((m_muN z1 z2 isI br ma sf i) + 1)), (5, .int 1), (4, .int (nI i)), (0, .ref (k 0)), (1, .int z1), (2, .int z2)]) hx hb dX4_manyUnits_81 rfl hl (by decide) rfl (fun ls hl => ?_)
          refine lv_iinc (v := (nI (i + 1))) (lv' := [(4, .int (nI (i + 1))), (3, .int ((m_muN z1 z2 isI br ma sf i) + 1)), (5, .int 1), (0, .ref (k 0)), (1, .int z1), (2, .int z2)]) hx hb dX4_manyUnits_82 hl (k := 2) rfl (nI_1 i) (by decide) rfl (fun ls hl => ?_)
          refine lv_goto (tgt := 5) hx hb dX4_manyUnits_85 (by decide) ?_
          have es0 : ((m_muN z1 z2 isI br ma sf i) + 1 : Int32) = (m_muN z1 z2 isI br ma sf (i + 1)) := by first | (have hc : ¬ (m_isU isI ma i ∧ (z1 = 0 ∨ ¬ sf i = -9) ∧ (z2 = 0 ∨ (sf i = -9 ∧ m_ubr br ma i))) := (fun h => hw_15 h.1); rw [m_muN_s, if_neg hc]) | (have hc : ¬ (m_isU isI ma i ∧ (z1 = 0 ∨ ¬ sf i = -9) ∧ (z2 = 0 ∨ (sf i = -9 ∧ m_ubr br ma i))) := (fun h => h.2.1.elim c_22 (fun h2 => h2 c_34)); rw [m_muN_s, if_neg hc]) | (have hc : ¬ (m_isU isI ma i ∧ (z1 = 0 ∨ ¬ sf i = -9) ∧ (z2 = 0 ∨ (sf i = -9 ∧ m_ubr br ma i))) := (fun h => h.2.2.elim c_38 (fun h2 => c_50 h2.1)); rw [m_muN_s, if_neg hc]) | (have hc : ¬ (m_isU isI ma i ∧ (z1 = 0 ∨ ¬ sf i = -9) ∧ (z2 = 0 ∨ (sf i = -9 ∧ m_ubr br ma i))) := (fun h => h.2.2.elim c_38 (fun h2 => hw_56 h2.2)); rw [m_muN_s, if_neg hc]) | (have hc : (m_isU isI ma i ∧ (z1 = 0 ∨ ¬ sf i = -9) ∧ (z2 = 0 ∨ (sf i = -9 ∧ m_ubr br ma i))) := ⟨hw_15, Or.inl c_22, Or.inl c_38⟩; rw [m_muN_s, if_pos hc]) | (have hc : (m_isU isI ma i ∧ (z1 = 0 ∨ ¬ sf i = -9) ∧ (z2 = 0 ∨ (sf i = -9 ∧ m_ubr br ma i))) := ⟨hw_15, Or.inl c_22, Or.inr ⟨c_50, hw_56⟩⟩; rw [m_muN_s, if_pos hc]) | (have hc : (m_isU isI ma i ∧ (z1 = 0 ∨ ¬ sf i = -9) ∧ (z2 = 0 ∨ (sf i = -9 ∧ m_ubr br ma i))) := ⟨hw_15, Or.inr c_34, Or.inl c_38⟩; rw [m_muN_s, if_pos hc]) | (have hc : (m_isU isI ma i ∧ (z1 = 0 ∨ ¬ sf i = -9) ∧ (z2 = 0 ∨ (sf i = -9 ∧ m_ubr br ma i))) := ⟨hw_15, Or.inr c_34, Or.inr ⟨c_50, hw_56⟩⟩; rw [m_muN_s, if_pos hc])
          exact ih _ (by rw [← es0]; exact lv_sub hl [0, 1, 3, 4, 5] rfl)
        · refine lv_aload_n hx hb dX4_manyUnits_41 rfl (lv_at hl 2 rfl) ?_
          refine va_get (D := (dC, dI)) (ci := 4) (v := .ref (k 6)) (C := RX4) (T := TX4) (N := 22) hx hb hT hiX4 hown hK hP 0 rfl rfl 9 (by decide) (hT _ kf_X4_30) (fun _ h9 => h9) rfl dX4_manyUnits_42 ?_
          refine lv_iload hx hb dX4_manyUnits_45 (lv_at hl 0 rfl) ?_
          refine ald_i hx hb hK hP 6 0 rfl rfl (by decide) (w := i) rfl (by omega) dX4_manyUnits_47 ?_
          refine lv_bipush (v := (-9)) hx hb dX4_manyUnits_48 (by decide) ?_
          refine lv_icmp_ne (tgt := 66) hx hb dX4_manyUnits_50 (by decide) (fun c_50 => ?_) (fun c_50 => ?_)
          · refine lv_iconst (v := 0) hx hb dX4_manyUnits_66 (by decide) ?_
            refine lv_istore (lv' := [(5, .int 0), (4, .int (nI i)), (3, .int (m_muN z1 z2 isI br ma sf i)), (0, .ref (k 0)), (1, .int z1), (2, .int z2)]) hx hb dX4_manyUnits_67 hl (by decide) rfl (fun ls hl => ?_)
            refine lv_iload_n hx hb dX4_manyUnits_69 rfl (lv_at hl 2 rfl) ?_
            refine lv_iload hx hb dX4_manyUnits_70 (lv_at hl 0 rfl) ?_
            refine lv_if_eq (tgt := 79) hx hb dX4_manyUnits_72 (by decide) (fun c_72 => ?_) (fun h => absurd h (by decide))
            refine lv_iconst (v := 0) hx hb dX4_manyUnits_79 (by decide) ?_
            refine lv_iadd hx hb dX4_manyUnits_80 ?_
            refine lv_istore_n (lv' := [(3, .int ((m_muN z1 z2 isI br ma sf i) + 0)), (5, .int 0), (4, .int (nI i)), (0, .ref (k 0)), (1, .int z1), (2, .int z2)]) hx hb dX4_manyUnits_81 rfl hl (by decide) rfl (fun ls hl => ?_)
            refine lv_iinc (v := (nI (i + 1))) (lv' := [(4, .int (nI (i + 1))), (3, .int ((m_muN z1 z2 isI br ma sf i) + 0)), (5, .int 0), (0, .ref (k 0)), (1, .int z1), (2, .int z2)]) hx hb dX4_manyUnits_82 hl (k := 2) rfl (nI_1 i) (by decide) rfl (fun ls hl => ?_)
            refine lv_goto (tgt := 5) hx hb dX4_manyUnits_85 (by decide) ?_
            have es0 : ((m_muN z1 z2 isI br ma sf i) + 0 : Int32) = (m_muN z1 z2 isI br ma sf (i + 1)) := by first | (have hc : ¬ (m_isU isI ma i ∧ (z1 = 0 ∨ ¬ sf i = -9) ∧ (z2 = 0 ∨ (sf i = -9 ∧ m_ubr br ma i))) := (fun h => hw_15 h.1); rw [m_muN_s, if_neg hc]) | (have hc : ¬ (m_isU isI ma i ∧ (z1 = 0 ∨ ¬ sf i = -9) ∧ (z2 = 0 ∨ (sf i = -9 ∧ m_ubr br ma i))) := (fun h => h.2.1.elim c_22 (fun h2 => h2 c_34)); rw [m_muN_s, if_neg hc]) | (have hc : ¬ (m_isU isI ma i ∧ (z1 = 0 ∨ ¬ sf i = -9) ∧ (z2 = 0 ∨ (sf i = -9 ∧ m_ubr br ma i))) := (fun h => h.2.2.elim c_38 (fun h2 => c_50 h2.1)); rw [m_muN_s, if_neg hc]) | (have hc : ¬ (m_isU isI ma i ∧ (z1 = 0 ∨ ¬ sf i = -9) ∧ (z2 = 0 ∨ (sf i = -9 ∧ m_ubr br ma i))) := (fun h => h.2.2.elim c_38 (fun h2 => hw_56 h2.2)); rw [m_muN_s, if_neg hc]) | (have hc : (m_isU isI ma i ∧ (z1 = 0 ∨ ¬ sf i = -9) ∧ (z2 = 0 ∨ (sf i = -9 ∧ m_ubr br ma i))) := ⟨hw_15, Or.inl c_22, Or.inl c_38⟩; rw [m_muN_s, if_pos hc]) | (have hc : (m_isU isI ma i ∧ (z1 = 0 ∨ ¬ sf i = -9) ∧ (z2 = 0 ∨ (sf i = -9 ∧ m_ubr br ma i))) := ⟨hw_15, Or.inl c_22, Or.inr ⟨c_50, hw_56⟩⟩; rw [m_muN_s, if_pos hc]) | (have hc : (m_isU isI ma i ∧ (z1 = 0 ∨ ¬ sf i = -9) ∧ (z2 = 0 ∨ (sf i = -9 ∧ m_ubr br ma i))) := ⟨hw_15, Or.inr c_34, Or.inl c_38⟩; rw [m_muN_s, if_pos hc]) | (have hc : (m_isU isI ma i ∧ (z1 = 0 ∨ ¬ sf i = -9) ∧ (z2 = 0 ∨ (sf i = -9 ∧ m_ubr br ma i))) := ⟨hw_15, Or.inr c_34, Or.inr ⟨c_50, hw_56⟩⟩; rw [m_muN_s, if_pos hc])
            exact ih _ (by rw [← es0]; exact lv_sub hl [0, 1, 3, 4, 5] rfl)
          · refine lv_aload_n hx hb dX4_manyUnits_53 rfl (lv_at hl 2 rfl) ?_
            refine lv_iload hx hb dX4_manyUnits_54 (lv_at hl 0 rfl) ?_
            refine vp_callSi (rRV (As := [.int (nI i)]) (rest := []) ⟨hx, hb, hml, hown, hT⟩ (c_X4_isUnitBroke (l := l) i (by first | assumption | omega) (by first | assumption | omega)) (cwTV 1 hT kc_X4_isUnitBroke km_X4_116 ki_X4_isUnitBroke ks_X4_isUnitBroke kn_X4 rfl rfl md_X4_isUnitBroke ⟨Nat.le_of_ble_eq_true rfl, Nat.le_of_ble_eq_true rfl⟩) hP hK (va_recv hK hP (ci := 4) (q0 := 0) rfl rfl) rfl hl.1 rfl (Nat.le_of_ble_eq_true rfl) dX4_manyUnits_56 ⟨Nat.le_of_ble_eq_true rfl, Nat.le_of_ble_eq_true rfl⟩) (fun r_56 hw_56 => ?_)
            rcases hw_56 with ⟨rfl, hw_56⟩ | ⟨rfl, hw_56⟩
            · refine lv_if_eq (tgt := 66) hx hb dX4_manyUnits_59 (by decide) (fun h => absurd h (by decide)) (fun c_59 => ?_)
              refine lv_iconst (v := 1) hx hb dX4_manyUnits_62 (by decide) ?_
              refine lv_goto (tgt := 67) hx hb dX4_manyUnits_63 (by decide) ?_
              refine lv_istore (lv' := [(5, .int 1), (4, .int (nI i)), (3, .int (m_muN z1 z2 isI br ma sf i)), (0, .ref (k 0)), (1, .int z1), (2, .int z2)]) hx hb dX4_manyUnits_67 hl (by decide) rfl (fun ls hl => ?_)
              refine lv_iload_n hx hb dX4_manyUnits_69 rfl (lv_at hl 2 rfl) ?_
              refine lv_iload hx hb dX4_manyUnits_70 (lv_at hl 0 rfl) ?_
              refine lv_if_eq (tgt := 79) hx hb dX4_manyUnits_72 (by decide) (fun h => absurd h (by decide)) (fun c_72 => ?_)
              refine lv_iconst (v := 1) hx hb dX4_manyUnits_75 (by decide) ?_
              refine lv_goto (tgt := 80) hx hb dX4_manyUnits_76 (by decide) ?_
              refine lv_iadd hx hb dX4_manyUnits_80 ?_
              refine lv_istore_n (lv' := [(3, .int ((m_muN z1 z2 isI br ma sf i) + 1)), (5, .int 1), (4, .int (nI i)), (0, .ref (k 0)), (1, .int z1), (2, .int z2)]) hx hb dX4_manyUnits_81 rfl hl (by decide) rfl (fun ls hl => ?_)
              refine lv_iinc (v := (nI (i + 1))) (lv' := [(4, .int (nI (i + 1))), (3, .int ((m_muN z1 z2 isI br ma sf i) + 1)), (5, .int 1), (0, .ref (k 0)), (1, .int z1), (2, .int z2)]) hx hb dX4_manyUnits_82 hl (k := 2) rfl (nI_1 i) (by decide) rfl (fun ls hl => ?_)
              refine lv_goto (tgt := 5) hx hb dX4_manyUnits_85 (by decide) ?_
              have es0 : ((m_muN z1 z2 isI br ma sf i) + 1 : Int32) = (m_muN z1 z2 isI br ma sf (i + 1)) := by first | (have hc : ¬ (m_isU isI ma i ∧ (z1 = 0 ∨ ¬ sf i = -9) ∧ (z2 = 0 ∨ (sf i = -9 ∧ m_ubr br ma i))) := (fun h => hw_15 h.1); rw [m_muN_s, if_neg hc]) | (have hc : ¬ (m_isU isI ma i ∧ (z1 = 0 ∨ ¬ sf i = -9) ∧ (z2 = 0 ∨ (sf i = -9 ∧ m_ubr br ma i))) := (fun h => h.2.1.elim c_22 (fun h2 => h2 c_34)); rw [m_muN_s, if_neg hc]) | (have hc : ¬ (m_isU isI ma i ∧ (z1 = 0 ∨ ¬ sf i = -9) ∧ (z2 = 0 ∨ (sf i = -9 ∧ m_ubr br ma i))) := (fun h => h.2.2.elim c_38 (fun h2 => c_50 h2.1)); rw [m_muN_s, if_neg hc]) | (have hc : ¬ (m_isU isI ma i ∧ (z1 = 0 ∨ ¬ sf i = -9) ∧ (z2 = 0 ∨ (sf i = -9 ∧ m_ubr br ma i))) := (fun h => h.2.2.elim c_38 (fun h2 => hw_56 h2.2)); rw [m_muN_s, if_neg hc]) | (have hc : (m_isU isI ma i ∧ (z1 = 0 ∨ ¬ sf i = -9) ∧ (z2 = 0 ∨ (sf i = -9 ∧ m_ubr br ma i))) := ⟨hw_15, Or.inl c_22, Or.inl c_38⟩; rw [m_muN_s, if_pos hc]) | (have hc : (m_isU isI ma i ∧ (z1 = 0 ∨ ¬ sf i = -9) ∧ (z2 = 0 ∨ (sf i = -9 ∧ m_ubr br ma i))) := ⟨hw_15, Or.inl c_22, Or.inr ⟨c_50, hw_56⟩⟩; rw [m_muN_s, if_pos hc]) | (have hc : (m_isU isI ma i ∧ (z1 = 0 ∨ ¬ sf i = -9) ∧ (z2 = 0 ∨ (sf i = -9 ∧ m_ubr br ma i))) := ⟨hw_15, Or.inr c_34, Or.inl c_38⟩; rw [m_muN_s, if_pos hc]) | (have hc : (m_isU isI ma i ∧ (z1 = 0 ∨ ¬ sf i = -9) ∧ (z2 = 0 ∨ (sf i = -9 ∧ m_ubr br ma i))) := ⟨hw_15, Or.inr c_34, Or.inr ⟨c_50, hw_56⟩⟩; rw [m_muN_s, if_pos hc])
              exact ih _ (by rw [← es0]; exact lv_sub hl [0, 1, 3, 4, 5] rfl)
            · refine lv_if_eq (tgt := 66) hx hb dX4_manyUnits_59 (by decide) (fun c_59 => ?_) (fun h => absurd h (by decide))
              refine lv_iconst (v := 0) hx hb dX4_manyUnits_66 (by decide) ?_
              refine lv_istore (lv' := [(5, .int 0), (4, .int (nI i)), (3, .int (m_muN z1 z2 isI br ma sf i)), (0, .ref (k 0)), (1, .int z1), (2, .int z2)]) hx hb dX4_manyUnits_67 hl (by decide) rfl (fun ls hl => ?_)
              refine lv_iload_n hx hb dX4_manyUnits_69 rfl (lv_at hl 2 rfl) ?_
              refine lv_iload hx hb dX4_manyUnits_70 (lv_at hl 0 rfl) ?_
              refine lv_if_eq (tgt := 79) hx hb dX4_manyUnits_72 (by decide) (fun c_72 => ?_) (fun h => absurd h (by decide))
              refine lv_iconst (v := 0) hx hb dX4_manyUnits_79 (by decide) ?_
              refine lv_iadd hx hb dX4_manyUnits_80 ?_
              refine lv_istore_n (lv' := [(3, .int ((m_muN z1 z2 isI br ma sf i) + 0)), (5, .int 0), (4, .int (nI i)), (0, .ref (k 0)), (1, .int z1), (2, .int z2)]) hx hb dX4_manyUnits_81 rfl hl (by decide) rfl (fun ls hl => ?_)
              refine lv_iinc (v := (nI (i + 1))) (lv' := [(4, .int (nI (i + 1))), (3, .int ((m_muN z1 z2 isI br ma sf i) + 0)), (5, .int 0), (0, .ref (k 0)), (1, .int z1), (2, .int z2)]) hx hb dX4_manyUnits_82 hl (k := 2) rfl (nI_1 i) (by decide) rfl (fun ls hl => ?_)
              refine lv_goto (tgt := 5) hx hb dX4_manyUnits_85 (by decide) ?_
              have es0 : ((m_muN z1 z2 isI br ma sf i) + 0 : Int32) = (m_muN z1 z2 isI br ma sf (i + 1)) := by first | (have hc : ¬ (m_isU isI ma i ∧ (z1 = 0 ∨ ¬ sf i = -9) ∧ (z2 = 0 ∨ (sf i = -9 ∧ m_ubr br ma i))) := (fun h => hw_15 h.1); rw [m_muN_s, if_neg hc]) | (have hc : ¬ (m_isU isI ma i ∧ (z1 = 0 ∨ ¬ sf i = -9) ∧ (z2 = 0 ∨ (sf i = -9 ∧ m_ubr br ma i))) := (fun h => h.2.1.elim c_22 (fun h2 => h2 c_34)); rw [m_muN_s, if_neg hc]) | (have hc : ¬ (m_isU isI ma i ∧ (z1 = 0 ∨ ¬ sf i = -9) ∧ (z2 = 0 ∨ (sf i = -9 ∧ m_ubr br ma i))) := (fun h => h.2.2.elim c_38 (fun h2 => c_50 h2.1)); rw [m_muN_s, if_neg hc]) | (have hc : ¬ (m_isU isI ma i ∧ (z1 = 0 ∨ ¬ sf i = -9) ∧ (z2 = 0 ∨ (sf i = -9 ∧ m_ubr br ma i))) := (fun h => h.2.2.elim c_38 (fun h2 => hw_56 h2.2)); rw [m_muN_s, if_neg hc]) | (have hc : (m_isU isI ma i ∧ (z1 = 0 ∨ ¬ sf i = -9) ∧ (z2 = 0 ∨ (sf i = -9 ∧ m_ubr br ma i))) := ⟨hw_15, Or.inl c_22, Or.inl c_38⟩; rw [m_muN_s, if_pos hc]) | (have hc : (m_isU isI ma i ∧ (z1 = 0 ∨ ¬ sf i = -9) ∧ (z2 = 0 ∨ (sf i = -9 ∧ m_ubr br ma i))) := ⟨hw_15, Or.inl c_22, Or.inr ⟨c_50, hw_56⟩⟩; rw [m_muN_s, if_pos hc]) | (have hc : (m_isU isI ma i ∧ (z1 = 0 ∨ ¬ sf i = -9) ∧ (z2 = 0 ∨ (sf i = -9 ∧ m_ubr br ma i))) := ⟨hw_15, Or.inr c_34, Or.inl c_38⟩; rw [m_muN_s, if_pos hc]) | (have hc : (m_isU isI ma i ∧ (z1 = 0 ∨ ¬ sf i = -9) ∧ (z2 = 0 ∨ (sf i = -9 ∧ m_ubr br ma i))) := ⟨hw_15, Or.inr c_34, Or.inr ⟨c_50, hw_56⟩⟩; rw [m_muN_s, if_pos hc])
              exact ih _ (by rw [← es0]; exact lv_sub hl [0, 1, 3, 4, 5] rfl)
      · refine lv_aload_n hx hb dX4_manyUnits_25 rfl (lv_at hl 2 rfl) ?_
        refine va_get (D := (dC, dI)) (ci := 4) (v := .ref (k 6)) (C := RX4) (T := TX4) (N := 22) hx hb hT hiX4 hown hK hP 0 rfl rfl 9 (by decide) (hT _ kf_X4_30) (fun _ h9 => h9) rfl dX4_manyUnits_26 ?_
        refine lv_iload hx hb dX4_manyUnits_29 (lv_at hl 0 rfl) ?_
        refine ald_i hx hb hK hP 6 0 rfl rfl (by decide) (w := i) rfl (by omega) dX4_manyUnits_31 ?_
        refine lv_bipush (v := (-9)) hx hb dX4_manyUnits_32 (by decide) ?_
        refine lv_icmp_eq (tgt := 66) hx hb dX4_manyUnits_34 (by decide) (fun c_34 => ?_) (fun c_34 => ?_)
        · refine lv_iconst (v := 0) hx hb dX4_manyUnits_66 (by decide) ?_
          refine lv_istore (lv' := [(5, .int 0), (4, .int (nI i)), (3, .int (m_muN z1 z2 isI br ma sf i)), (0, .ref (k 0)), (1, .int z1), (2, .int z2)]) hx hb dX4_manyUnits_67 hl (by decide) rfl (fun ls hl => ?_)
          refine lv_iload_n hx hb dX4_manyUnits_69 rfl (lv_at hl 2 rfl) ?_
          refine lv_iload hx hb dX4_manyUnits_70 (lv_at hl 0 rfl) ?_
          refine lv_if_eq (tgt := 79) hx hb dX4_manyUnits_72 (by decide) (fun c_72 => ?_) (fun h => absurd h (by decide))
          refine lv_iconst (v := 0) hx hb dX4_manyUnits_79 (by decide) ?_
          refine lv_iadd hx hb dX4_manyUnits_80 ?_
          refine lv_istore_n (lv' := [(3, .int ((m_muN z1 z2 isI br ma sf i) + 0)), (5, .int 0), (4, .int (nI i)), (0, .ref (k 0)), (1, .int z1), (2, .int z2)]) hx hb dX4_manyUnits_81 rfl hl (by decide) rfl (fun ls hl => ?_)
          refine lv_iinc (v := (nI (i + 1))) (lv' := [(4, .int (nI (i + 1))), (3, .int ((m_muN z1 z2 isI br ma sf i) + 0)), (5, .int 0), (0, .ref (k 0)), (1, .int z1), (2, .int z2)]) hx hb dX4_manyUnits_82 hl (k := 2) rfl (nI_1 i) (by decide) rfl (fun ls hl => ?_)
          refine lv_goto (tgt := 5) hx hb dX4_manyUnits_85 (by decide) ?_
          have es0 : ((m_muN z1 z2 isI br ma sf i) + 0 : Int32) = (m_muN z1 z2 isI br ma sf (i + 1)) := by first | (have hc : ¬ (m_isU isI ma i ∧ (z1 = 0 ∨ ¬ sf i = -9) ∧ (z2 = 0 ∨ (sf i = -9 ∧ m_ubr br ma i))) := (fun h => hw_15 h.1); rw [m_muN_s, if_neg hc]) | (have hc : ¬ (m_isU isI ma i ∧ (z1 = 0 ∨ ¬ sf i = -9) ∧ (z2 = 0 ∨ (sf i = -9 ∧ m_ubr br ma i))) := (fun h => h.2.1.elim c_22 (fun h2 => h2 c_34)); rw [m_muN_s, if_neg hc]) | (have hc : ¬ (m_isU isI ma i ∧ (z1 = 0 ∨ ¬ sf i = -9) ∧ (z2 = 0 ∨ (sf i = -9 ∧ m_ubr br ma i))) := (fun h => h.2.2.elim c_38 (fun h2 => c_50 h2.1)); rw [m_muN_s, if_neg hc]) | (have hc : ¬ (m_isU isI ma i ∧ (z1 = 0 ∨ ¬ sf i = -9) ∧ (z2 = 0 ∨ (sf i = -9 ∧ m_ubr br ma i))) := (fun h => h.2.2.elim c_38 (fun h2 => hw_56 h2.2)); rw [m_muN_s, if_neg hc]) | (have hc : (m_isU isI ma i ∧ (z1 = 0 ∨ ¬ sf i = -9) ∧ (z2 = 0 ∨ (sf i = -9 ∧ m_ubr br ma i))) := ⟨hw_15, Or.inl c_22, Or.inl c_38⟩; rw [m_muN_s, if_pos hc]) | (have hc : (m_isU isI ma i ∧ (z1 = 0 ∨ ¬ sf i = -9) ∧ (z2 = 0 ∨ (sf i = -9 ∧ m_ubr br ma i))) := ⟨hw_15, Or.inl c_22, Or.inr ⟨c_50, hw_56⟩⟩; rw [m_muN_s, if_pos hc]) | (have hc : (m_isU isI ma i ∧ (z1 = 0 ∨ ¬ sf i = -9) ∧ (z2 = 0 ∨ (sf i = -9 ∧ m_ubr br ma i))) := ⟨hw_15, Or.inr c_34, Or.inl c_38⟩; rw [m_muN_s, if_pos hc]) | (have hc : (m_isU isI ma i ∧ (z1 = 0 ∨ ¬ sf i = -9) ∧ (z2 = 0 ∨ (sf i = -9 ∧ m_ubr br ma i))) := ⟨hw_15, Or.inr c_34, Or.inr ⟨c_50, hw_56⟩⟩; rw [m_muN_s, if_pos hc])
          exact ih _ (by rw [← es0]; exact lv_sub hl [0, 1, 3, 4, 5] rfl)
        · refine lv_iload_n hx hb dX4_manyUnits_37 rfl (lv_at hl 4 rfl) ?_
          refine lv_if_eq (tgt := 62) hx hb dX4_manyUnits_38 (by decide) (fun c_38 => ?_) (fun c_38 => ?_)
          · refine lv_iconst (v := 1) hx hb dX4_manyUnits_62 (by decide) ?_
            refine lv_goto (tgt := 67) hx hb dX4_manyUnits_63 (by decide) ?_
            refine lv_istore (lv' := [(5, .int 1), (4, .int (nI i)), (3, .int (m_muN z1 z2 isI br ma sf i)), (0, .ref (k 0)), (1, .int z1), (2, .int z2)]) hx hb dX4_manyUnits_67 hl (by decide) rfl (fun ls hl => ?_)
            refine lv_iload_n hx hb dX4_manyUnits_69 rfl (lv_at hl 2 rfl) ?_
            refine lv_iload hx hb dX4_manyUnits_70 (lv_at hl 0 rfl) ?_
            refine lv_if_eq (tgt := 79) hx hb dX4_manyUnits_72 (by decide) (fun h => absurd h (by decide)) (fun c_72 => ?_)
            refine lv_iconst (v := 1) hx hb dX4_manyUnits_75 (by decide) ?_
            refine lv_goto (tgt := 80) hx hb dX4_manyUnits_76 (by decide) ?_
            refine lv_iadd hx hb dX4_manyUnits_80 ?_
            refine lv_istore_n (lv' := [(3, .int ((m_muN z1 z2 isI br ma sf i) + 1)), (5, .int 1), (4, .int (nI i)), (0, .ref (k 0)), (1, .int z1), (2, .int z2)]) hx hb dX4_manyUnits_81 rfl hl (by decide) rfl (fun ls hl => ?_)
            refine lv_iinc (v := (nI (i + 1))) (lv' := [(4, .int (nI (i + 1))), (3, .int ((m_muN z1 z2 isI br ma sf i) + 1)), (5, .int 1), (0, .ref (k 0)), (1, .int z1), (2, .int z2)]) hx hb dX4_manyUnits_82 hl (k := 2) rfl (nI_1 i) (by decide) rfl (fun ls hl => ?_)
            refine lv_goto (tgt := 5) hx hb dX4_manyUnits_85 (by decide) ?_
            have es0 : ((m_muN z1 z2 isI br ma sf i) + 1 : Int32) = (m_muN z1 z2 isI br ma sf (i + 1)) := by first | (have hc : ¬ (m_isU isI ma i ∧ (z1 = 0 ∨ ¬ sf i = -9) ∧ (z2 = 0 ∨ (sf i = -9 ∧ m_ubr br ma i))) := (fun h => hw_15 h.1); rw [m_muN_s, if_neg hc]) | (have hc : ¬ (m_isU isI ma i ∧ (z1 = 0 ∨ ¬ sf i = -9) ∧ (z2 = 0 ∨ (sf i = -9 ∧ m_ubr br ma i))) := (fun h => h.2.1.elim c_22 (fun h2 => h2 c_34)); rw [m_muN_s, if_neg hc]) | (have hc : ¬ (m_isU isI ma i ∧ (z1 = 0 ∨ ¬ sf i = -9) ∧ (z2 = 0 ∨ (sf i = -9 ∧ m_ubr br ma i))) := (fun h => h.2.2.elim c_38 (fun h2 => c_50 h2.1)); rw [m_muN_s, if_neg hc]) | (have hc : ¬ (m_isU isI ma i ∧ (z1 = 0 ∨ ¬ sf i = -9) ∧ (z2 = 0 ∨ (sf i = -9 ∧ m_ubr br ma i))) := (fun h => h.2.2.elim c_38 (fun h2 => hw_56 h2.2)); rw [m_muN_s, if_neg hc]) | (have hc : (m_isU isI ma i ∧ (z1 = 0 ∨ ¬ sf i = -9) ∧ (z2 = 0 ∨ (sf i = -9 ∧ m_ubr br ma i))) := ⟨hw_15, Or.inl c_22, Or.inl c_38⟩; rw [m_muN_s, if_pos hc]) | (have hc : (m_isU isI ma i ∧ (z1 = 0 ∨ ¬ sf i = -9) ∧ (z2 = 0 ∨ (sf i = -9 ∧ m_ubr br ma i))) := ⟨hw_15, Or.inl c_22, Or.inr ⟨c_50, hw_56⟩⟩; rw [m_muN_s, if_pos hc]) | (have hc : (m_isU isI ma i ∧ (z1 = 0 ∨ ¬ sf i = -9) ∧ (z2 = 0 ∨ (sf i = -9 ∧ m_ubr br ma i))) := ⟨hw_15, Or.inr c_34, Or.inl c_38⟩; rw [m_muN_s, if_pos hc]) | (have hc : (m_isU isI ma i ∧ (z1 = 0 ∨ ¬ sf i = -9) ∧ (z2 = 0 ∨ (sf i = -9 ∧ m_ubr br ma i))) := ⟨hw_15, Or.inr c_34, Or.inr ⟨c_50, hw_56⟩⟩; rw [m_muN_s, if_pos hc])
            exact ih _ (by rw [← es0]; exact lv_sub hl [0, 1, 3, 4, 5] rfl)
          · refine lv_aload_n hx hb dX4_manyUnits_41 rfl (lv_at hl 2 rfl) ?_
            refine va_get (D := (dC, dI)) (ci := 4) (v := .ref (k 6)) (C := RX4) (T := TX4) (N := 22) hx hb hT hiX4 hown hK hP 0 rfl rfl 9 (by decide) (hT _ kf_X4_30) (fun _ h9 => h9) rfl dX4_manyUnits_42 ?_
            refine lv_iload hx hb dX4_manyUnits_45 (lv_at hl 0 rfl) ?_
            refine ald_i hx hb hK hP 6 0 rfl rfl (by decide) (w := i) rfl (by omega) dX4_manyUnits_47 ?_
            refine lv_bipush (v := (-9)) hx hb dX4_manyUnits_48 (by decide) ?_
            refine lv_icmp_ne (tgt := 66) hx hb dX4_manyUnits_50 (by decide) (fun c_50 => ?_) (fun c_50 => ?_)
            · refine lv_iconst (v := 0) hx hb dX4_manyUnits_66 (by decide) ?_
              refine lv_istore (lv' := [(5, .int 0), (4, .int (nI i)), (3, .int (m_muN z1 z2 isI br ma sf i)), (0, .ref (k 0)), (1, .int z1), (2, .int z2)]) hx hb dX4_manyUnits_67 hl (by decide) rfl (fun ls hl => ?_)
              refine lv_iload_n hx hb dX4_manyUnits_69 rfl (lv_at hl 2 rfl) ?_
              refine lv_iload hx hb dX4_manyUnits_70 (lv_at hl 0 rfl) ?_
              refine lv_if_eq (tgt := 79) hx hb dX4_manyUnits_72 (by decide) (fun c_72 => ?_) (fun h => absurd h (by decide))
              refine lv_iconst (v := 0) hx hb dX4_manyUnits_79 (by decide) ?_
              refine lv_iadd hx hb dX4_manyUnits_80 ?_
              refine lv_istore_n (lv' := [(3, .int ((m_muN z1 z2 isI br ma sf i) + 0)), (5, .int 0), (4, .int (nI i)), (0, .ref (k 0)), (1, .int z1), (2, .int z2)]) hx hb dX4_manyUnits_81 rfl hl (by decide) rfl (fun ls hl => ?_)
              refine lv_iinc (v := (nI (i + 1))) (lv' := [(4, .int (nI (i + 1))), (3, .int ((m_muN z1 z2 isI br ma sf i) + 0)), (5, .int 0), (0, .ref (k 0)), (1, .int z1), (2, .int z2)]) hx hb dX4_manyUnits_82 hl (k := 2) rfl (nI_1 i) (by decide) rfl (fun ls hl => ?_)
              refine lv_goto (tgt := 5) hx hb dX4_manyUnits_85 (by decide) ?_
              have es0 : ((m_muN z1 z2 isI br ma sf i) + 0 : Int32) = (m_muN z1 z2 isI br ma sf (i + 1)) := by first | (have hc : ¬ (m_isU isI ma i ∧ (z1 = 0 ∨ ¬ sf i = -9) ∧ (z2 = 0 ∨ (sf i = -9 ∧ m_ubr br ma i))) := (fun h => hw_15 h.1); rw [m_muN_s, if_neg hc]) | (have hc : ¬ (m_isU isI ma i ∧ (z1 = 0 ∨ ¬ sf i = -9) ∧ (z2 = 0 ∨ (sf i = -9 ∧ m_ubr br ma i))) := (fun h => h.2.1.elim c_22 (fun h2 => h2 c_34)); rw [m_muN_s, if_neg hc]) | (have hc : ¬ (m_isU isI ma i ∧ (z1 = 0 ∨ ¬ sf i = -9) ∧ (z2 = 0 ∨ (sf i = -9 ∧ m_ubr br ma i))) := (fun h => h.2.2.elim c_38 (fun h2 => c_50 h2.1)); rw [m_muN_s, if_neg hc]) | (have hc : ¬ (m_isU isI ma i ∧ (z1 = 0 ∨ ¬ sf i = -9) ∧ (z2 = 0 ∨ (sf i = -9 ∧ m_ubr br ma i))) := (fun h => h.2.2.elim c_38 (fun h2 => hw_56 h2.2)); rw [m_muN_s, if_neg hc]) | (have hc : (m_isU isI ma i ∧ (z1 = 0 ∨ ¬ sf i = -9) ∧ (z2 = 0 ∨ (sf i = -9 ∧ m_ubr br ma i))) := ⟨hw_15, Or.inl c_22, Or.inl c_38⟩; rw [m_muN_s, if_pos hc]) | (have hc : (m_isU isI ma i ∧ (z1 = 0 ∨ ¬ sf i = -9) ∧ (z2 = 0 ∨ (sf i = -9 ∧ m_ubr br ma i))) := ⟨hw_15, Or.inl c_22, Or.inr ⟨c_50, hw_56⟩⟩; rw [m_muN_s, if_pos hc]) | (have hc : (m_isU isI ma i ∧ (z1 = 0 ∨ ¬ sf i = -9) ∧ (z2 = 0 ∨ (sf i = -9 ∧ m_ubr br ma i))) := ⟨hw_15, Or.inr c_34, Or.inl c_38⟩; rw [m_muN_s, if_pos hc]) | (have hc : (m_isU isI ma i ∧ (z1 = 0 ∨ ¬ sf i = -9) ∧ (z2 = 0 ∨ (sf i = -9 ∧ m_ubr br ma i))) := ⟨hw_15, Or.inr c_34, Or.inr ⟨c_50, hw_56⟩⟩; rw [m_muN_s, if_pos hc])
              exact ih _ (by rw [← es0]; exact lv_sub hl [0, 1, 3, 4, 5] rfl)
            · refine lv_aload_n hx hb dX4_manyUnits_53 rfl (lv_at hl 2 rfl) ?_
              refine lv_iload hx hb dX4_manyUnits_54 (lv_at hl 0 rfl) ?_
              refine vp_callSi (rRV (As := [.int (nI i)]) (rest := []) ⟨hx, hb, hml, hown, hT⟩ (c_X4_isUnitBroke (l := l) i (by first | assumption | omega) (by first | assumption | omega)) (cwTV 1 hT kc_X4_isUnitBroke km_X4_116 ki_X4_isUnitBroke ks_X4_isUnitBroke kn_X4 rfl rfl md_X4_isUnitBroke ⟨Nat.le_of_ble_eq_true rfl, Nat.le_of_ble_eq_true rfl⟩) hP hK (va_recv hK hP (ci := 4) (q0 := 0) rfl rfl) rfl hl.1 rfl (Nat.le_of_ble_eq_true rfl) dX4_manyUnits_56 ⟨Nat.le_of_ble_eq_true rfl, Nat.le_of_ble_eq_true rfl⟩) (fun r_56 hw_56 => ?_)
              rcases hw_56 with ⟨rfl, hw_56⟩ | ⟨rfl, hw_56⟩
              · refine lv_if_eq (tgt := 66) hx hb dX4_manyUnits_59 (by decide) (fun h => absurd h (by decide)) (fun c_59 => ?_)
                refine lv_iconst (v := 1) hx hb dX4_manyUnits_62 (by decide) ?_
                refine lv_goto (tgt := 67) hx hb dX4_manyUnits_63 (by decide) ?_
                refine lv_istore (lv' := [(5, .int 1), (4, .int (nI i)), (3, .int (m_muN z1 z2 isI br ma sf i)), (0, .ref (k 0)), (1, .int z1), (2, .int z2)]) hx hb dX4_manyUnits_67 hl (by decide) rfl (fun ls hl => ?_)
                refine lv_iload_n hx hb dX4_manyUnits_69 rfl (lv_at hl 2 rfl) ?_
                refine lv_iload hx hb dX4_manyUnits_70 (lv_at hl 0 rfl) ?_
                refine lv_if_eq (tgt := 79) hx hb dX4_manyUnits_72 (by decide) (fun h => absurd h (by decide)) (fun c_72 => ?_)
                refine lv_iconst (v := 1) hx hb dX4_manyUnits_75 (by decide) ?_
                refine lv_goto (tgt := 80) hx hb dX4_manyUnits_76 (by decide) ?_
                refine lv_iadd hx hb dX4_manyUnits_80 ?_
                refine lv_istore_n (lv' := [(3, .int ((m_muN z1 z2 isI br ma sf i) + 1)), (5, .int 1), (4, .int (nI i)), (0, .ref (k 0)), (1, .int z1), (2, .int z2)]) hx hb dX4_manyUnits_81 rfl hl (by decide) rfl (fun ls hl => ?_)
                refine lv_iinc (v := (nI (i + 1))) (lv' := [(4, .int (nI (i + 1))), (3, .int ((m_muN z1 z2 isI br ma sf i) + 1)), (5, .int 1), (0, .ref (k 0)), (1, .int z1), (2, .int z2)]) hx hb dX4_manyUnits_82 hl (k := 2) rfl (nI_1 i) (by decide) rfl (fun ls hl => ?_)
                refine lv_goto (tgt := 5) hx hb dX4_manyUnits_85 (by decide) ?_
                have es0 : ((m_muN z1 z2 isI br ma sf i) + 1 : Int32) = (m_muN z1 z2 isI br ma sf (i + 1)) := by first | (have hc : ¬ (m_isU isI ma i ∧ (z1 = 0 ∨ ¬ sf i = -9) ∧ (z2 = 0 ∨ (sf i = -9 ∧ m_ubr br ma i))) := (fun h => hw_15 h.1); rw [m_muN_s, if_neg hc]) | (have hc : ¬ (m_isU isI ma i ∧ (z1 = 0 ∨ ¬ sf i = -9) ∧ (z2 = 0 ∨ (sf i = -9 ∧ m_ubr br ma i))) := (fun h => h.2.1.elim c_22 (fun h2 => h2 c_34)); rw [m_muN_s, if_neg hc]) | (have hc : ¬ (m_isU isI ma i ∧ (z1 = 0 ∨ ¬ sf i = -9) ∧ (z2 = 0 ∨ (sf i = -9 ∧ m_ubr br ma i))) := (fun h => h.2.2.elim c_38 (fun h2 => c_50 h2.1)); rw [m_muN_s, if_neg hc]) | (have hc : ¬ (m_isU isI ma i ∧ (z1 = 0 ∨ ¬ sf i = -9) ∧ (z2 = 0 ∨ (sf i = -9 ∧ m_ubr br ma i))) := (fun h => h.2.2.elim c_38 (fun h2 => hw_56 h2.2)); rw [m_muN_s, if_neg hc]) | (have hc : (m_isU isI ma i ∧ (z1 = 0 ∨ ¬ sf i = -9) ∧ (z2 = 0 ∨ (sf i = -9 ∧ m_ubr br ma i))) := ⟨hw_15, Or.inl c_22, Or.inl c_38⟩; rw [m_muN_s, if_pos hc]) | (have hc : (m_isU isI ma i ∧ (z1 = 0 ∨ ¬ sf i = -9) ∧ (z2 = 0 ∨ (sf i = -9 ∧ m_ubr br ma i))) := ⟨hw_15, Or.inl c_22, Or.inr ⟨c_50, hw_56⟩⟩; rw [m_muN_s, if_pos hc]) | (have hc : (m_isU isI ma i ∧ (z1 = 0 ∨ ¬ sf i = -9) ∧ (z2 = 0 ∨ (sf i = -9 ∧ m_ubr br ma i))) := ⟨hw_15, Or.inr c_34, Or.inl c_38⟩; rw [m_muN_s, if_pos hc]) | (have hc : (m_isU isI ma i ∧ (z1 = 0 ∨ ¬ sf i = -9) ∧ (z2 = 0 ∨ (sf i = -9 ∧ m_ubr br ma i))) := ⟨hw_15, Or.inr c_34, Or.inr ⟨c_50, hw_56⟩⟩; rw [m_muN_s, if_pos hc])
                exact ih _ (by rw [← es0]; exact lv_sub hl [0, 1, 3, 4, 5] rfl)
              · refine lv_if_eq (tgt := 66) hx hb dX4_manyUnits_59 (by decide) (fun c_59 => ?_) (fun h => absurd h (by decide))
                refine lv_iconst (v := 0) hx hb dX4_manyUnits_66 (by decide) ?_
                refine lv_istore (lv' := [(5, .int 0), (4, .int (nI i)), (3, .int (m_muN z1 z2 isI br ma sf i)), (0, .ref (k 0)), (1, .int z1), (2, .int z2)]) hx hb dX4_manyUnits_67 hl (by decide) rfl (fun ls hl => ?_)
                refine lv_iload_n hx hb dX4_manyUnits_69 rfl (lv_at hl 2 rfl) ?_
                refine lv_iload hx hb dX4_manyUnits_70 (lv_at hl 0 rfl) ?_
                refine lv_if_eq (tgt := 79) hx hb dX4_manyUnits_72 (by decide) (fun c_72 => ?_) (fun h => absurd h (by decide))
                refine lv_iconst (v := 0) hx hb dX4_manyUnits_79 (by decide) ?_
                refine lv_iadd hx hb dX4_manyUnits_80 ?_
                refine lv_istore_n (lv' := [(3, .int ((m_muN z1 z2 isI br ma sf i) + 0)), (5, .int 0), (4, .int (nI i)), (0, .ref (k 0)), (1, .int z1), (2, .int z2)]) hx hb dX4_manyUnits_81 rfl hl (by decide) rfl (fun ls hl => ?_)
                refine lv_iinc (v := (nI (i + 1))) (lv' := [(4, .int (nI (i + 1))), (3, .int ((m_muN z1 z2 isI br ma sf i) + 0)), (5, .int 0), (0, .ref (k 0)), (1, .int z1), (2, .int z2)]) hx hb dX4_manyUnits_82 hl (k := 2) rfl (nI_1 i) (by decide) rfl (fun ls hl => ?_)
                refine lv_goto (tgt := 5) hx hb dX4_manyUnits_85 (by decide) ?_
                have es0 : ((m_muN z1 z2 isI br ma sf i) + 0 : Int32) = (m_muN z1 z2 isI br ma sf (i + 1)) := by first | (have hc : ¬ (m_isU isI ma i ∧ (z1 = 0 ∨ ¬ sf i = -9) ∧ (z2 = 0 ∨ (sf i = -9 ∧ m_ubr br ma i))) := (fun h => hw_15 h.1); rw [m_muN_s, if_neg hc]) | (have hc : ¬ (m_isU isI ma i ∧ (z1 = 0 ∨ ¬ sf i = -9) ∧ (z2 = 0 ∨ (sf i = -9 ∧ m_ubr br ma i))) := (fun h => h.2.1.elim c_22 (fun h2 => h2 c_34)); rw [m_muN_s, if_neg hc]) | (have hc : ¬ (m_isU isI ma i ∧ (z1 = 0 ∨ ¬ sf i = -9) ∧ (z2 = 0 ∨ (sf i = -9 ∧ m_ubr br ma i))) := (fun h => h.2.2.elim c_38 (fun h2 => c_50 h2.1)); rw [m_muN_s, if_neg hc]) | (have hc : ¬ (m_isU isI ma i ∧ (z1 = 0 ∨ ¬ sf i = -9) ∧ (z2 = 0 ∨ (sf i = -9 ∧ m_ubr br ma i))) := (fun h => h.2.2.elim c_38 (fun h2 => hw_56 h2.2)); rw [m_muN_s, if_neg hc]) | (have hc : (m_isU isI ma i ∧ (z1 = 0 ∨ ¬ sf i = -9) ∧ (z2 = 0 ∨ (sf i = -9 ∧ m_ubr br ma i))) := ⟨hw_15, Or.inl c_22, Or.inl c_38⟩; rw [m_muN_s, if_pos hc]) | (have hc : (m_isU isI ma i ∧ (z1 = 0 ∨ ¬ sf i = -9) ∧ (z2 = 0 ∨ (sf i = -9 ∧ m_ubr br ma i))) := ⟨hw_15, Or.inl c_22, Or.inr ⟨c_50, hw_56⟩⟩; rw [m_muN_s, if_pos hc]) | (have hc : (m_isU isI ma i ∧ (z1 = 0 ∨ ¬ sf i = -9) ∧ (z2 = 0 ∨ (sf i = -9 ∧ m_ubr br ma i))) := ⟨hw_15, Or.inr c_34, Or.inl c_38⟩; rw [m_muN_s, if_pos hc]) | (have hc : (m_isU isI ma i ∧ (z1 = 0 ∨ ¬ sf i = -9) ∧ (z2 = 0 ∨ (sf i = -9 ∧ m_ubr br ma i))) := ⟨hw_15, Or.inr c_34, Or.inr ⟨c_50, hw_56⟩⟩; rw [m_muN_s, if_pos hc])
                exact ih _ (by rw [← es0]; exact lv_sub hl [0, 1, 3, 4, 5] rfl)
    · refine lv_if_eq (tgt := 66) hx hb dX4_manyUnits_18 (by decide) (fun c_18 => ?_) (fun h => absurd h (by decide))
      refine lv_iconst (v := 0) hx hb dX4_manyUnits_66 (by decide) ?_
      refine lv_istore (lv' := [(5, .int 0), (4, .int (nI i)), (3, .int (m_muN z1 z2 isI br ma sf i)), (0, .ref (k 0)), (1, .int z1), (2, .int z2)]) hx hb dX4_manyUnits_67 hl (by decide) rfl (fun ls hl => ?_)
      refine lv_iload_n hx hb dX4_manyUnits_69 rfl (lv_at hl 2 rfl) ?_
      refine lv_iload hx hb dX4_manyUnits_70 (lv_at hl 0 rfl) ?_
      refine lv_if_eq (tgt := 79) hx hb dX4_manyUnits_72 (by decide) (fun c_72 => ?_) (fun h => absurd h (by decide))
      refine lv_iconst (v := 0) hx hb dX4_manyUnits_79 (by decide) ?_
      refine lv_iadd hx hb dX4_manyUnits_80 ?_
      refine lv_istore_n (lv' := [(3, .int ((m_muN z1 z2 isI br ma sf i) + 0)), (5, .int 0), (4, .int (nI i)), (0, .ref (k 0)), (1, .int z1), (2, .int z2)]) hx hb dX4_manyUnits_81 rfl hl (by decide) rfl (fun ls hl => ?_)
      refine lv_iinc (v := (nI (i + 1))) (lv' := [(4, .int (nI (i + 1))), (3, .int ((m_muN z1 z2 isI br ma sf i) + 0)), (5, .int 0), (0, .ref (k 0)), (1, .int z1), (2, .int z2)]) hx hb dX4_manyUnits_82 hl (k := 2) rfl (nI_1 i) (by decide) rfl (fun ls hl => ?_)
      refine lv_goto (tgt := 5) hx hb dX4_manyUnits_85 (by decide) ?_
      have es0 : ((m_muN z1 z2 isI br ma sf i) + 0 : Int32) = (m_muN z1 z2 isI br ma sf (i + 1)) := by first | (have hc : ¬ (m_isU isI ma i ∧ (z1 = 0 ∨ ¬ sf i = -9) ∧ (z2 = 0 ∨ (sf i = -9 ∧ m_ubr br ma i))) := (fun h => hw_15 h.1); rw [m_muN_s, if_neg hc]) | (have hc : ¬ (m_isU isI ma i ∧ (z1 = 0 ∨ ¬ sf i = -9) ∧ (z2 = 0 ∨ (sf i = -9 ∧ m_ubr br ma i))) := (fun h => h.2.1.elim c_22 (fun h2 => h2 c_34)); rw [m_muN_s, if_neg hc]) | (have hc : ¬ (m_isU isI ma i ∧ (z1 = 0 ∨ ¬ sf i = -9) ∧ (z2 = 0 ∨ (sf i = -9 ∧ m_ubr br ma i))) := (fun h => h.2.2.elim c_38 (fun h2 => c_50 h2.1)); rw [m_muN_s, if_neg hc]) | (have hc : ¬ (m_isU isI ma i ∧ (z1 = 0 ∨ ¬ sf i = -9) ∧ (z2 = 0 ∨ (sf i = -9 ∧ m_ubr br ma i))) := (fun h => h.2.2.elim c_38 (fun h2 => hw_56 h2.2)); rw [m_muN_s, if_neg hc]) | (have hc : (m_isU isI ma i ∧ (z1 = 0 ∨ ¬ sf i = -9) ∧ (z2 = 0 ∨ (sf i = -9 ∧ m_ubr br ma i))) := ⟨hw_15, Or.inl c_22, Or.inl c_38⟩; rw [m_muN_s, if_pos hc]) | (have hc : (m_isU isI ma i ∧ (z1 = 0 ∨ ¬ sf i = -9) ∧ (z2 = 0 ∨ (sf i = -9 ∧ m_ubr br ma i))) := ⟨hw_15, Or.inl c_22, Or.inr ⟨c_50, hw_56⟩⟩; rw [m_muN_s, if_pos hc]) | (have hc : (m_isU isI ma i ∧ (z1 = 0 ∨ ¬ sf i = -9) ∧ (z2 = 0 ∨ (sf i = -9 ∧ m_ubr br ma i))) := ⟨hw_15, Or.inr c_34, Or.inl c_38⟩; rw [m_muN_s, if_pos hc]) | (have hc : (m_isU isI ma i ∧ (z1 = 0 ∨ ¬ sf i = -9) ∧ (z2 = 0 ∨ (sf i = -9 ∧ m_ubr br ma i))) := ⟨hw_15, Or.inr c_34, Or.inr ⟨c_50, hw_56⟩⟩; rw [m_muN_s, if_pos hc])
      exact ih _ (by rw [← es0]; exact lv_sub hl [0, 1, 3, 4, 5] rfl)
  · refine lv_iload hx hb dX4_manyUnits_5 (lv_at hl 0 rfl) ?_
    refine lv_bipush (v := 6) hx hb dX4_manyUnits_7 (by decide) ?_
    refine lv_icmp_ge (tgt := 88) hx hb dX4_manyUnits_9 (by decide) (fun c_9 => ?_) (fun h => absurd h (by decide))
    refine lv_iload_n hx hb dX4_manyUnits_88 rfl (lv_at hl 1 rfl) ?_
    exact retR_i hx hb hr hlocks rfl dX4_manyUnits_89
