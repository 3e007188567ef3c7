variable {l : Launch} {dC : Nat → ClassId} {dI : Nat → Nat → Nat} {cI cJ cZ : ClassId}
variable {q : Nat → Nat} {ln cw ic bs ss : Int32} {se we un sf pa : Nat → Int32}
variable {ct : Int32} {ov gf : Nat → Int64} {gi ta : Nat → Int32}
variable {k : Nat → Nat} {r : Rat} {up lo : Int64} {cn tm : Int32} {isI br ma : Nat → Int32} {aU aL uU uL oU oL gU gL : Nat → Int64}
set_option maxHeartbeats 4000000 in
set_option maxRecDepth 100000 in
theorem c_X4_ofWrong (v x : Int32) : Met l yX4_ofWrong (wT yX4_ofWrong cX4_ofWrong 3 (some .int)) ({ frames := 2, cells := 0, slots := 0, locals := 43 }) (pR (dC, dI) (ty3 cI cJ cZ) (mW cI cZ k up lo ln cn tm se isI we br ma sf pa) [.ref (k 0), .int v, .int x]) (vp_Si (fun r => xk (fun j => ¬ isI j = 0) v (r = -1) (fun j => (x = 0 ∧ r = we j) ∨ (x = 1 ∧ bp r (¬ br j = 0)) ∨ (x = 2 ∧ r = ma j) ∨ (x = 3 ∧ bp r (¬ sf j = -9)) ∨ (x = 4 ∧ r = sf j) ∨ (x = 5 ∧ r = pa j) ∨ ((x.toInt < 0 ∨ 5 < x.toInt) ∧ r = -2)))) 0 0 (fun _ => False) := by
  refine Met.ofW (cc := cX4_ofWrong) (maxL := 3) (ret := (some .int)) (by decide) rfl ?_
  intro p e s m args below meth c s₁ B hml hv
  obtain ⟨rfl, hP, hK⟩ := hv
  have hx := B.exec
  have hb := B.bytes
  have hr := B.returns
  have hts := atoms_spec (ws := wT yX4_ofWrong cX4_ofWrong 3 (some .int)) B.pre
  have hT := wT_T hts
  have hown : s.vm.findClass RX4 = some m.cls := findClass_of_methodNamed B.named
  have hlocks := B.notSynchronized
  have hl := lv_entry ([.ref (k 0), .int v, .int x]) (n := 3) (Nat.le_of_ble_eq_true rfl)
  rw [lg_entry_eq]
  generalize (lg_sl ([.ref (k 0), .int v, .int x]) ++ List.replicate (3 - (lg_sl ([.ref (k 0), .int v, .int x])).length) Slot.unset).toArray = ls at hl ⊢
  have hl : lv_has ls 3 [(0, .ref (k 0)), (1, .int v), (2, .int x)] := hl
  refine lv_aload_n hx hb dX4_ofWrong_0 rfl (lv_at hl 0 rfl) ?_
  refine lv_iload_n hx hb dX4_ofWrong_1 rfl (lv_at hl 1 rfl) ?_
  refine vp_callSi (rRV (As := [.int v]) (rest := []) ⟨hx, hb, hml, hown, hT⟩ (c_X4_isThere (l := l) v) (cwTV 1 hT kc_X4_isThere km_X4_98 ki_X4_isThere ks_X4_isThere kn_X4 rfl rfl md_X4_isThere ⟨Nat.le_of_ble_eq_true rfl, Nat.le_of_ble_eq_true rfl⟩) hP hK (va_recv hK hP (ci := 4) (q0 := 0) rfl rfl) rfl hl.1 rfl (Nat.le_of_ble_eq_true rfl) dX4_ofWrong_2 ⟨Nat.le_of_ble_eq_true rfl, Nat.le_of_ble_eq_true rfl⟩) (fun r_2 hw_2 => ?_)
  rcases hw_2 with ⟨rfl, hw_2⟩ | ⟨rfl, hw_2⟩
  · obtain ⟨j, hj, rfl, hbj⟩ := hw_2
    refine lv_if_ne (tgt := 10) hx hb dX4_ofWrong_5 (by decide) (fun c_5 => ?_) (fun h => absurd h (by decide))
    refine lv_iload_n hx hb dX4_ofWrong_10 rfl (lv_at hl 2 rfl) ?_
    rcases sw_5 x with h_11 | h_11 | h_11 | h_11 | h_11 | h_11 | h_11
    · refine lv_tableOut (tgt := 108) hx hb dX4_ofWrong_11 h_11 (by decide) ?_
      refine lv_bipush (v := (-2)) hx hb dX4_ofWrong_108 (by decide) ?_
      exact retR_i hx hb hr hlocks (by first | exact Or.inr ⟨hw_2, rfl⟩ | (refine Or.inl ⟨j, hj, rfl, hbj, ?_⟩; first | exact Or.inl ⟨h_11, rfl⟩ | exact Or.inr (Or.inl ⟨h_11, Or.inr ⟨rfl, fun h => h c_61⟩⟩) | exact Or.inr (Or.inl ⟨h_11, Or.inl ⟨rfl, c_61⟩⟩) | exact Or.inr (Or.inr (Or.inl ⟨h_11, rfl⟩)) | exact Or.inr (Or.inr (Or.inr (Or.inl ⟨h_11, Or.inr ⟨rfl, fun h => h c_85⟩⟩))) | exact Or.inr (Or.inr (Or.inr (Or.inl ⟨h_11, Or.inl ⟨rfl, c_85⟩⟩))) | exact Or.inr (Or.inr (Or.inr (Or.inr (Or.inl ⟨h_11, rfl⟩)))) | exact Or.inr (Or.inr (Or.inr (Or.inr (Or.inr (Or.inl ⟨h_11, rfl⟩))))) | exact Or.inr (Or.inr (Or.inr (Or.inr (Or.inr (Or.inr ⟨h_11, rfl⟩))))))) dX4_ofWrong_110
    · refine lv_tableIn (tgt := 48) (off := 37) hx hb dX4_ofWrong_11 (by rw [h_11]; decide) (by rw [h_11]; decide) (by rw [h_11]; rfl) (by decide) ?_
      refine lv_aload_n hx hb dX4_ofWrong_48 rfl (lv_at hl 0 rfl) ?_
      refine va_get (D := (dC, dI)) (ci := 4) (v := .ref (k 3)) (C := RX4) (T := TX4) (N := 22) hx hb hT hiX4 hown hK hP 0 rfl rfl 6 (by decide) (hT _ kf_X4_21) (fun _ h9 => h9) rfl dX4_ofWrong_49 ?_
      refine lv_iload_n hx hb dX4_ofWrong_52 rfl (lv_at hl 1 rfl) ?_
      refine ald_i hx hb hK hP 3 0 rfl rfl (by decide) (w := j) rfl (by omega) dX4_ofWrong_53 ?_
      exact retR_i hx hb hr hlocks (by first | exact Or.inr ⟨hw_2, rfl⟩ | (refine Or.inl ⟨j, hj, rfl, hbj, ?_⟩; first | exact Or.inl ⟨h_11, rfl⟩ | exact Or.inr (Or.inl ⟨h_11, Or.inr ⟨rfl, fun h => h c_61⟩⟩) | exact Or.inr (Or.inl ⟨h_11, Or.inl ⟨rfl, c_61⟩⟩) | exact Or.inr (Or.inr (Or.inl ⟨h_11, rfl⟩)) | exact Or.inr (Or.inr (Or.inr (Or.inl ⟨h_11, Or.inr ⟨rfl, fun h => h c_85⟩⟩))) | exact Or.inr (Or.inr (Or.inr (Or.inl ⟨h_11, Or.inl ⟨rfl, c_85⟩⟩))) | exact Or.inr (Or.inr (Or.inr (Or.inr (Or.inl ⟨h_11, rfl⟩)))) | exact Or.inr (Or.inr (Or.inr (Or.inr (Or.inr (Or.inl ⟨h_11, rfl⟩))))) | exact Or.inr (Or.inr (Or.inr (Or.inr (Or.inr (Or.inr ⟨h_11, rfl⟩))))))) dX4_ofWrong_54
    · refine lv_tableIn (tgt := 55) (off := 44) hx hb dX4_ofWrong_11 (by rw [h_11]; decide) (by rw [h_11]; decide) (by rw [h_11]; rfl) (by decide) ?_
      refine lv_aload_n hx hb dX4_ofWrong_55 rfl (lv_at hl 0 rfl) ?_
      refine va_get (D := (dC, dI)) (ci := 4) (v := .ref (k 4)) (C := RX4) (T := TX4) (N := 22) hx hb hT hiX4 hown hK hP 0 rfl rfl 7 (by decide) (hT _ kf_X4_24) (fun _ h9 => h9) rfl dX4_ofWrong_56 ?_
      refine lv_iload_n hx hb dX4_ofWrong_59 rfl (lv_at hl 1 rfl) ?_
      refine ald_z hx hb hK hP 4 2 rfl rfl (by decide) (w := j) rfl (by omega) dX4_ofWrong_60 ?_
      refine lv_if_eq (tgt := 68) hx hb dX4_ofWrong_61 (by decide) (fun c_61 => ?_) (fun c_61 => ?_)
      · refine lv_iconst (v := 0) hx hb dX4_ofWrong_68 (by decide) ?_
        exact retR_i hx hb hr hlocks (by first | exact Or.inr ⟨hw_2, rfl⟩ | (refine Or.inl ⟨j, hj, rfl, hbj, ?_⟩; first | exact Or.inl ⟨h_11, rfl⟩ | exact Or.inr (Or.inl ⟨h_11, Or.inr ⟨rfl, fun h => h c_61⟩⟩) | exact Or.inr (Or.inl ⟨h_11, Or.inl ⟨rfl, c_61⟩⟩) | exact Or.inr (Or.inr (Or.inl ⟨h_11, rfl⟩)) | exact Or.inr (Or.inr (Or.inr (Or.inl ⟨h_11, Or.inr ⟨rfl, fun h => h c_85⟩⟩))) | exact Or.inr (Or.inr (Or.inr (Or.inl ⟨h_11, Or.inl ⟨rfl, c_85⟩⟩))) | exact Or.inr (Or.inr (Or.inr (Or.inr (Or.inl ⟨h_11, rfl⟩)))) | exact Or.inr (Or.inr (Or.inr (Or.inr (Or.inr (Or.inl ⟨h_11, rfl⟩))))) | exact Or.inr (Or.inr (Or.inr (Or.inr (Or.inr (Or.inr ⟨h_11, rfl⟩))))))) dX4_ofWrong_69
      · refine lv_iconst (v := 1) hx hb dX4_ofWrong_64 (by decide) ?_
        refine lv_goto (tgt := 69) hx hb dX4_ofWrong_65 (by decide) ?_
        exact retR_i hx hb hr hlocks (by first | exact Or.inr ⟨hw_2, rfl⟩ | (refine Or.inl ⟨j, hj, rfl, hbj, ?_⟩; first | exact Or.inl ⟨h_11, rfl⟩ | exact Or.inr (Or.inl ⟨h_11, Or.inr ⟨rfl, fun h => h c_61⟩⟩) | exact Or.inr (Or.inl ⟨h_11, Or.inl ⟨rfl, c_61⟩⟩) | exact Or.inr (Or.inr (Or.inl ⟨h_11, rfl⟩)) | exact Or.inr (Or.inr (Or.inr (Or.inl ⟨h_11, Or.inr ⟨rfl, fun h => h c_85⟩⟩))) | exact Or.inr (Or.inr (Or.inr (Or.inl ⟨h_11, Or.inl ⟨rfl, c_85⟩⟩))) | exact Or.inr (Or.inr (Or.inr (Or.inr (Or.inl ⟨h_11, rfl⟩)))) | exact Or.inr (Or.inr (Or.inr (Or.inr (Or.inr (Or.inl ⟨h_11, rfl⟩))))) | exact Or.inr (Or.inr (Or.inr (Or.inr (Or.inr (Or.inr ⟨h_11, rfl⟩))))))) dX4_ofWrong_69
    · refine lv_tableIn (tgt := 70) (off := 59) hx hb dX4_ofWrong_11 (by rw [h_11]; decide) (by rw [h_11]; decide) (by rw [h_11]; rfl) (by decide) ?_
      refine lv_aload_n hx hb dX4_ofWrong_70 rfl (lv_at hl 0 rfl) ?_
      refine va_get (D := (dC, dI)) (ci := 4) (v := .ref (k 5)) (C := RX4) (T := TX4) (N := 22) hx hb hT hiX4 hown hK hP 0 rfl rfl 8 (by decide) (hT _ kf_X4_27) (fun _ h9 => h9) rfl dX4_ofWrong_71 ?_
      refine lv_iload_n hx hb dX4_ofWrong_74 rfl (lv_at hl 1 rfl) ?_
      refine ald_i hx hb hK hP 5 0 rfl rfl (by decide) (w := j) rfl (by omega) dX4_ofWrong_75 ?_
      exact retR_i hx hb hr hlocks (by first | exact Or.inr ⟨hw_2, rfl⟩ | (refine Or.inl ⟨j, hj, rfl, hbj, ?_⟩; first | exact Or.inl ⟨h_11, rfl⟩ | exact Or.inr (Or.inl ⟨h_11, Or.inr ⟨rfl, fun h => h c_61⟩⟩) | exact Or.inr (Or.inl ⟨h_11, Or.inl ⟨rfl, c_61⟩⟩) | exact Or.inr (Or.inr (Or.inl ⟨h_11, rfl⟩)) | exact Or.inr (Or.inr (Or.inr (Or.inl ⟨h_11, Or.inr ⟨rfl, fun h => h c_85⟩⟩))) | exact Or.inr (Or.inr (Or.inr (Or.inl ⟨h_11, Or.inl ⟨rfl, c_85⟩⟩))) | exact Or.inr (Or.inr (Or.inr (Or.inr (Or.inl ⟨h_11, rfl⟩)))) | exact Or.inr (Or.inr (Or.inr (Or.inr (Or.inr (Or.inl ⟨h_11, rfl⟩))))) | exact Or.inr (Or.inr (Or.inr (Or.inr (Or.inr (Or.inr ⟨h_11, rfl⟩))))))) dX4_ofWrong_76
    · refine lv_tableIn (tgt := 77) (off := 66) hx hb dX4_ofWrong_11 (by rw [h_11]; decide) (by rw [h_11]; decide) (by rw [h_11]; rfl) (by decide) ?_
      refine lv_aload_n hx hb dX4_ofWrong_77 rfl (lv_at hl 0 rfl) ?_
      refine va_get (D := (dC, dI)) (ci := 4) (v := .ref (k 6)) (C := RX4) (T := TX4) (N := 22) hx hb hT hiX4 hown hK hP 0 rfl rfl 9 (by decide) (hT _ kf_X4_30) (fun _ h9 => h9) rfl dX4_ofWrong_78 ?_
      refine lv_iload_n hx hb dX4_ofWrong_81 rfl (lv_at hl 1 rfl) ?_
      refine ald_i hx hb hK hP 6 0 rfl rfl (by decide) (w := j) rfl (by omega) dX4_ofWrong_82 ?_
      refine lv_bipush (v := (-9)) hx hb dX4_ofWrong_83 (by decide) ?_
      refine lv_icmp_eq (tgt := 92) hx hb dX4_ofWrong_85 (by decide) (fun c_85 => ?_) (fun c_85 => ?_)
      · refine lv_iconst (v := 0) hx hb dX4_ofWrong_92 (by decide) ?_
        exact retR_i hx hb hr hlocks (by first | exact Or.inr ⟨hw_2, rfl⟩ | (refine Or.inl ⟨j, hj, rfl, hbj, ?_⟩; first | exact Or.inl ⟨h_11, rfl⟩ | exact Or.inr (Or.inl ⟨h_11, Or.inr ⟨rfl, fun h => h c_61⟩⟩) | exact Or.inr (Or.inl ⟨h_11, Or.inl ⟨rfl, c_61⟩⟩) | exact Or.inr (Or.inr (Or.inl ⟨h_11, rfl⟩)) | exact Or.inr (Or.inr (Or.inr (Or.inl ⟨h_11, Or.inr ⟨rfl, fun h => h c_85⟩⟩))) | exact Or.inr (Or.inr (Or.inr (Or.inl ⟨h_11, Or.inl ⟨rfl, c_85⟩⟩))) | exact Or.inr (Or.inr (Or.inr (Or.inr (Or.inl ⟨h_11, rfl⟩)))) | exact Or.inr (Or.inr (Or.inr (Or.inr (Or.inr (Or.inl ⟨h_11, rfl⟩))))) | exact Or.inr (Or.inr (Or.inr (Or.inr (Or.inr (Or.inr ⟨h_11, rfl⟩))))))) dX4_ofWrong_93
      · refine lv_iconst (v := 1) hx hb dX4_ofWrong_88 (by decide) ?_
        refine lv_goto (tgt := 93) hx hb dX4_ofWrong_89 (by decide) ?_
        exact retR_i hx hb hr hlocks (by first | exact Or.inr ⟨hw_2, rfl⟩ | (refine Or.inl ⟨j, hj, rfl, hbj, ?_⟩; first | exact Or.inl ⟨h_11, rfl⟩ | exact Or.inr (Or.inl ⟨h_11, Or.inr ⟨rfl, fun h => h c_61⟩⟩) | exact Or.inr (Or.inl ⟨h_11, Or.inl ⟨rfl, c_61⟩⟩) | exact Or.inr (Or.inr (Or.inl ⟨h_11, rfl⟩)) | exact Or.inr (Or.inr (Or.inr (Or.inl ⟨h_11, Or.inr ⟨rfl, fun h => h c_85⟩⟩))) | exact Or.inr (Or.inr (Or.inr (Or.inl ⟨h_11, Or.inl ⟨rfl, c_85⟩⟩))) | exact Or.inr (Or.inr (Or.inr (Or.inr (Or.inl ⟨h_11, rfl⟩)))) | exact Or.inr (Or.inr (Or.inr (Or.inr (Or.inr (Or.inl ⟨h_11, rfl⟩))))) | exact Or.inr (Or.inr (Or.inr (Or.inr (Or.inr (Or.inr ⟨h_11, rfl⟩))))))) dX4_ofWrong_93
    · refine lv_tableIn (tgt := 94) (off := 83) hx hb dX4_ofWrong_11 (by rw [h_11]; decide) (by rw [h_11]; decide) (by rw [h_11]; rfl) (by decide) ?_
      refine lv_aload_n hx hb dX4_ofWrong_94 rfl (lv_at hl 0 rfl) ?_
      refine va_get (D := (dC, dI)) (ci := 4) (v := .ref (k 6)) (C := RX4) (T := TX4) (N := 22) hx hb hT hiX4 hown hK hP 0 rfl rfl 9 (by decide) (hT _ kf_X4_30) (fun _ h9 => h9) rfl dX4_ofWrong_95 ?_
      refine lv_iload_n hx hb dX4_ofWrong_98 rfl (lv_at hl 1 rfl) ?_
      refine ald_i hx hb hK hP 6 0 rfl rfl (by decide) (w := j) rfl (by omega) dX4_ofWrong_99 ?_
      exact retR_i hx hb hr hlocks (by first | exact Or.inr ⟨hw_2, rfl⟩ | (refine Or.inl ⟨j, hj, rfl, hbj, ?_⟩; first | exact Or.inl ⟨h_11, rfl⟩ | exact Or.inr (Or.inl ⟨h_11, Or.inr ⟨rfl, fun h => h c_61⟩⟩) | exact Or.inr (Or.inl ⟨h_11, Or.inl ⟨rfl, c_61⟩⟩) | exact Or.inr (Or.inr (Or.inl ⟨h_11, rfl⟩)) | exact Or.inr (Or.inr (Or.inr (Or.inl ⟨h_11, Or.inr ⟨rfl, fun h => h c_85⟩⟩))) | exact Or.inr (Or.inr (Or.inr (Or.inl ⟨h_11, Or.inl ⟨rfl, c_85⟩⟩))) | exact Or.inr (Or.inr (Or.inr (Or.inr (Or.inl ⟨h_11, rfl⟩)))) | exact Or.inr (Or.inr (Or.inr (Or.inr (Or.inr (Or.inl ⟨h_11, rfl⟩))))) | exact Or.inr (Or.inr (Or.inr (Or.inr (Or.inr (Or.inr ⟨h_11, rfl⟩))))))) dX4_ofWrong_100
    · refine lv_tableIn (tgt := 101) (off := 90) hx hb dX4_ofWrong_11 (by rw [h_11]; decide) (by rw [h_11]; decide) (by rw [h_11]; rfl) (by decide) ?_
      refine lv_aload_n hx hb dX4_ofWrong_101 rfl (lv_at hl 0 rfl) ?_
      refine va_get (D := (dC, dI)) (ci := 4) (v := .ref (k 7)) (C := RX4) (T := TX4) (N := 22) hx hb hT hiX4 hown hK hP 0 rfl rfl 10 (by decide) (hT _ kf_X4_33) (fun _ h9 => h9) rfl dX4_ofWrong_102 ?_
      refine lv_iload_n hx hb dX4_ofWrong_105 rfl (lv_at hl 1 rfl) ?_
      refine ald_i hx hb hK hP 7 0 rfl rfl (by decide) (w := j) rfl (by omega) dX4_ofWrong_106 ?_
      exact retR_i hx hb hr hlocks (by first | exact Or.inr ⟨hw_2, rfl⟩ | (refine Or.inl ⟨j, hj, rfl, hbj, ?_⟩; first | exact Or.inl ⟨h_11, rfl⟩ | exact Or.inr (Or.inl ⟨h_11, Or.inr ⟨rfl, fun h => h c_61⟩⟩) | exact Or.inr (Or.inl ⟨h_11, Or.inl ⟨rfl, c_61⟩⟩) | exact Or.inr (Or.inr (Or.inl ⟨h_11, rfl⟩)) | exact Or.inr (Or.inr (Or.inr (Or.inl ⟨h_11, Or.inr ⟨rfl, fun h => h c_85⟩⟩))) | exact Or.inr (Or.inr (Or.inr (Or.inl ⟨h_11, Or.inl ⟨rfl, c_85⟩⟩))) | exact Or.inr (Or.inr (Or.inr (Or.inr (Or.inl ⟨h_11, rfl⟩)))) | exact Or.inr (Or.inr (Or.inr (Or.inr (Or.inr (Or.inl ⟨h_11, rfl⟩))))) | exact Or.inr (Or.inr (Or.inr (Or.inr (Or.inr (Or.inr ⟨h_11, rfl⟩))))))) dX4_ofWrong_107
  · refine lv_if_ne (tgt := 10) hx hb dX4_ofWrong_5 (by decide) (fun h => absurd h (by decide)) (fun c_5 => ?_)
    refine lv_iconst (v := (-1)) hx hb dX4_ofWrong_8 (by decide) ?_
    exact retR_i hx hb hr hlocks (by first | exact Or.inr ⟨hw_2, rfl⟩ | (refine Or.inl ⟨j, hj, rfl, hbj, ?_⟩; first | exact Or.inl ⟨h_11, rfl⟩ | exact Or.inr (Or.inl ⟨h_11, Or.inr ⟨rfl, fun h => h c_61⟩⟩) | exact Or.inr (Or.inl ⟨h_11, Or.inl ⟨rfl, c_61⟩⟩) | exact Or.inr (Or.inr (Or.inl ⟨h_11, rfl⟩)) | exact Or.inr (Or.inr (Or.inr (Or.inl ⟨h_11, Or.inr ⟨rfl, fun h => h c_85⟩⟩))) | exact Or.inr (Or.inr (Or.inr (Or.inl ⟨h_11, Or.inl ⟨rfl, c_85⟩⟩))) | exact Or.inr (Or.inr (Or.inr (Or.inr (Or.inl ⟨h_11, rfl⟩)))) | exact Or.inr (Or.inr (Or.inr (Or.inr (Or.inr (Or.inl ⟨h_11, rfl⟩))))) | exact Or.inr (Or.inr (Or.inr (Or.inr (Or.inr (Or.inr ⟨h_11, rfl⟩))))))) dX4_ofWrong_9
set_option maxHeartbeats 4000000 in
set_option maxRecDepth 100000 in
theorem c_X4_many (x : Int32) (hm : mok ma) : Met l yX4_many (wT yX4_many cX4_many 2 (some .int)) ({ frames := 2, cells := 0, slots := 0, locals := 46 }) (pR (dC, dI) (ty3 cI cJ cZ) (mW cI cZ k up lo ln cn tm se isI we br ma sf pa) [.ref (k 0), .int x]) (vp_Si (fun r => (x = 0 ∧ r = m_inN isI 6) ∨ (x = 1 ∧ r = m_muN 0 0 isI br ma sf 6) ∨ (x = 2 ∧ r = m_muN 1 0 isI br ma sf 6) ∨ (x = 3 ∧ r = m_muN 0 1 isI br ma sf 6) ∨ (x = 4 ∧ r = m_blN cn isI we 6) ∨ (x = 5 ∧ r = (m_paN pa 6).toInt32) ∨ ((x.toInt < 0 ∨ 5 < x.toInt) ∧ r = -2))) 0 0 (fun _ => False) := by
  refine Met.ofW (cc := cX4_many) (maxL := 2) (ret := (some .int)) (by decide) rfl ?_
  intro p e s m args below meth c s₁ B hml hv
  obtain ⟨rfl, hP, hK⟩ := hv
  have hx := B.exec
  have hb := B.bytes
  have hr := B.returns
  have hts := atoms_spec (ws := wT yX4_many cX4_many 2 (some .int)) B.pre
  have hT := wT_T hts
  have hown : s.vm.findClass RX4 = some m.cls := findClass_of_methodNamed B.named
  have hlocks := B.notSynchronized
  have hl := lv_entry ([.ref (k 0), .int x]) (n := 2) (Nat.le_of_ble_eq_true rfl)
  rw [lg_entry_eq]
  generalize (lg_sl ([.ref (k 0), .int x]) ++ List.replicate (2 - (lg_sl ([.ref (k 0), .int x])).length) Slot.unset).toArray = ls at hl ⊢
  have hl : lv_has ls 2 [(0, .ref (k 0)), (1, .int x)] := hl
  refine lv_iload_n hx hb dX4_many_0 rfl (lv_at hl 1 rfl) ?_
  rcases sw_5 x with h_1 | h_1 | h_1 | h_1 | h_1 | h_1 | h_1
  · refine lv_tableOut (tgt := 77) hx hb dX4_many_1 h_1 (by decide) ?_
    refine lv_bipush (v := (-2)) hx hb dX4_many_77 (by decide) ?_
    exact retR_i hx hb hr hlocks (by first | exact Or.inl ⟨h_1, rfl⟩ | exact Or.inr (Or.inl ⟨h_1, rfl⟩) | exact Or.inr (Or.inr (Or.inl ⟨h_1, rfl⟩)) | exact Or.inr (Or.inr (Or.inr (Or.inl ⟨h_1, rfl⟩))) | exact Or.inr (Or.inr (Or.inr (Or.inr (Or.inl ⟨h_1, rfl⟩)))) | exact Or.inr (Or.inr (Or.inr (Or.inr (Or.inr (Or.inl ⟨h_1, rfl⟩))))) | exact Or.inr (Or.inr (Or.inr (Or.inr (Or.inr (Or.inr ⟨h_1, rfl⟩)))))) dX4_many_79
  · refine lv_tableIn (tgt := 40) (off := 39) hx hb dX4_many_1 (by rw [h_1]; decide) (by rw [h_1]; decide) (by rw [h_1]; rfl) (by decide) ?_
    refine lv_aload_n hx hb dX4_many_40 rfl (lv_at hl 0 rfl) ?_
    refine vp_callSi (rRV (As := []) (rest := []) ⟨hx, hb, hml, hown, hT⟩ (c_X4_manyIn (l := l) ) (cwTV 0 hT kc_X4_manyIn km_X4_94 ki_X4_manyIn ks_X4_manyIn kn_X4 rfl rfl md_X4_manyIn ⟨Nat.le_of_ble_eq_true rfl, Nat.le_of_ble_eq_true rfl⟩) hP hK (va_recv hK hP (ci := 4) (q0 := 0) rfl rfl) rfl hl.1 rfl (Nat.le_of_ble_eq_true rfl) dX4_many_41 ⟨Nat.le_of_ble_eq_true rfl, Nat.le_of_ble_eq_true rfl⟩) (fun r_41 hw_41 => ?_)
    subst hw_41
    exact retR_i hx hb hr hlocks (by first | exact Or.inl ⟨h_1, rfl⟩ | exact Or.inr (Or.inl ⟨h_1, rfl⟩) | exact Or.inr (Or.inr (Or.inl ⟨h_1, rfl⟩)) | exact Or.inr (Or.inr (Or.inr (Or.inl ⟨h_1, rfl⟩))) | exact Or.inr (Or.inr (Or.inr (Or.inr (Or.inl ⟨h_1, rfl⟩)))) | exact Or.inr (Or.inr (Or.inr (Or.inr (Or.inr (Or.inl ⟨h_1, rfl⟩))))) | exact Or.inr (Or.inr (Or.inr (Or.inr (Or.inr (Or.inr ⟨h_1, rfl⟩)))))) dX4_many_44
  · refine lv_tableIn (tgt := 45) (off := 44) hx hb dX4_many_1 (by rw [h_1]; decide) (by rw [h_1]; decide) (by rw [h_1]; rfl) (by decide) ?_
    refine lv_aload_n hx hb dX4_many_45 rfl (lv_at hl 0 rfl) ?_
    refine lv_iconst (v := 0) hx hb dX4_many_46 (by decide) ?_
    refine lv_iconst (v := 0) hx hb dX4_many_47 (by decide) ?_
    refine vp_callSi (rRV (As := [.int 0, .int 0]) (rest := []) ⟨hx, hb, hml, hown, hT⟩ (c_X4_manyUnits (l := l) 0 0 hm) (cwTV 2 hT kc_X4_manyUnits km_X4_197 ki_X4_manyUnits ks_X4_manyUnits kn_X4 rfl rfl md_X4_manyUnits ⟨Nat.le_of_ble_eq_true rfl, Nat.le_of_ble_eq_true rfl⟩) hP hK (va_recv hK hP (ci := 4) (q0 := 0) rfl rfl) rfl hl.1 rfl (Nat.le_of_ble_eq_true rfl) dX4_many_48 ⟨Nat.le_of_ble_eq_true rfl, Nat.le_of_ble_eq_true rfl⟩) (fun r_48 hw_48 => ?_)
    subst hw_48
    exact retR_i hx hb hr hlocks (by first | exact Or.inl ⟨h_1, rfl⟩ | exact Or.inr (Or.inl ⟨h_1, rfl⟩) | exact Or.inr (Or.inr (Or.inl ⟨h_1, rfl⟩)) | exact Or.inr (Or.inr (Or.inr (Or.inl ⟨h_1, rfl⟩))) | exact Or.inr (Or.inr (Or.inr (Or.inr (Or.inl ⟨h_1, rfl⟩)))) | exact Or.inr (Or.inr (Or.inr (Or.inr (Or.inr (Or.inl ⟨h_1, rfl⟩))))) | exact Or.inr (Or.inr (Or.inr (Or.inr (Or.inr (Or.inr ⟨h_1, rfl⟩)))))) dX4_many_51
  · refine lv_tableIn (tgt := 52) (off := 51) hx hb dX4_many_1 (by rw [h_1]; decide) (by rw [h_1]; decide) (by rw [h_1]; rfl) (by decide) ?_
    refine lv_aload_n hx hb dX4_many_52 rfl (lv_at hl 0 rfl) ?_
    refine lv_iconst (v := 1) hx hb dX4_many_53 (by decide) ?_
    refine lv_iconst (v := 0) hx hb dX4_many_54 (by decide) ?_
    refine vp_callSi (rRV (As := [.int 1, .int 0]) (rest := []) ⟨hx, hb, hml, hown, hT⟩ (c_X4_manyUnits (l := l) 1 0 hm) (cwTV 2 hT kc_X4_manyUnits km_X4_197 ki_X4_manyUnits ks_X4_manyUnits kn_X4 rfl rfl md_X4_manyUnits ⟨Nat.le_of_ble_eq_true rfl, Nat.le_of_ble_eq_true rfl⟩) hP hK (va_recv hK hP (ci := 4) (q0 := 0) rfl rfl) rfl hl.1 rfl (Nat.le_of_ble_eq_true rfl) dX4_many_55 ⟨Nat.le_of_ble_eq_true rfl, Nat.le_of_ble_eq_true rfl⟩) (fun r_55 hw_55 => ?_)
    subst hw_55
    exact retR_i hx hb hr hlocks (by first | exact Or.inl ⟨h_1, rfl⟩ | exact Or.inr (Or.inl ⟨h_1, rfl⟩) | exact Or.inr (Or.inr (Or.inl ⟨h_1, rfl⟩)) | exact Or.inr (Or.inr (Or.inr (Or.inl ⟨h_1, rfl⟩))) | exact Or.inr (Or.inr (Or.inr (Or.inr (Or.inl ⟨h_1, rfl⟩)))) | exact Or.inr (Or.inr (Or.inr (Or.inr (Or.inr (Or.inl ⟨h_1, rfl⟩))))) | exact Or.inr (Or.inr (Or.inr (Or.inr (Or.inr (Or.inr ⟨h_1, rfl⟩)))))) dX4_many_58
  · refine lv_tableIn (tgt := 59) (off := 58) hx hb dX4_many_1 (by rw [h_1]; decide) (by rw [h_1]; decide) (by rw [h_1]; rfl) (by decide) ?_
    refine lv_aload_n hx hb dX4_many_59 rfl (lv_at hl 0 rfl) ?_
    refine lv_iconst (v := 0) hx hb dX4_many_60 (by decide) ?_
    refine lv_iconst (v := 1) hx hb dX4_many_61 (by decide) ?_
    refine vp_callSi (rRV (As := [.int 0, .int 1]) (rest := []) ⟨hx, hb, hml, hown, hT⟩ (c_X4_manyUnits (l := l) 0 1 hm) (cwTV 2 hT kc_X4_manyUnits km_X4_197 ki_X4_manyUnits ks_X4_manyUnits kn_X4 rfl rfl md_X4_manyUnits ⟨Nat.le_of_ble_eq_true rfl, Nat.le_of_ble_eq_true rfl⟩) hP hK (va_recv hK hP (ci := 4) (q0 := 0) rfl rfl) rfl hl.1 rfl (Nat.le_of_ble_eq_true rfl) dX4_many_62 ⟨Nat.le_of_ble_eq_true rfl, Nat.le_of_ble_eq_true rfl⟩) (fun r_62 hw_62 => ?_)
    subst hw_62
    exact retR_i hx hb hr hlocks (by first | exact Or.inl ⟨h_1, rfl⟩ | exact Or.inr (Or.inl ⟨h_1, rfl⟩) | exact Or.inr (Or.inr (Or.inl ⟨h_1, rfl⟩)) | exact Or.inr (Or.inr (Or.inr (Or.inl ⟨h_1, rfl⟩))) | exact Or.inr (Or.inr (Or.inr (Or.inr (Or.inl ⟨h_1, rfl⟩)))) | exact Or.inr (Or.inr (Or.inr (Or.inr (Or.inr (Or.inl ⟨h_1, rfl⟩))))) | exact Or.inr (Or.inr (Or.inr (Or.inr (Or.inr (Or.inr ⟨h_1, rfl⟩)))))) dX4_many_65
  · refine lv_tableIn (tgt := 66) (off := 65) hx hb dX4_many_1 (by rw [h_1]; decide) (by rw [h_1]; decide) (by rw [h_1]; rfl) (by decide) ?_
    refine lv_aload_n hx hb dX4_many_66 rfl (lv_at hl 0 rfl) ?_
    refine vp_callSi (rRV (As := []) (rest := []) ⟨hx, hb, hml, hown, hT⟩ (c_X4_blame (l := l) ) (cwTV 0 hT kc_X4_blame km_X4_106 ki_X4_blame ks_X4_blame kn_X4 rfl rfl md_X4_blame ⟨Nat.le_of_ble_eq_true rfl, Nat.le_of_ble_eq_true rfl⟩) hP hK (va_recv hK hP (ci := 4) (q0 := 0) rfl rfl) rfl hl.1 rfl (Nat.le_of_ble_eq_true rfl) dX4_many_67 ⟨Nat.le_of_ble_eq_true rfl, Nat.le_of_ble_eq_true rfl⟩) (fun r_67 hw_67 => ?_)
    subst hw_67
    exact retR_i hx hb hr hlocks (by first | exact Or.inl ⟨h_1, rfl⟩ | exact Or.inr (Or.inl ⟨h_1, rfl⟩) | exact Or.inr (Or.inr (Or.inl ⟨h_1, rfl⟩)) | exact Or.inr (Or.inr (Or.inr (Or.inl ⟨h_1, rfl⟩))) | exact Or.inr (Or.inr (Or.inr (Or.inr (Or.inl ⟨h_1, rfl⟩)))) | exact Or.inr (Or.inr (Or.inr (Or.inr (Or.inr (Or.inl ⟨h_1, rfl⟩))))) | exact Or.inr (Or.inr (Or.inr (Or.inr (Or.inr (Or.inr ⟨h_1, rfl⟩)))))) dX4_many_70
  · refine lv_tableIn (tgt := 71) (off := 70) hx hb dX4_many_1 (by rw [h_1]; decide) (by rw [h_1]; decide) (by rw [h_1]; rfl) (by decide) ?_
    refine lv_aload_n hx hb dX4_many_71 rfl (lv_at hl 0 rfl) ?_
    refine vp_callSl (rRV (As := []) (rest := []) ⟨hx, hb, hml, hown, hT⟩ (c_X4_paidAll (l := l) ) (cwTV 0 hT kc_X4_paidAll km_X4_175 ki_X4_paidAll ks_X4_paidAll kn_X4 rfl rfl md_X4_paidAll ⟨Nat.le_of_ble_eq_true rfl, Nat.le_of_ble_eq_true rfl⟩) hP hK (va_recv hK hP (ci := 4) (q0 := 0) rfl rfl) rfl hl.1 rfl (Nat.le_of_ble_eq_true rfl) dX4_many_72 ⟨Nat.le_of_ble_eq_true rfl, Nat.le_of_ble_eq_true rfl⟩) (fun r_72 hw_72 => ?_)
    subst hw_72
    refine lv_l2i hx hb dX4_many_75 rfl ?_
    exact retR_i hx hb hr hlocks (by first | exact Or.inl ⟨h_1, rfl⟩ | exact Or.inr (Or.inl ⟨h_1, rfl⟩) | exact Or.inr (Or.inr (Or.inl ⟨h_1, rfl⟩)) | exact Or.inr (Or.inr (Or.inr (Or.inl ⟨h_1, rfl⟩))) | exact Or.inr (Or.inr (Or.inr (Or.inr (Or.inl ⟨h_1, rfl⟩)))) | exact Or.inr (Or.inr (Or.inr (Or.inr (Or.inr (Or.inl ⟨h_1, rfl⟩))))) | exact Or.inr (Or.inr (Or.inr (Or.inr (Or.inr (Or.inr ⟨h_1, rfl⟩)))))) dX4_many_76
