variable {l : Launch} {dC : Nat → ClassId} {dI : Nat → Nat → Nat} {cI cJ cZ : ClassId}
variable {q : Nat → Nat} {ln cw ic bs ss : Int32} {se we un sf pa : Nat → Int32}
variable {ct : Int32} {ov gf : Nat → Int64} {gi ta : Nat → Int32}
variable {k : Nat → Nat} {up lo : Int64} {cn tm : Int32} {isI br ma : Nat → Int32} {aU aL uU uL oU oL gU gL : Nat → Int64}
set_option maxHeartbeats 4000000 in
set_option maxRecDepth 100000 in
theorem c_X3_ofWrong (v x : Int32) : Met l yX3_ofWrong (wT yX3_ofWrong cX3_ofWrong 3 (some .int)) ({ frames := 2, cells := 0, slots := 0, locals := 42 }) (pR (dC, dI) (ty3 cI cJ cZ) (xW cI q ln cw ic bs ss se we un sf pa) [.ref (q 0), .int v, .int x]) (vp_Si (fun r => xk (fun j => bt ic j = true) v (r = -1) (fun j => (x = 0 ∧ r = we j) ∨ (x = 1 ∧ bp r (bt bs j = true)) ∨ (x = 2 ∧ ((∃ w, w < 6 ∧ r = nI w ∧ bt (un j &&& (x_bit j ^^^ (-1))) w = true ∧ ∀ i, i < w → ¬ bt (un j &&& (x_bit j ^^^ (-1))) i = true) ∨ (r = -9 ∧ ∀ i, i < 6 → ¬ bt (un j &&& (x_bit j ^^^ (-1))) i = true))) ∨ (x = 3 ∧ bp r (bt ss j = true)) ∨ (x = 4 ∧ ((bt ss j = true ∧ r = sf j) ∨ (¬ bt ss j = true ∧ r = -9))) ∨ (x = 5 ∧ r = pa j) ∨ ((x.toInt < 0 ∨ 5 < x.toInt) ∧ r = -2)))) 0 0 (fun _ => False) := by
  refine Met.ofW (cc := cX3_ofWrong) (maxL := 3) (ret := (some .int)) (by decide) rfl ?_
  intro p e s m args below meth c s₁ B hml hv
  obtain ⟨rfl, hP, hK⟩ := hv
  have hx := B.exec
  have hb := B.bytes
  have hr := B.returns
  have hts := atoms_spec (ws := wT yX3_ofWrong cX3_ofWrong 3 (some .int)) B.pre
  have hT := wT_T hts
  have hown : s.vm.findClass RX3 = some m.cls := findClass_of_methodNamed B.named
  have hlocks := B.notSynchronized
  have hl := lv_entry ([.ref (q 0), .int v, .int x]) (n := 3) (Nat.le_of_ble_eq_true rfl)
  rw [lg_entry_eq]
  generalize (lg_sl ([.ref (q 0), .int v, .int x]) ++ List.replicate (3 - (lg_sl ([.ref (q 0), .int v, .int x])).length) Slot.unset).toArray = ls at hl ⊢
  have hl : lv_has ls 3 [(0, .ref (q 0)), (1, .int v), (2, .int x)] := hl
  refine lv_aload_n hx hb dX3_ofWrong_0 rfl (lv_at hl 0 rfl) ?_
  refine lv_iload_n hx hb dX3_ofWrong_1 rfl (lv_at hl 1 rfl) ?_
  refine vp_callSi (rRV (As := [.int v]) (rest := []) ⟨hx, hb, hml, hown, hT⟩ (c_X3_isKnown (l := l) v) (cwTV 1 hT kc_X3_isKnown km_X3_57 ki_X3_isKnown ks_X3_isKnown kn_X3 rfl rfl md_X3_isKnown ⟨Nat.le_of_ble_eq_true rfl, Nat.le_of_ble_eq_true rfl⟩) hP hK (va_recv hK hP (ci := 3) (q0 := 0) rfl rfl) rfl hl.1 rfl (Nat.le_of_ble_eq_true rfl) dX3_ofWrong_2 ⟨Nat.le_of_ble_eq_true rfl, Nat.le_of_ble_eq_true rfl⟩) (fun r_2 hw_2 => ?_)
  rcases hw_2 with ⟨rfl, hw_2⟩ | ⟨rfl, hw_2⟩
  · obtain ⟨j, hj, rfl, hbj⟩ := hw_2
    refine lv_if_ne (tgt := 10) hx hb dX3_ofWrong_5 (by decide) (fun c_5 => ?_) (fun h => absurd h (by decide))
    refine lv_iload_n hx hb dX3_ofWrong_10 rfl (lv_at hl 2 rfl) ?_
    rcases sw_5 x with h_11 | h_11 | h_11 | h_11 | h_11 | h_11 | h_11
    · refine lv_tableOut (tgt := 136) hx hb dX3_ofWrong_11 h_11 (by decide) ?_
      refine lv_bipush (v := (-2)) hx hb dX3_ofWrong_136 (by decide) ?_
      exact retR_i hx hb hr hlocks (by first | exact Or.inr ⟨hw_2, rfl⟩ | (refine Or.inl ⟨j, hj, rfl, hbj, ?_⟩; first | exact Or.inl ⟨h_11, rfl⟩ | exact Or.inr (Or.inl ⟨h_11, Or.inl ⟨rfl, hw_60⟩⟩) | exact Or.inr (Or.inl ⟨h_11, Or.inr ⟨rfl, hw_60⟩⟩) | exact Or.inr (Or.inr (Or.inl ⟨h_11, hw_85⟩)) | exact Or.inr (Or.inr (Or.inr (Or.inl ⟨h_11, Or.inl ⟨rfl, hw_94⟩⟩))) | exact Or.inr (Or.inr (Or.inr (Or.inl ⟨h_11, Or.inr ⟨rfl, hw_94⟩⟩))) | exact Or.inr (Or.inr (Or.inr (Or.inr (Or.inl ⟨h_11, Or.inl ⟨hw_111, rfl⟩⟩)))) | exact Or.inr (Or.inr (Or.inr (Or.inr (Or.inl ⟨h_11, Or.inr ⟨hw_111, rfl⟩⟩)))) | exact Or.inr (Or.inr (Or.inr (Or.inr (Or.inr (Or.inl ⟨h_11, rfl⟩))))) | exact Or.inr (Or.inr (Or.inr (Or.inr (Or.inr (Or.inr ⟨h_11, rfl⟩))))))) dX3_ofWrong_138
    · refine lv_tableIn (tgt := 48) (off := 37) hx hb dX3_ofWrong_11 (by rw [h_11]; decide) (by rw [h_11]; decide) (by rw [h_11]; rfl) (by decide) ?_
      refine lv_aload_n hx hb dX3_ofWrong_48 rfl (lv_at hl 0 rfl) ?_
      refine va_get (D := (dC, dI)) (ci := 3) (v := .ref (q 2)) (C := RX3) (T := TX3) (N := 11) hx hb hT hiX3 hown hK hP 0 rfl rfl 6 (by decide) (hT _ kf_X3_15) (fun _ h9 => h9) rfl dX3_ofWrong_49 ?_
      refine lv_iload_n hx hb dX3_ofWrong_52 rfl (lv_at hl 1 rfl) ?_
      refine ald_i hx hb hK hP 2 0 rfl rfl (by decide) (w := j) rfl (by omega) dX3_ofWrong_53 ?_
      exact retR_i hx hb hr hlocks (by first | exact Or.inr ⟨hw_2, rfl⟩ | (refine Or.inl ⟨j, hj, rfl, hbj, ?_⟩; first | exact Or.inl ⟨h_11, rfl⟩ | exact Or.inr (Or.inl ⟨h_11, Or.inl ⟨rfl, hw_60⟩⟩) | exact Or.inr (Or.inl ⟨h_11, Or.inr ⟨rfl, hw_60⟩⟩) | exact Or.inr (Or.inr (Or.inl ⟨h_11, hw_85⟩)) | exact Or.inr (Or.inr (Or.inr (Or.inl ⟨h_11, Or.inl ⟨rfl, hw_94⟩⟩))) | exact Or.inr (Or.inr (Or.inr (Or.inl ⟨h_11, Or.inr ⟨rfl, hw_94⟩⟩))) | exact Or.inr (Or.inr (Or.inr (Or.inr (Or.inl ⟨h_11, Or.inl ⟨hw_111, rfl⟩⟩)))) | exact Or.inr (Or.inr (Or.inr (Or.inr (Or.inl ⟨h_11, Or.inr ⟨hw_111, rfl⟩⟩)))) | exact Or.inr (Or.inr (Or.inr (Or.inr (Or.inr (Or.inl ⟨h_11, rfl⟩))))) | exact Or.inr (Or.inr (Or.inr (Or.inr (Or.inr (Or.inr ⟨h_11, rfl⟩))))))) dX3_ofWrong_54
    · refine lv_tableIn (tgt := 55) (off := 44) hx hb dX3_ofWrong_11 (by rw [h_11]; decide) (by rw [h_11]; decide) (by rw [h_11]; rfl) (by decide) ?_
      refine lv_aload_n hx hb dX3_ofWrong_55 rfl (lv_at hl 0 rfl) ?_
      refine va_get (D := (dC, dI)) (ci := 3) (v := .int bs) (C := RX3) (T := TX3) (N := 11) hx hb hT hiX3 hown hK hP 0 rfl rfl 4 (by decide) (hT _ kf_X3_68) (fun _ h9 => h9) rfl dX3_ofWrong_56 ?_
      refine lv_iload_n hx hb dX3_ofWrong_59 rfl (lv_at hl 1 rfl) ?_
      refine vp_callSi (rRS (As := [.int bs, .int (nI j)]) (rest := []) ⟨hx, hb, hml, hown, hT⟩ (c_X3_has (l := l) bs j (by first | assumption | omega)) (cwTS 2 hT kc_X3_has km_X3_49 kt_X3_has kn_X3 rfl rfl md_X3_has ⟨Nat.le_of_ble_eq_true rfl, Nat.le_of_ble_eq_true rfl⟩) nilP hK  rfl hl.1 rfl (Nat.le_of_ble_eq_true rfl) dX3_ofWrong_60 ⟨Nat.le_of_ble_eq_true rfl, Nat.le_of_ble_eq_true rfl⟩) (fun r_60 hw_60 => ?_)
      rcases hw_60 with ⟨rfl, hw_60⟩ | ⟨rfl, hw_60⟩
      · refine lv_if_eq (tgt := 70) hx hb dX3_ofWrong_63 (by decide) (fun h => absurd h (by decide)) (fun c_63 => ?_)
        refine lv_iconst (v := 1) hx hb dX3_ofWrong_66 (by decide) ?_
        refine lv_goto (tgt := 71) hx hb dX3_ofWrong_67 (by decide) ?_
        exact retR_i hx hb hr hlocks (by first | exact Or.inr ⟨hw_2, rfl⟩ | (refine Or.inl ⟨j, hj, rfl, hbj, ?_⟩; first | exact Or.inl ⟨h_11, rfl⟩ | exact Or.inr (Or.inl ⟨h_11, Or.inl ⟨rfl, hw_60⟩⟩) | exact Or.inr (Or.inl ⟨h_11, Or.inr ⟨rfl, hw_60⟩⟩) | exact Or.inr (Or.inr (Or.inl ⟨h_11, hw_85⟩)) | exact Or.inr (Or.inr (Or.inr (Or.inl ⟨h_11, Or.inl ⟨rfl, hw_94⟩⟩))) | exact Or.inr (Or.inr (Or.inr (Or.inl ⟨h_11, Or.inr ⟨rfl, hw_94⟩⟩))) | exact Or.inr (Or.inr (Or.inr (Or.inr (Or.inl ⟨h_11, Or.inl ⟨hw_111, rfl⟩⟩)))) | exact Or.inr (Or.inr (Or.inr (Or.inr (Or.inl ⟨h_11, Or.inr ⟨hw_111, rfl⟩⟩)))) | exact Or.inr (Or.inr (Or.inr (Or.inr (Or.inr (Or.inl ⟨h_11, rfl⟩))))) | exact Or.inr (Or.inr (Or.inr (Or.inr (Or.inr (Or.inr ⟨h_11, rfl⟩))))))) dX3_ofWrong_71
      · refine lv_if_eq (tgt := 70) hx hb dX3_ofWrong_63 (by decide) (fun c_63 => ?_) (fun h => absurd h (by decide))
        refine lv_iconst (v := 0) hx hb dX3_ofWrong_70 (by decide) ?_
        exact retR_i hx hb hr hlocks (by first | exact Or.inr ⟨hw_2, rfl⟩ | (refine Or.inl ⟨j, hj, rfl, hbj, ?_⟩; first | exact Or.inl ⟨h_11, rfl⟩ | exact Or.inr (Or.inl ⟨h_11, Or.inl ⟨rfl, hw_60⟩⟩) | exact Or.inr (Or.inl ⟨h_11, Or.inr ⟨rfl, hw_60⟩⟩) | exact Or.inr (Or.inr (Or.inl ⟨h_11, hw_85⟩)) | exact Or.inr (Or.inr (Or.inr (Or.inl ⟨h_11, Or.inl ⟨rfl, hw_94⟩⟩))) | exact Or.inr (Or.inr (Or.inr (Or.inl ⟨h_11, Or.inr ⟨rfl, hw_94⟩⟩))) | exact Or.inr (Or.inr (Or.inr (Or.inr (Or.inl ⟨h_11, Or.inl ⟨hw_111, rfl⟩⟩)))) | exact Or.inr (Or.inr (Or.inr (Or.inr (Or.inl ⟨h_11, Or.inr ⟨hw_111, rfl⟩⟩)))) | exact Or.inr (Or.inr (Or.inr (Or.inr (Or.inr (Or.inl ⟨h_11, rfl⟩))))) | exact Or.inr (Or.inr (Or.inr (Or.inr (Or.inr (Or.inr ⟨h_11, rfl⟩))))))) dX3_ofWrong_71
    · refine lv_tableIn (tgt := 72) (off := 61) hx hb dX3_ofWrong_11 (by rw [h_11]; decide) (by rw [h_11]; decide) (by rw [h_11]; rfl) (by decide) ?_
      refine lv_aload_n hx hb dX3_ofWrong_72 rfl (lv_at hl 0 rfl) ?_
      refine va_get (D := (dC, dI)) (ci := 3) (v := .ref (q 3)) (C := RX3) (T := TX3) (N := 11) hx hb hT hiX3 hown hK hP 0 rfl rfl 7 (by decide) (hT _ kf_X3_18) (fun _ h9 => h9) rfl dX3_ofWrong_73 ?_
      refine lv_iload_n hx hb dX3_ofWrong_76 rfl (lv_at hl 1 rfl) ?_
      refine ald_i hx hb hK hP 3 0 rfl rfl (by decide) (w := j) rfl (by omega) dX3_ofWrong_77 ?_
      refine lv_iload_n hx hb dX3_ofWrong_78 rfl (lv_at hl 1 rfl) ?_
      refine vp_callSi (rRS (As := [.int (nI j)]) (rest := [.int (un j)]) ⟨hx, hb, hml, hown, hT⟩ (c_X3_bit (l := l) j) (cwTS 1 hT kc_X3_bit km_X3_53 kt_X3_bit kn_X3 rfl rfl md_X3_bit ⟨Nat.le_of_ble_eq_true rfl, Nat.le_of_ble_eq_true rfl⟩) nilP hK  rfl hl.1 rfl (Nat.le_of_ble_eq_true rfl) dX3_ofWrong_79 ⟨Nat.le_of_ble_eq_true rfl, Nat.le_of_ble_eq_true rfl⟩) (fun r_79 hw_79 => ?_)
      subst hw_79
      refine lv_iconst (v := (-1)) hx hb dX3_ofWrong_82 (by decide) ?_
      refine lv_ixor hx hb dX3_ofWrong_83 ?_
      refine lv_iand hx hb dX3_ofWrong_84 ?_
      refine vp_callSi (rRS (As := [.int ((un j) &&& ((x_bit j) ^^^ (-1)))]) (rest := []) ⟨hx, hb, hml, hown, hT⟩ (c_X3_firstOf (l := l) ((un j) &&& ((x_bit j) ^^^ (-1)))) (cwTS 1 hT kc_X3_firstOf km_X3_93 kt_X3_firstOf kn_X3 rfl rfl md_X3_firstOf ⟨Nat.le_of_ble_eq_true rfl, Nat.le_of_ble_eq_true rfl⟩) nilP hK  rfl hl.1 rfl (Nat.le_of_ble_eq_true rfl) dX3_ofWrong_85 ⟨Nat.le_of_ble_eq_true rfl, Nat.le_of_ble_eq_true rfl⟩) (fun r_85 hw_85 => ?_)
      exact retR_i hx hb hr hlocks (by first | exact Or.inr ⟨hw_2, rfl⟩ | (refine Or.inl ⟨j, hj, rfl, hbj, ?_⟩; first | exact Or.inl ⟨h_11, rfl⟩ | exact Or.inr (Or.inl ⟨h_11, Or.inl ⟨rfl, hw_60⟩⟩) | exact Or.inr (Or.inl ⟨h_11, Or.inr ⟨rfl, hw_60⟩⟩) | exact Or.inr (Or.inr (Or.inl ⟨h_11, hw_85⟩)) | exact Or.inr (Or.inr (Or.inr (Or.inl ⟨h_11, Or.inl ⟨rfl, hw_94⟩⟩))) | exact Or.inr (Or.inr (Or.inr (Or.inl ⟨h_11, Or.inr ⟨rfl, hw_94⟩⟩))) | exact Or.inr (Or.inr (Or.inr (Or.inr (Or.inl ⟨h_11, Or.inl ⟨hw_111, rfl⟩⟩)))) | exact Or.inr (Or.inr (Or.inr (Or.inr (Or.inl ⟨h_11, Or.inr ⟨hw_111, rfl⟩⟩)))) | exact Or.inr (Or.inr (Or.inr (Or.inr (Or.inr (Or.inl ⟨h_11, rfl⟩))))) | exact Or.inr (Or.inr (Or.inr (Or.inr (Or.inr (Or.inr ⟨h_11, rfl⟩))))))) dX3_ofWrong_88
    · refine lv_tableIn (tgt := 89) (off := 78) hx hb dX3_ofWrong_11 (by rw [h_11]; decide) (by rw [h_11]; decide) (by rw [h_11]; rfl) (by decide) ?_
      refine lv_aload_n hx hb dX3_ofWrong_89 rfl (lv_at hl 0 rfl) ?_
      refine va_get (D := (dC, dI)) (ci := 3) (v := .int ss) (C := RX3) (T := TX3) (N := 11) hx hb hT hiX3 hown hK hP 0 rfl rfl 5 (by decide) (hT _ kf_X3_79) (fun _ h9 => h9) rfl dX3_ofWrong_90 ?_
      refine lv_iload_n hx hb dX3_ofWrong_93 rfl (lv_at hl 1 rfl) ?_
      refine vp_callSi (rRS (As := [.int ss, .int (nI j)]) (rest := []) ⟨hx, hb, hml, hown, hT⟩ (c_X3_has (l := l) ss j (by first | assumption | omega)) (cwTS 2 hT kc_X3_has km_X3_49 kt_X3_has kn_X3 rfl rfl md_X3_has ⟨Nat.le_of_ble_eq_true rfl, Nat.le_of_ble_eq_true rfl⟩) nilP hK  rfl hl.1 rfl (Nat.le_of_ble_eq_true rfl) dX3_ofWrong_94 ⟨Nat.le_of_ble_eq_true rfl, Nat.le_of_ble_eq_true rfl⟩) (fun r_94 hw_94 => ?_)
      rcases hw_94 with ⟨rfl, hw_94⟩ | ⟨rfl, hw_94⟩
      · refine lv_if_eq (tgt := 104) hx hb dX3_ofWrong_97 (by decide) (fun h => absurd h (by decide)) (fun c_97 => ?_)
        refine lv_iconst (v := 1) hx hb dX3_ofWrong_100 (by decide) ?_
        refine lv_goto (tgt := 105) hx hb dX3_ofWrong_101 (by decide) ?_
        exact retR_i hx hb hr hlocks (by first | exact Or.inr ⟨hw_2, rfl⟩ | (refine Or.inl ⟨j, hj, rfl, hbj, ?_⟩; first | exact Or.inl ⟨h_11, rfl⟩ | exact Or.inr (Or.inl ⟨h_11, Or.inl ⟨rfl, hw_60⟩⟩) | exact Or.inr (Or.inl ⟨h_11, Or.inr ⟨rfl, hw_60⟩⟩) | exact Or.inr (Or.inr (Or.inl ⟨h_11, hw_85⟩)) | exact Or.inr (Or.inr (Or.inr (Or.inl ⟨h_11, Or.inl ⟨rfl, hw_94⟩⟩))) | exact Or.inr (Or.inr (Or.inr (Or.inl ⟨h_11, Or.inr ⟨rfl, hw_94⟩⟩))) | exact Or.inr (Or.inr (Or.inr (Or.inr (Or.inl ⟨h_11, Or.inl ⟨hw_111, rfl⟩⟩)))) | exact Or.inr (Or.inr (Or.inr (Or.inr (Or.inl ⟨h_11, Or.inr ⟨hw_111, rfl⟩⟩)))) | exact Or.inr (Or.inr (Or.inr (Or.inr (Or.inr (Or.inl ⟨h_11, rfl⟩))))) | exact Or.inr (Or.inr (Or.inr (Or.inr (Or.inr (Or.inr ⟨h_11, rfl⟩))))))) dX3_ofWrong_105
      · refine lv_if_eq (tgt := 104) hx hb dX3_ofWrong_97 (by decide) (fun c_97 => ?_) (fun h => absurd h (by decide))
        refine lv_iconst (v := 0) hx hb dX3_ofWrong_104 (by decide) ?_
        exact retR_i hx hb hr hlocks (by first | exact Or.inr ⟨hw_2, rfl⟩ | (refine Or.inl ⟨j, hj, rfl, hbj, ?_⟩; first | exact Or.inl ⟨h_11, rfl⟩ | exact Or.inr (Or.inl ⟨h_11, Or.inl ⟨rfl, hw_60⟩⟩) | exact Or.inr (Or.inl ⟨h_11, Or.inr ⟨rfl, hw_60⟩⟩) | exact Or.inr (Or.inr (Or.inl ⟨h_11, hw_85⟩)) | exact Or.inr (Or.inr (Or.inr (Or.inl ⟨h_11, Or.inl ⟨rfl, hw_94⟩⟩))) | exact Or.inr (Or.inr (Or.inr (Or.inl ⟨h_11, Or.inr ⟨rfl, hw_94⟩⟩))) | exact Or.inr (Or.inr (Or.inr (Or.inr (Or.inl ⟨h_11, Or.inl ⟨hw_111, rfl⟩⟩)))) | exact Or.inr (Or.inr (Or.inr (Or.inr (Or.inl ⟨h_11, Or.inr ⟨hw_111, rfl⟩⟩)))) | exact Or.inr (Or.inr (Or.inr (Or.inr (Or.inr (Or.inl ⟨h_11, rfl⟩))))) | exact Or.inr (Or.inr (Or.inr (Or.inr (Or.inr (Or.inr ⟨h_11, rfl⟩))))))) dX3_ofWrong_105
    · refine lv_tableIn (tgt := 106) (off := 95) hx hb dX3_ofWrong_11 (by rw [h_11]; decide) (by rw [h_11]; decide) (by rw [h_11]; rfl) (by decide) ?_
      refine lv_aload_n hx hb dX3_ofWrong_106 rfl (lv_at hl 0 rfl) ?_
      refine va_get (D := (dC, dI)) (ci := 3) (v := .int ss) (C := RX3) (T := TX3) (N := 11) hx hb hT hiX3 hown hK hP 0 rfl rfl 5 (by decide) (hT _ kf_X3_79) (fun _ h9 => h9) rfl dX3_ofWrong_107 ?_
      refine lv_iload_n hx hb dX3_ofWrong_110 rfl (lv_at hl 1 rfl) ?_
      refine vp_callSi (rRS (As := [.int ss, .int (nI j)]) (rest := []) ⟨hx, hb, hml, hown, hT⟩ (c_X3_has (l := l) ss j (by first | assumption | omega)) (cwTS 2 hT kc_X3_has km_X3_49 kt_X3_has kn_X3 rfl rfl md_X3_has ⟨Nat.le_of_ble_eq_true rfl, Nat.le_of_ble_eq_true rfl⟩) nilP hK  rfl hl.1 rfl (Nat.le_of_ble_eq_true rfl) dX3_ofWrong_111 ⟨Nat.le_of_ble_eq_true rfl, Nat.le_of_ble_eq_true rfl⟩) (fun r_111 hw_111 => ?_)
      rcases hw_111 with ⟨rfl, hw_111⟩ | ⟨rfl, hw_111⟩
      · refine lv_if_eq (tgt := 126) hx hb dX3_ofWrong_114 (by decide) (fun h => absurd h (by decide)) (fun c_114 => ?_)
        refine lv_aload_n hx hb dX3_ofWrong_117 rfl (lv_at hl 0 rfl) ?_
        refine va_get (D := (dC, dI)) (ci := 3) (v := .ref (q 4)) (C := RX3) (T := TX3) (N := 11) hx hb hT hiX3 hown hK hP 0 rfl rfl 8 (by decide) (hT _ kf_X3_21) (fun _ h9 => h9) rfl dX3_ofWrong_118 ?_
        refine lv_iload_n hx hb dX3_ofWrong_121 rfl (lv_at hl 1 rfl) ?_
        refine ald_i hx hb hK hP 4 0 rfl rfl (by decide) (w := j) rfl (by omega) dX3_ofWrong_122 ?_
        refine lv_goto (tgt := 128) hx hb dX3_ofWrong_123 (by decide) ?_
        exact retR_i hx hb hr hlocks (by first | exact Or.inr ⟨hw_2, rfl⟩ | (refine Or.inl ⟨j, hj, rfl, hbj, ?_⟩; first | exact Or.inl ⟨h_11, rfl⟩ | exact Or.inr (Or.inl ⟨h_11, Or.inl ⟨rfl, hw_60⟩⟩) | exact Or.inr (Or.inl ⟨h_11, Or.inr ⟨rfl, hw_60⟩⟩) | exact Or.inr (Or.inr (Or.inl ⟨h_11, hw_85⟩)) | exact Or.inr (Or.inr (Or.inr (Or.inl ⟨h_11, Or.inl ⟨rfl, hw_94⟩⟩))) | exact Or.inr (Or.inr (Or.inr (Or.inl ⟨h_11, Or.inr ⟨rfl, hw_94⟩⟩))) | exact Or.inr (Or.inr (Or.inr (Or.inr (Or.inl ⟨h_11, Or.inl ⟨hw_111, rfl⟩⟩)))) | exact Or.inr (Or.inr (Or.inr (Or.inr (Or.inl ⟨h_11, Or.inr ⟨hw_111, rfl⟩⟩)))) | exact Or.inr (Or.inr (Or.inr (Or.inr (Or.inr (Or.inl ⟨h_11, rfl⟩))))) | exact Or.inr (Or.inr (Or.inr (Or.inr (Or.inr (Or.inr ⟨h_11, rfl⟩))))))) dX3_ofWrong_128
      · refine lv_if_eq (tgt := 126) hx hb dX3_ofWrong_114 (by decide) (fun c_114 => ?_) (fun h => absurd h (by decide))
        refine lv_bipush (v := (-9)) hx hb dX3_ofWrong_126 (by decide) ?_
        exact retR_i hx hb hr hlocks (by first | exact Or.inr ⟨hw_2, rfl⟩ | (refine Or.inl ⟨j, hj, rfl, hbj, ?_⟩; first | exact Or.inl ⟨h_11, rfl⟩ | exact Or.inr (Or.inl ⟨h_11, Or.inl ⟨rfl, hw_60⟩⟩) | exact Or.inr (Or.inl ⟨h_11, Or.inr ⟨rfl, hw_60⟩⟩) | exact Or.inr (Or.inr (Or.inl ⟨h_11, hw_85⟩)) | exact Or.inr (Or.inr (Or.inr (Or.inl ⟨h_11, Or.inl ⟨rfl, hw_94⟩⟩))) | exact Or.inr (Or.inr (Or.inr (Or.inl ⟨h_11, Or.inr ⟨rfl, hw_94⟩⟩))) | exact Or.inr (Or.inr (Or.inr (Or.inr (Or.inl ⟨h_11, Or.inl ⟨hw_111, rfl⟩⟩)))) | exact Or.inr (Or.inr (Or.inr (Or.inr (Or.inl ⟨h_11, Or.inr ⟨hw_111, rfl⟩⟩)))) | exact Or.inr (Or.inr (Or.inr (Or.inr (Or.inr (Or.inl ⟨h_11, rfl⟩))))) | exact Or.inr (Or.inr (Or.inr (Or.inr (Or.inr (Or.inr ⟨h_11, rfl⟩))))))) dX3_ofWrong_128
    · refine lv_tableIn (tgt := 129) (off := 118) hx hb dX3_ofWrong_11 (by rw [h_11]; decide) (by rw [h_11]; decide) (by rw [h_11]; rfl) (by decide) ?_
      refine lv_aload_n hx hb dX3_ofWrong_129 rfl (lv_at hl 0 rfl) ?_
      refine va_get (D := (dC, dI)) (ci := 3) (v := .ref (q 5)) (C := RX3) (T := TX3) (N := 11) hx hb hT hiX3 hown hK hP 0 rfl rfl 9 (by decide) (hT _ kf_X3_24) (fun _ h9 => h9) rfl dX3_ofWrong_130 ?_
      refine lv_iload_n hx hb dX3_ofWrong_133 rfl (lv_at hl 1 rfl) ?_
      refine ald_i hx hb hK hP 5 0 rfl rfl (by decide) (w := j) rfl (by omega) dX3_ofWrong_134 ?_
      exact retR_i hx hb hr hlocks (by first | exact Or.inr ⟨hw_2, rfl⟩ | (refine Or.inl ⟨j, hj, rfl, hbj, ?_⟩; first | exact Or.inl ⟨h_11, rfl⟩ | exact Or.inr (Or.inl ⟨h_11, Or.inl ⟨rfl, hw_60⟩⟩) | exact Or.inr (Or.inl ⟨h_11, Or.inr ⟨rfl, hw_60⟩⟩) | exact Or.inr (Or.inr (Or.inl ⟨h_11, hw_85⟩)) | exact Or.inr (Or.inr (Or.inr (Or.inl ⟨h_11, Or.inl ⟨rfl, hw_94⟩⟩))) | exact Or.inr (Or.inr (Or.inr (Or.inl ⟨h_11, Or.inr ⟨rfl, hw_94⟩⟩))) | exact Or.inr (Or.inr (Or.inr (Or.inr (Or.inl ⟨h_11, Or.inl ⟨hw_111, rfl⟩⟩)))) | exact Or.inr (Or.inr (Or.inr (Or.inr (Or.inl ⟨h_11, Or.inr ⟨hw_111, rfl⟩⟩)))) | exact Or.inr (Or.inr (Or.inr (Or.inr (Or.inr (Or.inl ⟨h_11, rfl⟩))))) | exact Or.inr (Or.inr (Or.inr (Or.inr (Or.inr (Or.inr ⟨h_11, rfl⟩))))))) dX3_ofWrong_135
  · refine lv_if_ne (tgt := 10) hx hb dX3_ofWrong_5 (by decide) (fun h => absurd h (by decide)) (fun c_5 => ?_)
    refine lv_iconst (v := (-1)) hx hb dX3_ofWrong_8 (by decide) ?_
    exact retR_i hx hb hr hlocks (by first | exact Or.inr ⟨hw_2, rfl⟩ | (refine Or.inl ⟨j, hj, rfl, hbj, ?_⟩; first | exact Or.inl ⟨h_11, rfl⟩ | exact Or.inr (Or.inl ⟨h_11, Or.inl ⟨rfl, hw_60⟩⟩) | exact Or.inr (Or.inl ⟨h_11, Or.inr ⟨rfl, hw_60⟩⟩) | exact Or.inr (Or.inr (Or.inl ⟨h_11, hw_85⟩)) | exact Or.inr (Or.inr (Or.inr (Or.inl ⟨h_11, Or.inl ⟨rfl, hw_94⟩⟩))) | exact Or.inr (Or.inr (Or.inr (Or.inl ⟨h_11, Or.inr ⟨rfl, hw_94⟩⟩))) | exact Or.inr (Or.inr (Or.inr (Or.inr (Or.inl ⟨h_11, Or.inl ⟨hw_111, rfl⟩⟩)))) | exact Or.inr (Or.inr (Or.inr (Or.inr (Or.inl ⟨h_11, Or.inr ⟨hw_111, rfl⟩⟩)))) | exact Or.inr (Or.inr (Or.inr (Or.inr (Or.inr (Or.inl ⟨h_11, rfl⟩))))) | exact Or.inr (Or.inr (Or.inr (Or.inr (Or.inr (Or.inr ⟨h_11, rfl⟩))))))) dX3_ofWrong_9
set_option maxHeartbeats 4000000 in
set_option maxRecDepth 100000 in
theorem c_X3_many (x : Int32) : Met l yX3_many (wT yX3_many cX3_many 2 (some .int)) ({ frames := 3, cells := 0, slots := 0, locals := 64 }) (pR (dC, dI) (ty3 cI cJ cZ) (xW cI q ln cw ic bs ss se we un sf pa) [.ref (q 0), .int x]) (vp_Si (fun r => (x = 0 ∧ r = x_pc ic) ∨ (x = 1 ∧ r = x_pc (x_headsN ic un 6)) ∨ (x = 2 ∧ r = x_pc (x_headsN ic un 6 &&& ss)) ∨ (x = 3 ∧ r = x_pc (x_headsN ic un 6 &&& x_obN ic un ss bs 6)) ∨ (x = 4 ∧ r = x_blame cw ic we) ∨ (x = 5 ∧ r = x_sumN ic pa 6) ∨ ((x.toInt < 0 ∨ 5 < x.toInt) ∧ r = -2))) 0 0 (fun _ => False) := by
  refine Met.ofW (cc := cX3_many) (maxL := 2) (ret := (some .int)) (by decide) rfl ?_
  intro p e s m args below meth c s₁ B hml hv
  obtain ⟨rfl, hP, hK⟩ := hv
  have hx := B.exec
  have hb := B.bytes
  have hr := B.returns
  have hts := atoms_spec (ws := wT yX3_many cX3_many 2 (some .int)) B.pre
  have hT := wT_T hts
  have hown : s.vm.findClass RX3 = some m.cls := findClass_of_methodNamed B.named
  have hlocks := B.notSynchronized
  have hl := lv_entry ([.ref (q 0), .int x]) (n := 2) (Nat.le_of_ble_eq_true rfl)
  rw [lg_entry_eq]
  generalize (lg_sl ([.ref (q 0), .int x]) ++ List.replicate (2 - (lg_sl ([.ref (q 0), .int x])).length) Slot.unset).toArray = ls at hl ⊢
  have hl : lv_has ls 2 [(0, .ref (q 0)), (1, .int x)] := hl
  refine lv_iload_n hx hb dX3_many_0 rfl (lv_at hl 1 rfl) ?_
  rcases sw_5 x with h_1 | h_1 | h_1 | h_1 | h_1 | h_1 | h_1
  · refine lv_tableOut (tgt := 100) hx hb dX3_many_1 h_1 (by decide) ?_
    refine lv_bipush (v := (-2)) hx hb dX3_many_100 (by decide) ?_
    exact retR_i hx hb hr hlocks (by first | exact Or.inl ⟨h_1, rfl⟩ | exact Or.inr (Or.inl ⟨h_1, rfl⟩) | exact Or.inr (Or.inr (Or.inl ⟨h_1, rfl⟩)) | exact Or.inr (Or.inr (Or.inr (Or.inl ⟨h_1, rfl⟩))) | exact Or.inr (Or.inr (Or.inr (Or.inr (Or.inl ⟨h_1, rfl⟩)))) | exact Or.inr (Or.inr (Or.inr (Or.inr (Or.inr (Or.inl ⟨h_1, rfl⟩))))) | exact Or.inr (Or.inr (Or.inr (Or.inr (Or.inr (Or.inr ⟨h_1, rfl⟩)))))) dX3_many_102
  · refine lv_tableIn (tgt := 40) (off := 39) hx hb dX3_many_1 (by rw [h_1]; decide) (by rw [h_1]; decide) (by rw [h_1]; rfl) (by decide) ?_
    refine lv_aload_n hx hb dX3_many_40 rfl (lv_at hl 0 rfl) ?_
    refine va_get (D := (dC, dI)) (ci := 3) (v := .int ic) (C := RX3) (T := TX3) (N := 11) hx hb hT hiX3 hown hK hP 0 rfl rfl 3 (by decide) (hT _ kf_X3_46) (fun _ h9 => h9) rfl dX3_many_41 ?_
    refine vp_callSi (rRS (As := [.int ic]) (rest := []) ⟨hx, hb, hml, hown, hT⟩ (c_J6_bitCount_0f7a4 (l := l) ic) (cwTS 1 hT kc_J6_bitCount_0f7a4 km_X3_71 kt_J6_bitCount_0f7a4 kn_J6 rfl rfl md_J6_bitCount_0f7a4 ⟨Nat.le_of_ble_eq_true rfl, Nat.le_of_ble_eq_true rfl⟩) nilP hK  rfl hl.1 rfl (Nat.le_of_ble_eq_true rfl) dX3_many_44 ⟨Nat.le_of_ble_eq_true rfl, Nat.le_of_ble_eq_true rfl⟩) (fun r_44 hw_44 => ?_)
    subst hw_44
    exact retR_i hx hb hr hlocks (by first | exact Or.inl ⟨h_1, rfl⟩ | exact Or.inr (Or.inl ⟨h_1, rfl⟩) | exact Or.inr (Or.inr (Or.inl ⟨h_1, rfl⟩)) | exact Or.inr (Or.inr (Or.inr (Or.inl ⟨h_1, rfl⟩))) | exact Or.inr (Or.inr (Or.inr (Or.inr (Or.inl ⟨h_1, rfl⟩)))) | exact Or.inr (Or.inr (Or.inr (Or.inr (Or.inr (Or.inl ⟨h_1, rfl⟩))))) | exact Or.inr (Or.inr (Or.inr (Or.inr (Or.inr (Or.inr ⟨h_1, rfl⟩)))))) dX3_many_47
  · refine lv_tableIn (tgt := 48) (off := 47) hx hb dX3_many_1 (by rw [h_1]; decide) (by rw [h_1]; decide) (by rw [h_1]; rfl) (by decide) ?_
    refine lv_aload_n hx hb dX3_many_48 rfl (lv_at hl 0 rfl) ?_
    refine vp_callSi (rRV (As := []) (rest := []) ⟨hx, hb, hml, hown, hT⟩ (c_X3_unitHeads (l := l) ) (cwTV 0 hT kc_X3_unitHeads km_X3_204 ki_X3_unitHeads ks_X3_unitHeads kn_X3 rfl rfl md_X3_unitHeads ⟨Nat.le_of_ble_eq_true rfl, Nat.le_of_ble_eq_true rfl⟩) hP hK (va_recv hK hP (ci := 3) (q0 := 0) rfl rfl) rfl hl.1 rfl (Nat.le_of_ble_eq_true rfl) dX3_many_49 ⟨Nat.le_of_ble_eq_true rfl, Nat.le_of_ble_eq_true rfl⟩) (fun r_49 hw_49 => ?_)
    subst hw_49
    refine vp_callSi (rRS (As := [.int (x_headsN ic un 6)]) (rest := []) ⟨hx, hb, hml, hown, hT⟩ (c_J6_bitCount_0f7a4 (l := l) (x_headsN ic un 6)) (cwTS 1 hT kc_J6_bitCount_0f7a4 km_X3_71 kt_J6_bitCount_0f7a4 kn_J6 rfl rfl md_J6_bitCount_0f7a4 ⟨Nat.le_of_ble_eq_true rfl, Nat.le_of_ble_eq_true rfl⟩) nilP hK  rfl hl.1 rfl (Nat.le_of_ble_eq_true rfl) dX3_many_52 ⟨Nat.le_of_ble_eq_true rfl, Nat.le_of_ble_eq_true rfl⟩) (fun r_52 hw_52 => ?_)
    subst hw_52
    exact retR_i hx hb hr hlocks (by first | exact Or.inl ⟨h_1, rfl⟩ | exact Or.inr (Or.inl ⟨h_1, rfl⟩) | exact Or.inr (Or.inr (Or.inl ⟨h_1, rfl⟩)) | exact Or.inr (Or.inr (Or.inr (Or.inl ⟨h_1, rfl⟩))) | exact Or.inr (Or.inr (Or.inr (Or.inr (Or.inl ⟨h_1, rfl⟩)))) | exact Or.inr (Or.inr (Or.inr (Or.inr (Or.inr (Or.inl ⟨h_1, rfl⟩))))) | exact Or.inr (Or.inr (Or.inr (Or.inr (Or.inr (Or.inr ⟨h_1, rfl⟩)))))) dX3_many_55
  · refine lv_tableIn (tgt := 56) (off := 55) hx hb dX3_many_1 (by rw [h_1]; decide) (by rw [h_1]; decide) (by rw [h_1]; rfl) (by decide) ?_
    refine lv_aload_n hx hb dX3_many_56 rfl (lv_at hl 0 rfl) ?_
    refine vp_callSi (rRV (As := []) (rest := []) ⟨hx, hb, hml, hown, hT⟩ (c_X3_unitHeads (l := l) ) (cwTV 0 hT kc_X3_unitHeads km_X3_204 ki_X3_unitHeads ks_X3_unitHeads kn_X3 rfl rfl md_X3_unitHeads ⟨Nat.le_of_ble_eq_true rfl, Nat.le_of_ble_eq_true rfl⟩) hP hK (va_recv hK hP (ci := 3) (q0 := 0) rfl rfl) rfl hl.1 rfl (Nat.le_of_ble_eq_true rfl) dX3_many_57 ⟨Nat.le_of_ble_eq_true rfl, Nat.le_of_ble_eq_true rfl⟩) (fun r_57 hw_57 => ?_)
    subst hw_57
    refine lv_aload_n hx hb dX3_many_60 rfl (lv_at hl 0 rfl) ?_
    refine va_get (D := (dC, dI)) (ci := 3) (v := .int ss) (C := RX3) (T := TX3) (N := 11) hx hb hT hiX3 hown hK hP 0 rfl rfl 5 (by decide) (hT _ kf_X3_79) (fun _ h9 => h9) rfl dX3_many_61 ?_
    refine lv_iand hx hb dX3_many_64 ?_
    refine vp_callSi (rRS (As := [.int ((x_headsN ic un 6) &&& ss)]) (rest := []) ⟨hx, hb, hml, hown, hT⟩ (c_J6_bitCount_0f7a4 (l := l) ((x_headsN ic un 6) &&& ss)) (cwTS 1 hT kc_J6_bitCount_0f7a4 km_X3_71 kt_J6_bitCount_0f7a4 kn_J6 rfl rfl md_J6_bitCount_0f7a4 ⟨Nat.le_of_ble_eq_true rfl, Nat.le_of_ble_eq_true rfl⟩) nilP hK  rfl hl.1 rfl (Nat.le_of_ble_eq_true rfl) dX3_many_65 ⟨Nat.le_of_ble_eq_true rfl, Nat.le_of_ble_eq_true rfl⟩) (fun r_65 hw_65 => ?_)
    subst hw_65
    exact retR_i hx hb hr hlocks (by first | exact Or.inl ⟨h_1, rfl⟩ | exact Or.inr (Or.inl ⟨h_1, rfl⟩) | exact Or.inr (Or.inr (Or.inl ⟨h_1, rfl⟩)) | exact Or.inr (Or.inr (Or.inr (Or.inl ⟨h_1, rfl⟩))) | exact Or.inr (Or.inr (Or.inr (Or.inr (Or.inl ⟨h_1, rfl⟩)))) | exact Or.inr (Or.inr (Or.inr (Or.inr (Or.inr (Or.inl ⟨h_1, rfl⟩))))) | exact Or.inr (Or.inr (Or.inr (Or.inr (Or.inr (Or.inr ⟨h_1, rfl⟩)))))) dX3_many_68
  · refine lv_tableIn (tgt := 69) (off := 68) hx hb dX3_many_1 (by rw [h_1]; decide) (by rw [h_1]; decide) (by rw [h_1]; rfl) (by decide) ?_
    refine lv_aload_n hx hb dX3_many_69 rfl (lv_at hl 0 rfl) ?_
    refine vp_callSi (rRV (As := []) (rest := []) ⟨hx, hb, hml, hown, hT⟩ (c_X3_unitHeads (l := l) ) (cwTV 0 hT kc_X3_unitHeads km_X3_204 ki_X3_unitHeads ks_X3_unitHeads kn_X3 rfl rfl md_X3_unitHeads ⟨Nat.le_of_ble_eq_true rfl, Nat.le_of_ble_eq_true rfl⟩) hP hK (va_recv hK hP (ci := 3) (q0 := 0) rfl rfl) rfl hl.1 rfl (Nat.le_of_ble_eq_true rfl) dX3_many_70 ⟨Nat.le_of_ble_eq_true rfl, Nat.le_of_ble_eq_true rfl⟩) (fun r_70 hw_70 => ?_)
    subst hw_70
    refine lv_aload_n hx hb dX3_many_73 rfl (lv_at hl 0 rfl) ?_
    refine lv_aload_n hx hb dX3_many_74 rfl (lv_at hl 0 rfl) ?_
    refine va_get (D := (dC, dI)) (ci := 3) (v := .int ss) (C := RX3) (T := TX3) (N := 11) hx hb hT hiX3 hown hK hP 0 rfl rfl 5 (by decide) (hT _ kf_X3_79) (fun _ h9 => h9) rfl dX3_many_75 ?_
    refine lv_aload_n hx hb dX3_many_78 rfl (lv_at hl 0 rfl) ?_
    refine va_get (D := (dC, dI)) (ci := 3) (v := .int bs) (C := RX3) (T := TX3) (N := 11) hx hb hT hiX3 hown hK hP 0 rfl rfl 4 (by decide) (hT _ kf_X3_68) (fun _ h9 => h9) rfl dX3_many_79 ?_
    refine vp_callSi (rRV (As := [.int ss, .int bs]) (rest := [.int (x_headsN ic un 6)]) ⟨hx, hb, hml, hown, hT⟩ (c_X3_openBroke (l := l) ss bs) (cwTV 2 hT kc_X3_openBroke km_X3_207 ki_X3_openBroke ks_X3_openBroke kn_X3 rfl rfl md_X3_openBroke ⟨Nat.le_of_ble_eq_true rfl, Nat.le_of_ble_eq_true rfl⟩) hP hK (va_recv hK hP (ci := 3) (q0 := 0) rfl rfl) rfl hl.1 rfl (Nat.le_of_ble_eq_true rfl) dX3_many_82 ⟨Nat.le_of_ble_eq_true rfl, Nat.le_of_ble_eq_true rfl⟩) (fun r_82 hw_82 => ?_)
    subst hw_82
    refine lv_iand hx hb dX3_many_85 ?_
    refine vp_callSi (rRS (As := [.int ((x_headsN ic un 6) &&& (x_obN ic un ss bs 6))]) (rest := []) ⟨hx, hb, hml, hown, hT⟩ (c_J6_bitCount_0f7a4 (l := l) ((x_headsN ic un 6) &&& (x_obN ic un ss bs 6))) (cwTS 1 hT kc_J6_bitCount_0f7a4 km_X3_71 kt_J6_bitCount_0f7a4 kn_J6 rfl rfl md_J6_bitCount_0f7a4 ⟨Nat.le_of_ble_eq_true rfl, Nat.le_of_ble_eq_true rfl⟩) nilP hK  rfl hl.1 rfl (Nat.le_of_ble_eq_true rfl) dX3_many_86 ⟨Nat.le_of_ble_eq_true rfl, Nat.le_of_ble_eq_true rfl⟩) (fun r_86 hw_86 => ?_)
    subst hw_86
    exact retR_i hx hb hr hlocks (by first | exact Or.inl ⟨h_1, rfl⟩ | exact Or.inr (Or.inl ⟨h_1, rfl⟩) | exact Or.inr (Or.inr (Or.inl ⟨h_1, rfl⟩)) | exact Or.inr (Or.inr (Or.inr (Or.inl ⟨h_1, rfl⟩))) | exact Or.inr (Or.inr (Or.inr (Or.inr (Or.inl ⟨h_1, rfl⟩)))) | exact Or.inr (Or.inr (Or.inr (Or.inr (Or.inr (Or.inl ⟨h_1, rfl⟩))))) | exact Or.inr (Or.inr (Or.inr (Or.inr (Or.inr (Or.inr ⟨h_1, rfl⟩)))))) dX3_many_89
  · refine lv_tableIn (tgt := 90) (off := 89) hx hb dX3_many_1 (by rw [h_1]; decide) (by rw [h_1]; decide) (by rw [h_1]; rfl) (by decide) ?_
    refine lv_aload_n hx hb dX3_many_90 rfl (lv_at hl 0 rfl) ?_
    refine vp_callSi (rRV (As := []) (rest := []) ⟨hx, hb, hml, hown, hT⟩ (c_X3_blame (l := l) ) (cwTV 0 hT kc_X3_blame km_X3_210 ki_X3_blame ks_X3_blame kn_X3 rfl rfl md_X3_blame ⟨Nat.le_of_ble_eq_true rfl, Nat.le_of_ble_eq_true rfl⟩) hP hK (va_recv hK hP (ci := 3) (q0 := 0) rfl rfl) rfl hl.1 rfl (Nat.le_of_ble_eq_true rfl) dX3_many_91 ⟨Nat.le_of_ble_eq_true rfl, Nat.le_of_ble_eq_true rfl⟩) (fun r_91 hw_91 => ?_)
    subst hw_91
    exact retR_i hx hb hr hlocks (by first | exact Or.inl ⟨h_1, rfl⟩ | exact Or.inr (Or.inl ⟨h_1, rfl⟩) | exact Or.inr (Or.inr (Or.inl ⟨h_1, rfl⟩)) | exact Or.inr (Or.inr (Or.inr (Or.inl ⟨h_1, rfl⟩))) | exact Or.inr (Or.inr (Or.inr (Or.inr (Or.inl ⟨h_1, rfl⟩)))) | exact Or.inr (Or.inr (Or.inr (Or.inr (Or.inr (Or.inl ⟨h_1, rfl⟩))))) | exact Or.inr (Or.inr (Or.inr (Or.inr (Or.inr (Or.inr ⟨h_1, rfl⟩)))))) dX3_many_94
  · refine lv_tableIn (tgt := 95) (off := 94) hx hb dX3_many_1 (by rw [h_1]; decide) (by rw [h_1]; decide) (by rw [h_1]; rfl) (by decide) ?_
    refine lv_aload_n hx hb dX3_many_95 rfl (lv_at hl 0 rfl) ?_
    refine vp_callSi (rRV (As := []) (rest := []) ⟨hx, hb, hml, hown, hT⟩ (c_X3_allPaid (l := l) ) (cwTV 0 hT kc_X3_allPaid km_X3_171 ki_X3_allPaid ks_X3_allPaid kn_X3 rfl rfl md_X3_allPaid ⟨Nat.le_of_ble_eq_true rfl, Nat.le_of_ble_eq_true rfl⟩) hP hK (va_recv hK hP (ci := 3) (q0 := 0) rfl rfl) rfl hl.1 rfl (Nat.le_of_ble_eq_true rfl) dX3_many_96 ⟨Nat.le_of_ble_eq_true rfl, Nat.le_of_ble_eq_true rfl⟩) (fun r_96 hw_96 => ?_)
    subst hw_96
    exact retR_i hx hb hr hlocks (by first | exact Or.inl ⟨h_1, rfl⟩ | exact Or.inr (Or.inl ⟨h_1, rfl⟩) | exact Or.inr (Or.inr (Or.inl ⟨h_1, rfl⟩)) | exact Or.inr (Or.inr (Or.inr (Or.inl ⟨h_1, rfl⟩))) | exact Or.inr (Or.inr (Or.inr (Or.inr (Or.inl ⟨h_1, rfl⟩)))) | exact Or.inr (Or.inr (Or.inr (Or.inr (Or.inr (Or.inl ⟨h_1, rfl⟩))))) | exact Or.inr (Or.inr (Or.inr (Or.inr (Or.inr (Or.inr ⟨h_1, rfl⟩)))))) dX3_many_99
