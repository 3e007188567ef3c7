variable {l : Launch} {dC : Nat → ClassId} {dI : Nat → Nat → Nat} {cI cJ cZ : ClassId}
variable {q : Nat → Nat} {ln cw ic bs ss : Int32} {se we un sf pa : Nat → Int32}
variable {ct : Int32} {ov gf : Nat → Int64} {gi ta : Nat → Int32}
variable {k : Nat → Nat} {r : Rat} {up lo : Int64} {cn tm : Int32} {isI br ma : Nat → Int32} {aU aL uU uL oU oL gU gL : Nat → Int64}

/-- what goes over from g to t -/
def m_gift (f : Nat → Rat) (g t : Nat) : Rat := if 0 < (f g + f t).num then -(f g) else f t
def o_is (oU oL : Nat → Int64) (f : Nat → Rat) : Prop := ∀ j, j < 6 → oU j = iL (f j).num ∧ oL j = iL ((f j).den : Int)
theorem m_gift_bd {f : Nat → Rat} {g t D V : Nat} (hg : bd (f g) D V) (ht : bd (f t) D V) : bd (m_gift f g t) D V := by
  unfold m_gift
  split
  · obtain ⟨n, e, h⟩ := hg
    refine ⟨-n, ?_, by omega⟩
    rw [e, Rat.intCast_neg]; grind
  · exact ht
set_option maxHeartbeats 4000000 in
set_option maxRecDepth 100000 in
theorem c_X4_goesOver (sz : Nat) (n g t : Nat) (f : Nat → Rat) (D V : Nat) (hn : n < 12) (hg : g < 6) (ht : t < 6) (hgt : g ≠ t) (hO : o_is oU oL f) (hDq : 0 < D ∧ D ≤ 100000) (hV : V ≤ 100000000) (hf : ∀ j, j < 6 → bd (f j) D V) : Met l yX4_goesOver (wT yX4_goesOver cX4_goesOver 7 none) ({ frames := 3, cells := 0, slots := 0, locals := 87 }) (pM (dC, dI) (ty3 cI cJ cZ) ((mQ cI cZ k r ln cn (nI n) se isI we br ma sf pa) ++ (mS cJ k aU aL uU uL) ++ (mT cI cJ k oU oL gi ta gU gL)) [.ref (k 0), .int (nI g), .int (nI t)] sz) (va_Qv (S := Unit) (fun _ => True) (fun u t9 => bM (dC, dI) (ty3 cI cJ cZ) (va_A ((mQ cI cZ k r ln cn (nI n) se isI we br ma sf pa) ++ (mS cJ k aU aL uU uL) ++ (mT cI cJ k oU oL gi ta gU gL)) sz) ((mQ cI cZ k (f t - (m_gift f g t)) ln cn (nI (n + 1)) se isI we br ma sf pa) ++ (mS cJ k aU aL uU uL) ++ (mT cI cJ k (vp_updL (vp_updL oU g (iL (f g + (m_gift f g t)).num)) t (iL (f t - (m_gift f g t)).num)) (vp_updL (vp_updL oL g (iL ((f g + (m_gift f g t)).den : Int))) t (iL ((f t - (m_gift f g t)).den : Int))) (upd gi n (nI g)) (upd ta n (nI t)) (vp_updL gU n (iL (m_gift f g t).num)) (vp_updL gL n (iL ((m_gift f g t).den : Int))))) t9) (va_A ((mQ cI cZ k r ln cn (nI n) se isI we br ma sf pa) ++ (mS cJ k aU aL uU uL) ++ (mT cI cJ k oU oL gi ta gU gL)) sz)) 0 0 (va_A ((mQ cI cZ k r ln cn (nI n) se isI we br ma sf pa) ++ (mS cJ k aU aL uU uL) ++ (mT cI cJ k oU oL gi ta gU gL)) sz) := by
  refine Met.ofW (cc := cX4_goesOver) (maxL := 7) (ret := none) (by decide) rfl ?_
  intro p e s m args below meth c s₁ B hml hv
  obtain ⟨rfl, hsz, hP, hK, hD0⟩ := hv
  have hx := B.exec
  have hb := B.bytes
  have hr := B.returns
  have hts := atoms_spec (ws := wT yX4_goesOver cX4_goesOver 7 none) B.pre
  have hT := wT_T hts
  have hown : s.vm.findClass RX4 = some m.cls := findClass_of_methodNamed B.named
  have hlocks := B.notSynchronized
  subst hsz
  have hD := hD0.self (sz := s.heap.size)
  generalize hAe : va_A ((mQ cI cZ k r ln cn (nI n) se isI we br ma sf pa) ++ (mS cJ k aU aL uU uL) ++ (mT cI cJ k oU oL gi ta gU gL)) s.heap.size = A at hD ⊢
  have hA : ∀ q : Nat, s.heap.size ≤ q → A q := fun q h => by rw [← hAe]; exact Or.inr h
  have hS : va_S A s.heap s.heap [] := va_S.rf
  have hl := lv_entry ([.ref (k 0), .int (nI g), .int (nI t)]) (n := 7) (Nat.le_of_ble_eq_true rfl)
  rw [lg_entry_eq]
  generalize (lg_sl ([.ref (k 0), .int (nI g), .int (nI t)]) ++ List.replicate (7 - (lg_sl ([.ref (k 0), .int (nI g), .int (nI t)])).length) Slot.unset).toArray = ls at hl ⊢
  have hl : lv_has ls 7 [(0, .ref (k 0)), (1, .int (nI g)), (2, .int (nI t))] := hl
  have hng := bd_nd hDq.1 (hf g hg)
  have hnt := bd_nd hDq.1 (hf t ht)
  have hqb := m_gift_bd (hf g hg) (hf t ht)
  have hnq := bd_nd hDq.1 hqb
  have hsb := bd_num_le hDq.1 (bd_add (hf g hg) (hf t ht))
  have hsr : rng (f g + f t).num := by have := Nat.mul_le_mul (show V + V ≤ 200000000 by omega) hDq.2; unfold rng; omega
  refine lv_aload_n hx hb dX4_goesOver_0 rfl (lv_at hl 0 rfl) ?_
  refine lv_aload_n hx hb dX4_goesOver_1 rfl (lv_at hl 0 rfl) ?_
  refine va_get (D := (dC, dI)) (ci := 4) (v := .ref (k 12)) (C := RX4) (T := TX4) (N := 22) hx hb hT hiX4 hown hK hP 0 rfl rfl 15 (by decide) (hT _ kf_X4_49) (fun _ h9 => h9) rfl dX4_goesOver_2 ?_
  refine lv_iload_n hx hb dX4_goesOver_5 rfl (lv_at hl 1 rfl) ?_
  refine ald_l hx hb hK hP 12 1 rfl rfl (by decide) (w := g) rfl (by omega) dX4_goesOver_6 ?_
  refine topl_eq (y := (iL (f g).num)) (hO g hg).1 ?_
  refine lv_aload_n hx hb dX4_goesOver_7 rfl (lv_at hl 0 rfl) ?_
  refine va_get (D := (dC, dI)) (ci := 4) (v := .ref (k 13)) (C := RX4) (T := TX4) (N := 22) hx hb hT hiX4 hown hK hP 0 rfl rfl 16 (by decide) (hT _ kf_X4_52) (fun _ h9 => h9) rfl dX4_goesOver_8 ?_
  refine lv_iload_n hx hb dX4_goesOver_11 rfl (lv_at hl 1 rfl) ?_
  refine ald_l hx hb hK hP 13 1 rfl rfl (by decide) (w := g) rfl (by omega) dX4_goesOver_12 ?_
  refine topl_eq (y := (iL ((f g).den : Int))) (hO g hg).2 ?_
  refine lv_aload_n hx hb dX4_goesOver_13 rfl (lv_at hl 0 rfl) ?_
  refine va_get (D := (dC, dI)) (ci := 4) (v := .ref (k 12)) (C := RX4) (T := TX4) (N := 22) hx hb hT hiX4 hown hK hP 0 rfl rfl 15 (by decide) (hT _ kf_X4_49) (fun _ h9 => h9) rfl dX4_goesOver_14 ?_
  refine lv_iload_n hx hb dX4_goesOver_17 rfl (lv_at hl 2 rfl) ?_
  refine ald_l hx hb hK hP 12 1 rfl rfl (by decide) (w := t) rfl (by omega) dX4_goesOver_18 ?_
  refine topl_eq (y := (iL (f t).num)) (hO t ht).1 ?_
  refine lv_aload_n hx hb dX4_goesOver_19 rfl (lv_at hl 0 rfl) ?_
  refine va_get (D := (dC, dI)) (ci := 4) (v := .ref (k 13)) (C := RX4) (T := TX4) (N := 22) hx hb hT hiX4 hown hK hP 0 rfl rfl 16 (by decide) (hT _ kf_X4_52) (fun _ h9 => h9) rfl dX4_goesOver_20 ?_
  refine lv_iload_n hx hb dX4_goesOver_23 rfl (lv_at hl 2 rfl) ?_
  refine ald_l hx hb hK hP 13 1 rfl rfl (by decide) (w := t) rfl (by omega) dX4_goesOver_24 ?_
  refine topl_eq (y := (iL ((f t).den : Int))) (hO t ht).2 ?_
  refine lv_lconst (v := iL 1) hx hb dX4_goesOver_25 rfl ?_
  refine fM_v (wc := mQ cI cZ k r ln cn (nI n) se isI we br ma sf pa) (wr := (mS cJ k aU aL uU uL) ++ (mT cI cJ k oU oL gi ta gU gL)) (rMV (wc := mQ cI cZ k r ln cn (nI n) se isI we br ma sf pa) (As := [.long (iL (f g).num), .long (iL ((f g).den : Int)), .long (iL (f t).num), .long (iL ((f t).den : Int)), .long (iL 1)]) (rest := []) ⟨hx, hb, hml, hown, hT⟩ (c_X4_adds (l := l) s.heap.size ((f g).num) ((f g).den) ((f t).num) ((f t).den) 1 D V V (Rat.den_pos _) (Rat.den_pos _) hDq.1 hng.1 hnt.1 hng.2 hnt.2 (by have := Nat.mul_le_mul (show V + V ≤ 200000000 by omega) hDq.2; omega) (by omega) (by first | exact Or.inl rfl | exact Or.inr rfl)) (cwTV 5 hT kc_X4_adds km_X4_128 ki_X4_adds ks_X4_adds kn_X4 rfl rfl md_X4_adds ⟨Nat.le_of_ble_eq_true rfl, Nat.le_of_ble_eq_true rfl⟩) (va_P.sub (ws' := mQ cI cZ k r ln cn (nI n) se isI we br ma sf pa) hP [0, 1, 2, 3, 4, 5, 6, 7] rfl) (va_D.sub (ws' := mQ cI cZ k r ln cn (nI n) se isI we br ma sf pa) hD [0, 1, 2, 3, 4, 5, 6, 7] (by decide) rfl) hK (va_recv hK hP (ci := 4) (q0 := 0) rfl rfl) rfl hl.1 rfl (Nat.le_of_ble_eq_true rfl) dX4_goesOver_26 ⟨Nat.le_of_ble_eq_true rfl, Nat.le_of_ble_eq_true rfl⟩) hP hD hS hA (fun u_26 H locs hw_26 hP hD hS => ?_)
  have hP : va_P (dC, dI) vwCl ((mQ cI cZ k (adQ ((f g).num) ((f g).den) ((f t).num) ((f t).den) 1) ln cn (nI n) se isI we br ma sf pa) ++ (mS cJ k aU aL uU uL) ++ (mT cI cJ k oU oL gi ta gU gL)) H := hP
  have hD : va_D A ((mQ cI cZ k (adQ ((f g).num) ((f g).den) ((f t).num) ((f t).den) 1) ln cn (nI n) se isI we br ma sf pa) ++ (mS cJ k aU aL uU uL) ++ (mT cI cJ k oU oL gi ta gU gL)) := hD
  rw [show (adQ ((f g).num) ((f g).den) ((f t).num) ((f t).den) 1) = (f g + f t) from (adQ_1 _ _)] at hP hD
  have hP : va_P (dC, dI) vwCl ((mQ cI cZ k (f g + f t) ln cn (nI n) se isI we br ma sf pa) ++ (mS cJ k aU aL uU uL) ++ (mT cI cJ k oU oL gi ta gU gL)) H := hP
  have hD : va_D A ((mQ cI cZ k (f g + f t) ln cn (nI n) se isI we br ma sf pa) ++ (mS cJ k aU aL uU uL) ++ (mT cI cJ k oU oL gi ta gU gL)) := hD
  refine lv_aload_n hx hb dX4_goesOver_29 rfl (lv_at hl 0 rfl) ?_
  refine va_get (D := (dC, dI)) (ci := 4) (v := .long (iL ((f g + f t)).num)) (C := RX4) (T := TX4) (N := 22) hx hb hT hiX4 hown hK hP 0 rfl rfl 0 (by decide) (hT _ kf_X4_75) (fun _ h9 => h9) rfl dX4_goesOver_30 ?_
  refine lv_lconst (v := iL 0) hx hb dX4_goesOver_33 rfl ?_
  refine lc_le (tgt := 48) hx hb dX4_goesOver_34 dX4_goesOver_35 (by decide) (fun c_34 => ?_) (fun c_34 => ?_)
  · have hz : ¬ 0 < (f g + f t).num := by have := (iL_le hsr rng_0).mp c_34; omega
    have hq : (m_gift f g t) = f t := by unfold m_gift; rw [if_neg hz]
    refine lv_aload_n hx hb dX4_goesOver_48 rfl (lv_at hl 0 rfl) ?_
    refine va_get (D := (dC, dI)) (ci := 4) (v := .ref (k 12)) (C := RX4) (T := TX4) (N := 22) hx hb hT hiX4 hown hK hP 0 rfl rfl 15 (by decide) (hT _ kf_X4_49) (fun _ h9 => h9) rfl dX4_goesOver_49 ?_
    refine lv_iload_n hx hb dX4_goesOver_52 rfl (lv_at hl 2 rfl) ?_
    refine ald_l hx hb hK hP 12 1 rfl rfl (by decide) (w := t) rfl (by omega) dX4_goesOver_53 ?_
    refine topl_eq (y := (iL (m_gift f g t).num)) (by rw [hq]; exact (hO t ht).1) ?_
    refine lv_lstore_n (lv' := [(3, .long (iL (m_gift f g t).num)), (0, .ref (k 0)), (1, .int (nI g)), (2, .int (nI t))]) hx hb dX4_goesOver_54 rfl hl (by decide) rfl (fun ls hl => ?_)
    refine lv_aload_n hx hb dX4_goesOver_55 rfl (lv_at hl 1 rfl) ?_
    refine va_get (D := (dC, dI)) (ci := 4) (v := .long (iL ((f g + f t)).num)) (C := RX4) (T := TX4) (N := 22) hx hb hT hiX4 hown hK hP 0 rfl rfl 0 (by decide) (hT _ kf_X4_75) (fun _ h9 => h9) rfl dX4_goesOver_56 ?_
    refine lv_lconst (v := iL 0) hx hb dX4_goesOver_59 rfl ?_
    refine lc_le (tgt := 73) hx hb dX4_goesOver_60 dX4_goesOver_61 (by decide) (fun c_60 => ?_) (fun c_60 => ?_)
    · refine lv_aload_n hx hb dX4_goesOver_73 rfl (lv_at hl 1 rfl) ?_
      refine va_get (D := (dC, dI)) (ci := 4) (v := .ref (k 13)) (C := RX4) (T := TX4) (N := 22) hx hb hT hiX4 hown hK hP 0 rfl rfl 16 (by decide) (hT _ kf_X4_52) (fun _ h9 => h9) rfl dX4_goesOver_74 ?_
      refine lv_iload_n hx hb dX4_goesOver_77 rfl (lv_at hl 3 rfl) ?_
      refine ald_l hx hb hK hP 13 1 rfl rfl (by decide) (w := t) rfl (by omega) dX4_goesOver_78 ?_
      refine topl_eq (y := (iL ((m_gift f g t).den : Int))) (by rw [hq]; exact (hO t ht).2) ?_
      refine lv_lstore (lv' := [(5, .long (iL ((m_gift f g t).den : Int))), (3, .long (iL (m_gift f g t).num)), (0, .ref (k 0)), (1, .int (nI g)), (2, .int (nI t))]) hx hb dX4_goesOver_79 hl (by decide) rfl (fun ls hl => ?_)
      refine lv_aload_n hx hb dX4_goesOver_81 rfl (lv_at hl 2 rfl) ?_
      refine va_get (D := (dC, dI)) (ci := 4) (v := .ref (k 14)) (C := RX4) (T := TX4) (N := 22) hx hb hT hiX4 hown hK hP 0 rfl rfl 18 (by decide) (hT _ kf_X4_55) (fun _ h9 => h9) rfl dX4_goesOver_82 ?_
      refine lv_aload_n hx hb dX4_goesOver_85 rfl (lv_at hl 2 rfl) ?_
      refine va_get (D := (dC, dI)) (ci := 4) (v := .int (nI n)) (C := RX4) (T := TX4) (N := 22) hx hb hT hiX4 hown hK hP 0 rfl rfl 17 (by decide) (hT _ kf_X4_185) (fun _ h9 => h9) rfl dX4_goesOver_86 ?_
      refine lv_iload_n hx hb dX4_goesOver_89 rfl (lv_at hl 3 rfl) ?_
      refine ast_i hx hb hK hP hD hS 14 0 rfl rfl (by decide) (w := n) rfl (by omega) dX4_goesOver_90 (fun H locs hP hD hS => ?_)
      have hP : va_P (dC, dI) vwCl ((mQ cI cZ k (f g + f t) ln cn (nI n) se isI we br ma sf pa) ++ (mS cJ k aU aL uU uL) ++ (mT cI cJ k oU oL (upd gi n (nI g)) ta gU gL)) H := hP
      have hD : va_D A ((mQ cI cZ k (f g + f t) ln cn (nI n) se isI we br ma sf pa) ++ (mS cJ k aU aL uU uL) ++ (mT cI cJ k oU oL (upd gi n (nI g)) ta gU gL)) := hD
      refine lv_aload_n hx hb dX4_goesOver_91 rfl (lv_at hl 2 rfl) ?_
      refine va_get (D := (dC, dI)) (ci := 4) (v := .ref (k 15)) (C := RX4) (T := TX4) (N := 22) hx hb hT hiX4 hown hK hP 0 rfl rfl 19 (by decide) (hT _ kf_X4_58) (fun _ h9 => h9) rfl dX4_goesOver_92 ?_
      refine lv_aload_n hx hb dX4_goesOver_95 rfl (lv_at hl 2 rfl) ?_
      refine va_get (D := (dC, dI)) (ci := 4) (v := .int (nI n)) (C := RX4) (T := TX4) (N := 22) hx hb hT hiX4 hown hK hP 0 rfl rfl 17 (by decide) (hT _ kf_X4_185) (fun _ h9 => h9) rfl dX4_goesOver_96 ?_
      refine lv_iload_n hx hb dX4_goesOver_99 rfl (lv_at hl 4 rfl) ?_
      refine ast_i hx hb hK hP hD hS 15 0 rfl rfl (by decide) (w := n) rfl (by omega) dX4_goesOver_100 (fun H locs hP hD hS => ?_)
      have hP : va_P (dC, dI) vwCl ((mQ cI cZ k (f g + f t) ln cn (nI n) se isI we br ma sf pa) ++ (mS cJ k aU aL uU uL) ++ (mT cI cJ k oU oL (upd gi n (nI g)) (upd ta n (nI t)) gU gL)) H := hP
      have hD : va_D A ((mQ cI cZ k (f g + f t) ln cn (nI n) se isI we br ma sf pa) ++ (mS cJ k aU aL uU uL) ++ (mT cI cJ k oU oL (upd gi n (nI g)) (upd ta n (nI t)) gU gL)) := hD
      refine lv_aload_n hx hb dX4_goesOver_101 rfl (lv_at hl 2 rfl) ?_
      refine va_get (D := (dC, dI)) (ci := 4) (v := .ref (k 16)) (C := RX4) (T := TX4) (N := 22) hx hb hT hiX4 hown hK hP 0 rfl rfl 20 (by decide) (hT _ kf_X4_61) (fun _ h9 => h9) rfl dX4_goesOver_102 ?_
      refine lv_aload_n hx hb dX4_goesOver_105 rfl (lv_at hl 2 rfl) ?_
      refine va_get (D := (dC, dI)) (ci := 4) (v := .int (nI n)) (C := RX4) (T := TX4) (N := 22) hx hb hT hiX4 hown hK hP 0 rfl rfl 17 (by decide) (hT _ kf_X4_185) (fun _ h9 => h9) rfl dX4_goesOver_106 ?_
      refine lv_lload_n hx hb dX4_goesOver_109 rfl (lv_at hl 1 rfl) ?_
      refine ast_l hx hb hK hP hD hS 16 1 rfl rfl (by decide) (w := n) rfl (by omega) dX4_goesOver_110 (fun H locs hP hD hS => ?_)
      have hP : va_P (dC, dI) vwCl ((mQ cI cZ k (f g + f t) ln cn (nI n) se isI we br ma sf pa) ++ (mS cJ k aU aL uU uL) ++ (mT cI cJ k oU oL (upd gi n (nI g)) (upd ta n (nI t)) (vp_updL gU n (iL (m_gift f g t).num)) gL)) H := hP
      have hD : va_D A ((mQ cI cZ k (f g + f t) ln cn (nI n) se isI we br ma sf pa) ++ (mS cJ k aU aL uU uL) ++ (mT cI cJ k oU oL (upd gi n (nI g)) (upd ta n (nI t)) (vp_updL gU n (iL (m_gift f g t).num)) gL)) := hD
      refine lv_aload_n hx hb dX4_goesOver_111 rfl (lv_at hl 2 rfl) ?_
      refine va_get (D := (dC, dI)) (ci := 4) (v := .ref (k 17)) (C := RX4) (T := TX4) (N := 22) hx hb hT hiX4 hown hK hP 0 rfl rfl 21 (by decide) (hT _ kf_X4_64) (fun _ h9 => h9) rfl dX4_goesOver_112 ?_
      refine lv_aload_n hx hb dX4_goesOver_115 rfl (lv_at hl 2 rfl) ?_
      refine va_get (D := (dC, dI)) (ci := 4) (v := .int (nI n)) (C := RX4) (T := TX4) (N := 22) hx hb hT hiX4 hown hK hP 0 rfl rfl 17 (by decide) (hT _ kf_X4_185) (fun _ h9 => h9) rfl dX4_goesOver_116 ?_
      refine lv_lload hx hb dX4_goesOver_119 (lv_at hl 0 rfl) ?_
      refine ast_l hx hb hK hP hD hS 17 1 rfl rfl (by decide) (w := n) rfl (by omega) dX4_goesOver_121 (fun H locs hP hD hS => ?_)
      have hP : va_P (dC, dI) vwCl ((mQ cI cZ k (f g + f t) ln cn (nI n) se isI we br ma sf pa) ++ (mS cJ k aU aL uU uL) ++ (mT cI cJ k oU oL (upd gi n (nI g)) (upd ta n (nI t)) (vp_updL gU n (iL (m_gift f g t).num)) (vp_updL gL n (iL ((m_gift f g t).den : Int))))) H := hP
      have hD : va_D A ((mQ cI cZ k (f g + f t) ln cn (nI n) se isI we br ma sf pa) ++ (mS cJ k aU aL uU uL) ++ (mT cI cJ k oU oL (upd gi n (nI g)) (upd ta n (nI t)) (vp_updL gU n (iL (m_gift f g t).num)) (vp_updL gL n (iL ((m_gift f g t).den : Int))))) := hD
      refine lv_aload_n hx hb dX4_goesOver_122 rfl (lv_at hl 2 rfl) ?_
      refine lv_dup hx hb dX4_goesOver_123 rfl ?_
      refine va_get (D := (dC, dI)) (ci := 4) (v := .int (nI n)) (C := RX4) (T := TX4) (N := 22) hx hb hT hiX4 hown hK hP 0 rfl rfl 17 (by decide) (hT _ kf_X4_185) (fun _ h9 => h9) rfl dX4_goesOver_124 ?_
      refine lv_iconst (v := 1) hx hb dX4_goesOver_127 (by decide) ?_
      refine lv_iadd hx hb dX4_goesOver_128 ?_
      refine topi_eq (y := (nI (n + 1))) (nI_1 n) ?_
      refine va_put (D := (dC, dI)) (ci := 4) (v := .int (nI (n + 1))) (ty := .int) (C := RX4) (T := TX4) (N := 22) hx hb hT hiX4 tyX4 tyX4_ok nmX4 hown hK hP hD hS 0 rfl rfl 17 (by decide) (hT _ kf_X4_185) (fun _ h9 => h9) rfl (by decide +kernel) rfl rfl (Nat.le_of_ble_eq_true rfl) dX4_goesOver_129 (fun H locs hP hD hS => ?_)
      have hP : va_P (dC, dI) vwCl ((mQ cI cZ k (f g + f t) ln cn (nI (n + 1)) se isI we br ma sf pa) ++ (mS cJ k aU aL uU uL) ++ (mT cI cJ k oU oL (upd gi n (nI g)) (upd ta n (nI t)) (vp_updL gU n (iL (m_gift f g t).num)) (vp_updL gL n (iL ((m_gift f g t).den : Int))))) H := hP
      have hD : va_D A ((mQ cI cZ k (f g + f t) ln cn (nI (n + 1)) se isI we br ma sf pa) ++ (mS cJ k aU aL uU uL) ++ (mT cI cJ k oU oL (upd gi n (nI g)) (upd ta n (nI t)) (vp_updL gU n (iL (m_gift f g t).num)) (vp_updL gL n (iL ((m_gift f g t).den : Int))))) := hD
      refine lv_aload_n hx hb dX4_goesOver_132 rfl (lv_at hl 2 rfl) ?_
      refine lv_aload_n hx hb dX4_goesOver_133 rfl (lv_at hl 2 rfl) ?_
      refine va_get (D := (dC, dI)) (ci := 4) (v := .ref (k 12)) (C := RX4) (T := TX4) (N := 22) hx hb hT hiX4 hown hK hP 0 rfl rfl 15 (by decide) (hT _ kf_X4_49) (fun _ h9 => h9) rfl dX4_goesOver_134 ?_
      refine lv_iload_n hx hb dX4_goesOver_137 rfl (lv_at hl 3 rfl) ?_
      refine ald_l hx hb hK hP 12 1 rfl rfl (by decide) (w := g) rfl (by omega) dX4_goesOver_138 ?_
      refine topl_eq (y := (iL (f g).num)) (hO g hg).1 ?_
      refine lv_aload_n hx hb dX4_goesOver_139 rfl (lv_at hl 2 rfl) ?_
      refine va_get (D := (dC, dI)) (ci := 4) (v := .ref (k 13)) (C := RX4) (T := TX4) (N := 22) hx hb hT hiX4 hown hK hP 0 rfl rfl 16 (by decide) (hT _ kf_X4_52) (fun _ h9 => h9) rfl dX4_goesOver_140 ?_
      refine lv_iload_n hx hb dX4_goesOver_143 rfl (lv_at hl 3 rfl) ?_
      refine ald_l hx hb hK hP 13 1 rfl rfl (by decide) (w := g) rfl (by omega) dX4_goesOver_144 ?_
      refine topl_eq (y := (iL ((f g).den : Int))) (hO g hg).2 ?_
      refine lv_lload_n hx hb dX4_goesOver_145 rfl (lv_at hl 1 rfl) ?_
      refine lv_lload hx hb dX4_goesOver_146 (lv_at hl 0 rfl) ?_
      refine lv_lconst (v := iL 1) hx hb dX4_goesOver_148 rfl ?_
      refine fM_v (wc := mQ cI cZ k (f g + f t) ln cn (nI (n + 1)) se isI we br ma sf pa) (wr := (mS cJ k aU aL uU uL) ++ (mT cI cJ k oU oL (upd gi n (nI g)) (upd ta n (nI t)) (vp_updL gU n (iL (m_gift f g t).num)) (vp_updL gL n (iL ((m_gift f g t).den : Int))))) (rMV (wc := mQ cI cZ k (f g + f t) ln cn (nI (n + 1)) se isI we br ma sf pa) (As := [.long (iL (f g).num), .long (iL ((f g).den : Int)), .long (iL (m_gift f g t).num), .long (iL ((m_gift f g t).den : Int)), .long (iL 1)]) (rest := []) ⟨hx, hb, hml, hown, hT⟩ (c_X4_adds (l := l) H.size ((f g).num) ((f g).den) ((m_gift f g t).num) ((m_gift f g t).den) 1 D V V (Rat.den_pos _) (Rat.den_pos _) hDq.1 hng.1 hnq.1 hng.2 hnq.2 (by have := Nat.mul_le_mul (show V + V ≤ 200000000 by omega) hDq.2; omega) (by omega) (by first | exact Or.inl rfl | exact Or.inr rfl)) (cwTV 5 hT kc_X4_adds km_X4_128 ki_X4_adds ks_X4_adds kn_X4 rfl rfl md_X4_adds ⟨Nat.le_of_ble_eq_true rfl, Nat.le_of_ble_eq_true rfl⟩) (va_P.sub (ws' := mQ cI cZ k (f g + f t) ln cn (nI (n + 1)) se isI we br ma sf pa) hP [0, 1, 2, 3, 4, 5, 6, 7] rfl) (va_D.sub (ws' := mQ cI cZ k (f g + f t) ln cn (nI (n + 1)) se isI we br ma sf pa) hD [0, 1, 2, 3, 4, 5, 6, 7] (by decide) rfl) hK (va_recv hK hP (ci := 4) (q0 := 0) rfl rfl) rfl hl.1 rfl (Nat.le_of_ble_eq_true rfl) dX4_goesOver_149 ⟨Nat.le_of_ble_eq_true rfl, Nat.le_of_ble_eq_true rfl⟩) hP hD hS hA (fun u_149 H locs hw_149 hP hD hS => ?_)
      have hP : va_P (dC, dI) vwCl ((mQ cI cZ k (adQ ((f g).num) ((f g).den) ((m_gift f g t).num) ((m_gift f g t).den) 1) ln cn (nI (n + 1)) se isI we br ma sf pa) ++ (mS cJ k aU aL uU uL) ++ (mT cI cJ k oU oL (upd gi n (nI g)) (upd ta n (nI t)) (vp_updL gU n (iL (m_gift f g t).num)) (vp_updL gL n (iL ((m_gift f g t).den : Int))))) H := hP
      have hD : va_D A ((mQ cI cZ k (adQ ((f g).num) ((f g).den) ((m_gift f g t).num) ((m_gift f g t).den) 1) ln cn (nI (n + 1)) se isI we br ma sf pa) ++ (mS cJ k aU aL uU uL) ++ (mT cI cJ k oU oL (upd gi n (nI g)) (upd ta n (nI t)) (vp_updL gU n (iL (m_gift f g t).num)) (vp_updL gL n (iL ((m_gift f g t).den : Int))))) := hD
      rw [show (adQ ((f g).num) ((f g).den) ((m_gift f g t).num) ((m_gift f g t).den) 1) = (f g + (m_gift f g t)) from (adQ_1 _ _)] at hP hD
      have hP : va_P (dC, dI) vwCl ((mQ cI cZ k (f g + (m_gift f g t)) ln cn (nI (n + 1)) se isI we br ma sf pa) ++ (mS cJ k aU aL uU uL) ++ (mT cI cJ k oU oL (upd gi n (nI g)) (upd ta n (nI t)) (vp_updL gU n (iL (m_gift f g t).num)) (vp_updL gL n (iL ((m_gift f g t).den : Int))))) H := hP
      have hD : va_D A ((mQ cI cZ k (f g + (m_gift f g t)) ln cn (nI (n + 1)) se isI we br ma sf pa) ++ (mS cJ k aU aL uU uL) ++ (mT cI cJ k oU oL (upd gi n (nI g)) (upd ta n (nI t)) (vp_updL gU n (iL (m_gift f g t).num)) (vp_updL gL n (iL ((m_gift f g t).den : Int))))) := hD
      refine lv_aload_n hx hb dX4_goesOver_152 rfl (lv_at hl 2 rfl) ?_
      refine va_get (D := (dC, dI)) (ci := 4) (v := .ref (k 12)) (C := RX4) (T := TX4) (N := 22) hx hb hT hiX4 hown hK hP 0 rfl rfl 15 (by decide) (hT _ kf_X4_49) (fun _ h9 => h9) rfl dX4_goesOver_153 ?_
      refine lv_iload_n hx hb dX4_goesOver_156 rfl (lv_at hl 3 rfl) ?_
      refine lv_aload_n hx hb dX4_goesOver_157 rfl (lv_at hl 2 rfl) ?_
      refine va_get (D := (dC, dI)) (ci := 4) (v := .long (iL ((f g + (m_gift f g t))).num)) (C := RX4) (T := TX4) (N := 22) hx hb hT hiX4 hown hK hP 0 rfl rfl 0 (by decide) (hT _ kf_X4_75) (fun _ h9 => h9) rfl dX4_goesOver_158 ?_
      refine ast_l hx hb hK hP hD hS 12 1 rfl rfl (by decide) (w := g) rfl (by omega) dX4_goesOver_161 (fun H locs hP hD hS => ?_)
      have hP : va_P (dC, dI) vwCl ((mQ cI cZ k (f g + (m_gift f g t)) ln cn (nI (n + 1)) se isI we br ma sf pa) ++ (mS cJ k aU aL uU uL) ++ (mT cI cJ k (vp_updL oU g (iL ((f g + (m_gift f g t))).num)) oL (upd gi n (nI g)) (upd ta n (nI t)) (vp_updL gU n (iL (m_gift f g t).num)) (vp_updL gL n (iL ((m_gift f g t).den : Int))))) H := hP
      have hD : va_D A ((mQ cI cZ k (f g + (m_gift f g t)) ln cn (nI (n + 1)) se isI we br ma sf pa) ++ (mS cJ k aU aL uU uL) ++ (mT cI cJ k (vp_updL oU g (iL ((f g + (m_gift f g t))).num)) oL (upd gi n (nI g)) (upd ta n (nI t)) (vp_updL gU n (iL (m_gift f g t).num)) (vp_updL gL n (iL ((m_gift f g t).den : Int))))) := hD
      refine lv_aload_n hx hb dX4_goesOver_162 rfl (lv_at hl 2 rfl) ?_
      refine va_get (D := (dC, dI)) (ci := 4) (v := .ref (k 13)) (C := RX4) (T := TX4) (N := 22) hx hb hT hiX4 hown hK hP 0 rfl rfl 16 (by decide) (hT _ kf_X4_52) (fun _ h9 => h9) rfl dX4_goesOver_163 ?_
      refine lv_iload_n hx hb dX4_goesOver_166 rfl (lv_at hl 3 rfl) ?_
      refine lv_aload_n hx hb dX4_goesOver_167 rfl (lv_at hl 2 rfl) ?_
      refine va_get (D := (dC, dI)) (ci := 4) (v := .long (iL (((f g + (m_gift f g t))).den : Int))) (C := RX4) (T := TX4) (N := 22) hx hb hT hiX4 hown hK hP 0 rfl rfl 1 (by decide) (hT _ kf_X4_7) (fun _ h9 => h9) rfl dX4_goesOver_168 ?_
      refine ast_l hx hb hK hP hD hS 13 1 rfl rfl (by decide) (w := g) rfl (by omega) dX4_goesOver_171 (fun H locs hP hD hS => ?_)
      have hP : va_P (dC, dI) vwCl ((mQ cI cZ k (f g + (m_gift f g t)) ln cn (nI (n + 1)) se isI we br ma sf pa) ++ (mS cJ k aU aL uU uL) ++ (mT cI cJ k (vp_updL oU g (iL ((f g + (m_gift f g t))).num)) (vp_updL oL g (iL (((f g + (m_gift f g t))).den : Int))) (upd gi n (nI g)) (upd ta n (nI t)) (vp_updL gU n (iL (m_gift f g t).num)) (vp_updL gL n (iL ((m_gift f g t).den : Int))))) H := hP
      have hD : va_D A ((mQ cI cZ k (f g + (m_gift f g t)) ln cn (nI (n + 1)) se isI we br ma sf pa) ++ (mS cJ k aU aL uU uL) ++ (mT cI cJ k (vp_updL oU g (iL ((f g + (m_gift f g t))).num)) (vp_updL oL g (iL (((f g + (m_gift f g t))).den : Int))) (upd gi n (nI g)) (upd ta n (nI t)) (vp_updL gU n (iL (m_gift f g t).num)) (vp_updL gL n (iL ((m_gift f g t).den : Int))))) := hD
      refine lv_aload_n hx hb dX4_goesOver_172 rfl (lv_at hl 2 rfl) ?_
      refine lv_aload_n hx hb dX4_goesOver_173 rfl (lv_at hl 2 rfl) ?_
      refine va_get (D := (dC, dI)) (ci := 4) (v := .ref (k 12)) (C := RX4) (T := TX4) (N := 22) hx hb hT hiX4 hown hK hP 0 rfl rfl 15 (by decide) (hT _ kf_X4_49) (fun _ h9 => h9) rfl dX4_goesOver_174 ?_
      refine lv_iload_n hx hb dX4_goesOver_177 rfl (lv_at hl 4 rfl) ?_
      refine ald_l hx hb hK hP 12 1 rfl rfl (by decide) (w := t) rfl (by omega) dX4_goesOver_178 ?_
      refine topl_eq (y := (iL (f t).num)) (by rw [pk_uLn (Ne.symm hgt)]; exact (hO t ht).1) ?_
      refine lv_aload_n hx hb dX4_goesOver_179 rfl (lv_at hl 2 rfl) ?_
      refine va_get (D := (dC, dI)) (ci := 4) (v := .ref (k 13)) (C := RX4) (T := TX4) (N := 22) hx hb hT hiX4 hown hK hP 0 rfl rfl 16 (by decide) (hT _ kf_X4_52) (fun _ h9 => h9) rfl dX4_goesOver_180 ?_
      refine lv_iload_n hx hb dX4_goesOver_183 rfl (lv_at hl 4 rfl) ?_
      refine ald_l hx hb hK hP 13 1 rfl rfl (by decide) (w := t) rfl (by omega) dX4_goesOver_184 ?_
      refine topl_eq (y := (iL ((f t).den : Int))) (by rw [pk_uLn (Ne.symm hgt)]; exact (hO t ht).2) ?_
      refine lv_lload_n hx hb dX4_goesOver_185 rfl (lv_at hl 1 rfl) ?_
      refine lv_lload hx hb dX4_goesOver_186 (lv_at hl 0 rfl) ?_
      refine lv_ldc2 hx hb hown (hT _ kj_X4_132) dX4_goesOver_188 ?_
      refine topl_eq (y := (iL (-1))) rfl ?_
      refine fM_v (wc := mQ cI cZ k (f g + (m_gift f g t)) ln cn (nI (n + 1)) se isI we br ma sf pa) (wr := (mS cJ k aU aL uU uL) ++ (mT cI cJ k (vp_updL oU g (iL ((f g + (m_gift f g t))).num)) (vp_updL oL g (iL (((f g + (m_gift f g t))).den : Int))) (upd gi n (nI g)) (upd ta n (nI t)) (vp_updL gU n (iL (m_gift f g t).num)) (vp_updL gL n (iL ((m_gift f g t).den : Int))))) (rMV (wc := mQ cI cZ k (f g + (m_gift f g t)) ln cn (nI (n + 1)) se isI we br ma sf pa) (As := [.long (iL (f t).num), .long (iL ((f t).den : Int)), .long (iL (m_gift f g t).num), .long (iL ((m_gift f g t).den : Int)), .long (iL (-1))]) (rest := []) ⟨hx, hb, hml, hown, hT⟩ (c_X4_adds (l := l) H.size ((f t).num) ((f t).den) ((m_gift f g t).num) ((m_gift f g t).den) (-1) D V V (Rat.den_pos _) (Rat.den_pos _) hDq.1 hnt.1 hnq.1 hnt.2 hnq.2 (by have := Nat.mul_le_mul (show V + V ≤ 200000000 by omega) hDq.2; omega) (by omega) (by first | exact Or.inl rfl | exact Or.inr rfl)) (cwTV 5 hT kc_X4_adds km_X4_128 ki_X4_adds ks_X4_adds kn_X4 rfl rfl md_X4_adds ⟨Nat.le_of_ble_eq_true rfl, Nat.le_of_ble_eq_true rfl⟩) (va_P.sub (ws' := mQ cI cZ k (f g + (m_gift f g t)) ln cn (nI (n + 1)) se isI we br ma sf pa) hP [0, 1, 2, 3, 4, 5, 6, 7] rfl) (va_D.sub (ws' := mQ cI cZ k (f g + (m_gift f g t)) ln cn (nI (n + 1)) se isI we br ma sf pa) hD [0, 1, 2, 3, 4, 5, 6, 7] (by decide) rfl) hK (va_recv hK hP (ci := 4) (q0 := 0) rfl rfl) rfl hl.1 rfl (Nat.le_of_ble_eq_true rfl) dX4_goesOver_191 ⟨Nat.le_of_ble_eq_true rfl, Nat.le_of_ble_eq_true rfl⟩) hP hD hS hA (fun u_191 H locs hw_191 hP hD hS => ?_)
      have hP : va_P (dC, dI) vwCl ((mQ cI cZ k (adQ ((f t).num) ((f t).den) ((m_gift f g t).num) ((m_gift f g t).den) (-1)) ln cn (nI (n + 1)) se isI we br ma sf pa) ++ (mS cJ k aU aL uU uL) ++ (mT cI cJ k (vp_updL oU g (iL ((f g + (m_gift f g t))).num)) (vp_updL oL g (iL (((f g + (m_gift f g t))).den : Int))) (upd gi n (nI g)) (upd ta n (nI t)) (vp_updL gU n (iL (m_gift f g t).num)) (vp_updL gL n (iL ((m_gift f g t).den : Int))))) H := hP
      have hD : va_D A ((mQ cI cZ k (adQ ((f t).num) ((f t).den) ((m_gift f g t).num) ((m_gift f g t).den) (-1)) ln cn (nI (n + 1)) se isI we br ma sf pa) ++ (mS cJ k aU aL uU uL) ++ (mT cI cJ k (vp_updL oU g (iL ((f g + (m_gift f g t))).num)) (vp_updL oL g (iL (((f g + (m_gift f g t))).den : Int))) (upd gi n (nI g)) (upd ta n (nI t)) (vp_updL gU n (iL (m_gift f g t).num)) (vp_updL gL n (iL ((m_gift f g t).den : Int))))) := hD
      rw [show (adQ ((f t).num) ((f t).den) ((m_gift f g t).num) ((m_gift f g t).den) (-1)) = (f t - (m_gift f g t)) from (adQ_m1 _ _)] at hP hD
      have hP : va_P (dC, dI) vwCl ((mQ cI cZ k (f t - (m_gift f g t)) ln cn (nI (n + 1)) se isI we br ma sf pa) ++ (mS cJ k aU aL uU uL) ++ (mT cI cJ k (vp_updL oU g (iL ((f g + (m_gift f g t))).num)) (vp_updL oL g (iL (((f g + (m_gift f g t))).den : Int))) (upd gi n (nI g)) (upd ta n (nI t)) (vp_updL gU n (iL (m_gift f g t).num)) (vp_updL gL n (iL ((m_gift f g t).den : Int))))) H := hP
      have hD : va_D A ((mQ cI cZ k (f t - (m_gift f g t)) ln cn (nI (n + 1)) se isI we br ma sf pa) ++ (mS cJ k aU aL uU uL) ++ (mT cI cJ k (vp_updL oU g (iL ((f g + (m_gift f g t))).num)) (vp_updL oL g (iL (((f g + (m_gift f g t))).den : Int))) (upd gi n (nI g)) (upd ta n (nI t)) (vp_updL gU n (iL (m_gift f g t).num)) (vp_updL gL n (iL ((m_gift f g t).den : Int))))) := hD
      refine lv_aload_n hx hb dX4_goesOver_194 rfl (lv_at hl 2 rfl) ?_
      refine va_get (D := (dC, dI)) (ci := 4) (v := .ref (k 12)) (C := RX4) (T := TX4) (N := 22) hx hb hT hiX4 hown hK hP 0 rfl rfl 15 (by decide) (hT _ kf_X4_49) (fun _ h9 => h9) rfl dX4_goesOver_195 ?_
      refine lv_iload_n hx hb dX4_goesOver_198 rfl (lv_at hl 4 rfl) ?_
      refine lv_aload_n hx hb dX4_goesOver_199 rfl (lv_at hl 2 rfl) ?_
      refine va_get (D := (dC, dI)) (ci := 4) (v := .long (iL ((f t - (m_gift f g t))).num)) (C := RX4) (T := TX4) (N := 22) hx hb hT hiX4 hown hK hP 0 rfl rfl 0 (by decide) (hT _ kf_X4_75) (fun _ h9 => h9) rfl dX4_goesOver_200 ?_
      refine ast_l hx hb hK hP hD hS 12 1 rfl rfl (by decide) (w := t) rfl (by omega) dX4_goesOver_203 (fun H locs hP hD hS => ?_)
      have hP : va_P (dC, dI) vwCl ((mQ cI cZ k (f t - (m_gift f g t)) ln cn (nI (n + 1)) se isI we br ma sf pa) ++ (mS cJ k aU aL uU uL) ++ (mT cI cJ k (vp_updL (vp_updL oU g (iL ((f g + (m_gift f g t))).num)) t (iL ((f t - (m_gift f g t))).num)) (vp_updL oL g (iL (((f g + (m_gift f g t))).den : Int))) (upd gi n (nI g)) (upd ta n (nI t)) (vp_updL gU n (iL (m_gift f g t).num)) (vp_updL gL n (iL ((m_gift f g t).den : Int))))) H := hP
      have hD : va_D A ((mQ cI cZ k (f t - (m_gift f g t)) ln cn (nI (n + 1)) se isI we br ma sf pa) ++ (mS cJ k aU aL uU uL) ++ (mT cI cJ k (vp_updL (vp_updL oU g (iL ((f g + (m_gift f g t))).num)) t (iL ((f t - (m_gift f g t))).num)) (vp_updL oL g (iL (((f g + (m_gift f g t))).den : Int))) (upd gi n (nI g)) (upd ta n (nI t)) (vp_updL gU n (iL (m_gift f g t).num)) (vp_updL gL n (iL ((m_gift f g t).den : Int))))) := hD
      refine lv_aload_n hx hb dX4_goesOver_204 rfl (lv_at hl 2 rfl) ?_
      refine va_get (D := (dC, dI)) (ci := 4) (v := .ref (k 13)) (C := RX4) (T := TX4) (N := 22) hx hb hT hiX4 hown hK hP 0 rfl rfl 16 (by decide) (hT _ kf_X4_52) (fun _ h9 => h9) rfl dX4_goesOver_205 ?_
      refine lv_iload_n hx hb dX4_goesOver_208 rfl (lv_at hl 4 rfl) ?_
      refine lv_aload_n hx hb dX4_goesOver_209 rfl (lv_at hl 2 rfl) ?_
      refine va_get (D := (dC, dI)) (ci := 4) (v := .long (iL (((f t - (m_gift f g t))).den : Int))) (C := RX4) (T := TX4) (N := 22) hx hb hT hiX4 hown hK hP 0 rfl rfl 1 (by decide) (hT _ kf_X4_7) (fun _ h9 => h9) rfl dX4_goesOver_210 ?_
      refine ast_l hx hb hK hP hD hS 13 1 rfl rfl (by decide) (w := t) rfl (by omega) dX4_goesOver_213 (fun H locs hP hD hS => ?_)
      have hP : va_P (dC, dI) vwCl ((mQ cI cZ k (f t - (m_gift f g t)) ln cn (nI (n + 1)) se isI we br ma sf pa) ++ (mS cJ k aU aL uU uL) ++ (mT cI cJ k (vp_updL (vp_updL oU g (iL ((f g + (m_gift f g t))).num)) t (iL ((f t - (m_gift f g t))).num)) (vp_updL (vp_updL oL g (iL (((f g + (m_gift f g t))).den : Int))) t (iL (((f t - (m_gift f g t))).den : Int))) (upd gi n (nI g)) (upd ta n (nI t)) (vp_updL gU n (iL (m_gift f g t).num)) (vp_updL gL n (iL ((m_gift f g t).den : Int))))) H := hP
      have hD : va_D A ((mQ cI cZ k (f t - (m_gift f g t)) ln cn (nI (n + 1)) se isI we br ma sf pa) ++ (mS cJ k aU aL uU uL) ++ (mT cI cJ k (vp_updL (vp_updL oU g (iL ((f g + (m_gift f g t))).num)) t (iL ((f t - (m_gift f g t))).num)) (vp_updL (vp_updL oL g (iL (((f g + (m_gift f g t))).den : Int))) t (iL (((f t - (m_gift f g t))).den : Int))) (upd gi n (nI g)) (upd ta n (nI t)) (vp_updL gU n (iL (m_gift f g t).num)) (vp_updL gL n (iL ((m_gift f g t).den : Int))))) := hD
      exact retM_v (S := Unit) (post := fun _ => True) (w2 := fun u => (mQ cI cZ k (f t - (m_gift f g t)) ln cn (nI (n + 1)) se isI we br ma sf pa) ++ (mS cJ k aU aL uU uL) ++ (mT cI cJ k (vp_updL (vp_updL oU g (iL (f g + (m_gift f g t)).num)) t (iL (f t - (m_gift f g t)).num)) (vp_updL (vp_updL oL g (iL ((f g + (m_gift f g t)).den : Int))) t (iL ((f t - (m_gift f g t)).den : Int))) (upd gi n (nI g)) (upd ta n (nI t)) (vp_updL gU n (iL (m_gift f g t).num)) (vp_updL gL n (iL ((m_gift f g t).den : Int))))) () hx hb hr hlocks trivial hP hK hD hS dX4_goesOver_214
    · exact absurd c_34 c_60
  · have hz : 0 < (f g + f t).num := by have := mt (iL_le hsr rng_0).mpr c_34; omega
    have hq : (m_gift f g t) = -(f g) := by unfold m_gift; rw [if_pos hz]
    refine lv_aload_n hx hb dX4_goesOver_38 rfl (lv_at hl 0 rfl) ?_
    refine va_get (D := (dC, dI)) (ci := 4) (v := .ref (k 12)) (C := RX4) (T := TX4) (N := 22) hx hb hT hiX4 hown hK hP 0 rfl rfl 15 (by decide) (hT _ kf_X4_49) (fun _ h9 => h9) rfl dX4_goesOver_39 ?_
    refine lv_iload_n hx hb dX4_goesOver_42 rfl (lv_at hl 1 rfl) ?_
    refine ald_l hx hb hK hP 12 1 rfl rfl (by decide) (w := g) rfl (by omega) dX4_goesOver_43 ?_
    refine topl_eq (y := (iL (f g).num)) (hO g hg).1 ?_
    refine li_neg hx hb (a := ((f g).num)) dX4_goesOver_44 ?_
    refine topl_eq (y := (iL (m_gift f g t).num)) (by rw [hq]; rfl) ?_
    refine lv_goto (tgt := 54) hx hb dX4_goesOver_45 (by decide) ?_
    refine lv_lstore_n (lv' := [(3, .long (iL (m_gift f g t).num)), (0, .ref (k 0)), (1, .int (nI g)), (2, .int (nI t))]) hx hb dX4_goesOver_54 rfl hl (by decide) rfl (fun ls hl => ?_)
    refine lv_aload_n hx hb dX4_goesOver_55 rfl (lv_at hl 1 rfl) ?_
    refine va_get (D := (dC, dI)) (ci := 4) (v := .long (iL ((f g + f t)).num)) (C := RX4) (T := TX4) (N := 22) hx hb hT hiX4 hown hK hP 0 rfl rfl 0 (by decide) (hT _ kf_X4_75) (fun _ h9 => h9) rfl dX4_goesOver_56 ?_
    refine lv_lconst (v := iL 0) hx hb dX4_goesOver_59 rfl ?_
    refine lc_le (tgt := 73) hx hb dX4_goesOver_60 dX4_goesOver_61 (by decide) (fun c_60 => ?_) (fun c_60 => ?_)
    · exact absurd c_60 c_34
    · refine lv_aload_n hx hb dX4_goesOver_64 rfl (lv_at hl 1 rfl) ?_
      refine va_get (D := (dC, dI)) (ci := 4) (v := .ref (k 13)) (C := RX4) (T := TX4) (N := 22) hx hb hT hiX4 hown hK hP 0 rfl rfl 16 (by decide) (hT _ kf_X4_52) (fun _ h9 => h9) rfl dX4_goesOver_65 ?_
      refine lv_iload_n hx hb dX4_goesOver_68 rfl (lv_at hl 2 rfl) ?_
      refine ald_l hx hb hK hP 13 1 rfl rfl (by decide) (w := g) rfl (by omega) dX4_goesOver_69 ?_
      refine topl_eq (y := (iL ((m_gift f g t).den : Int))) (by rw [hq]; exact (hO g hg).2) ?_
      refine lv_goto (tgt := 79) hx hb dX4_goesOver_70 (by decide) ?_
      refine lv_lstore (lv' := [(5, .long (iL ((m_gift f g t).den : Int))), (3, .long (iL (m_gift f g t).num)), (0, .ref (k 0)), (1, .int (nI g)), (2, .int (nI t))]) hx hb dX4_goesOver_79 hl (by decide) rfl (fun ls hl => ?_)
      refine lv_aload_n hx hb dX4_goesOver_81 rfl (lv_at hl 2 rfl) ?_
      refine va_get (D := (dC, dI)) (ci := 4) (v := .ref (k 14)) (C := RX4) (T := TX4) (N := 22) hx hb hT hiX4 hown hK hP 0 rfl rfl 18 (by decide) (hT _ kf_X4_55) (fun _ h9 => h9) rfl dX4_goesOver_82 ?_
      refine lv_aload_n hx hb dX4_goesOver_85 rfl (lv_at hl 2 rfl) ?_
      refine va_get (D := (dC, dI)) (ci := 4) (v := .int (nI n)) (C := RX4) (T := TX4) (N := 22) hx hb hT hiX4 hown hK hP 0 rfl rfl 17 (by decide) (hT _ kf_X4_185) (fun _ h9 => h9) rfl dX4_goesOver_86 ?_
      refine lv_iload_n hx hb dX4_goesOver_89 rfl (lv_at hl 3 rfl) ?_
      refine ast_i hx hb hK hP hD hS 14 0 rfl rfl (by decide) (w := n) rfl (by omega) dX4_goesOver_90 (fun H locs hP hD hS => ?_)
      have hP : va_P (dC, dI) vwCl ((mQ cI cZ k (f g + f t) ln cn (nI n) se isI we br ma sf pa) ++ (mS cJ k aU aL uU uL) ++ (mT cI cJ k oU oL (upd gi n (nI g)) ta gU gL)) H := hP
      have hD : va_D A ((mQ cI cZ k (f g + f t) ln cn (nI n) se isI we br ma sf pa) ++ (mS cJ k aU aL uU uL) ++ (mT cI cJ k oU oL (upd gi n (nI g)) ta gU gL)) := hD
      refine lv_aload_n hx hb dX4_goesOver_91 rfl (lv_at hl 2 rfl) ?_
      refine va_get (D := (dC, dI)) (ci := 4) (v := .ref (k 15)) (C := RX4) (T := TX4) (N := 22) hx hb hT hiX4 hown hK hP 0 rfl rfl 19 (by decide) (hT _ kf_X4_58) (fun _ h9 => h9) rfl dX4_goesOver_92 ?_
      refine lv_aload_n hx hb dX4_goesOver_95 rfl (lv_at hl 2 rfl) ?_
      refine va_get (D := (dC, dI)) (ci := 4) (v := .int (nI n)) (C := RX4) (T := TX4) (N := 22) hx hb hT hiX4 hown hK hP 0 rfl rfl 17 (by decide) (hT _ kf_X4_185) (fun _ h9 => h9) rfl dX4_goesOver_96 ?_
      refine lv_iload_n hx hb dX4_goesOver_99 rfl (lv_at hl 4 rfl) ?_
      refine ast_i hx hb hK hP hD hS 15 0 rfl rfl (by decide) (w := n) rfl (by omega) dX4_goesOver_100 (fun H locs hP hD hS => ?_)
      have hP : va_P (dC, dI) vwCl ((mQ cI cZ k (f g + f t) ln cn (nI n) se isI we br ma sf pa) ++ (mS cJ k aU aL uU uL) ++ (mT cI cJ k oU oL (upd gi n (nI g)) (upd ta n (nI t)) gU gL)) H := hP
      have hD : va_D A ((mQ cI cZ k (f g + f t) ln cn (nI n) se isI we br ma sf pa) ++ (mS cJ k aU aL uU uL) ++ (mT cI cJ k oU oL (upd gi n (nI g)) (upd ta n (nI t)) gU gL)) := hD
      refine lv_aload_n hx hb dX4_goesOver_101 rfl (lv_at hl 2 rfl) ?_
      refine va_get (D := (dC, dI)) (ci := 4) (v := .ref (k 16)) (C := RX4) (T := TX4) (N := 22) hx hb hT hiX4 hown hK hP 0 rfl rfl 20 (by decide) (hT _ kf_X4_61) (fun _ h9 => h9) rfl dX4_goesOver_102 ?_
      refine lv_aload_n hx hb dX4_goesOver_105 rfl (lv_at hl 2 rfl) ?_
      refine va_get (D := (dC, dI)) (ci := 4) (v := .int (nI n)) (C := RX4) (T := TX4) (N := 22) hx hb hT hiX4 hown hK hP 0 rfl rfl 17 (by decide) (hT _ kf_X4_185) (fun _ h9 => h9) rfl dX4_goesOver_106 ?_
      refine lv_lload_n hx hb dX4_goesOver_109 rfl (lv_at hl 1 rfl) ?_
      refine ast_l hx hb hK hP hD hS 16 1 rfl rfl (by decide) (w := n) rfl (by omega) dX4_goesOver_110 (fun H locs hP hD hS => ?_)
      have hP : va_P (dC, dI) vwCl ((mQ cI cZ k (f g + f t) ln cn (nI n) se isI we br ma sf pa) ++ (mS cJ k aU aL uU uL) ++ (mT cI cJ k oU oL (upd gi n (nI g)) (upd ta n (nI t)) (vp_updL gU n (iL (m_gift f g t).num)) gL)) H := hP
      have hD : va_D A ((mQ cI cZ k (f g + f t) ln cn (nI n) se isI we br ma sf pa) ++ (mS cJ k aU aL uU uL) ++ (mT cI cJ k oU oL (upd gi n (nI g)) (upd ta n (nI t)) (vp_updL gU n (iL (m_gift f g t).num)) gL)) := hD
      refine lv_aload_n hx hb dX4_goesOver_111 rfl (lv_at hl 2 rfl) ?_
      refine va_get (D := (dC, dI)) (ci := 4) (v := .ref (k 17)) (C := RX4) (T := TX4) (N := 22) hx hb hT hiX4 hown hK hP 0 rfl rfl 21 (by decide) (hT _ kf_X4_64) (fun _ h9 => h9) rfl dX4_goesOver_112 ?_
      refine lv_aload_n hx hb dX4_goesOver_115 rfl (lv_at hl 2 rfl) ?_
      refine va_get (D := (dC, dI)) (ci := 4) (v := .int (nI n)) (C := RX4) (T := TX4) (N := 22) hx hb hT hiX4 hown hK hP 0 rfl rfl 17 (by decide) (hT _ kf_X4_185) (fun _ h9 => h9) rfl dX4_goesOver_116 ?_
      refine lv_lload hx hb dX4_goesOver_119 (lv_at hl 0 rfl) ?_
      refine ast_l hx hb hK hP hD hS 17 1 rfl rfl (by decide) (w := n) rfl (by omega) dX4_goesOver_121 (fun H locs hP hD hS => ?_)
      have hP : va_P (dC, dI) vwCl ((mQ cI cZ k (f g + f t) ln cn (nI n) se isI we br ma sf pa) ++ (mS cJ k aU aL uU uL) ++ (mT cI cJ k oU oL (upd gi n (nI g)) (upd ta n (nI t)) (vp_updL gU n (iL (m_gift f g t).num)) (vp_updL gL n (iL ((m_gift f g t).den : Int))))) H := hP
      have hD : va_D A ((mQ cI cZ k (f g + f t) ln cn (nI n) se isI we br ma sf pa) ++ (mS cJ k aU aL uU uL) ++ (mT cI cJ k oU oL (upd gi n (nI g)) (upd ta n (nI t)) (vp_updL gU n (iL (m_gift f g t).num)) (vp_updL gL n (iL ((m_gift f g t).den : Int))))) := hD
      refine lv_aload_n hx hb dX4_goesOver_122 rfl (lv_at hl 2 rfl) ?_
      refine lv_dup hx hb dX4_goesOver_123 rfl ?_
      refine va_get (D := (dC, dI)) (ci := 4) (v := .int (nI n)) (C := RX4) (T := TX4) (N := 22) hx hb hT hiX4 hown hK hP 0 rfl rfl 17 (by decide) (hT _ kf_X4_185) (fun _ h9 => h9) rfl dX4_goesOver_124 ?_
      refine lv_iconst (v := 1) hx hb dX4_goesOver_127 (by decide) ?_
      refine lv_iadd hx hb dX4_goesOver_128 ?_
      refine topi_eq (y := (nI (n + 1))) (nI_1 n) ?_
      refine va_put (D := (dC, dI)) (ci := 4) (v := .int (nI (n + 1))) (ty := .int) (C := RX4) (T := TX4) (N := 22) hx hb hT hiX4 tyX4 tyX4_ok nmX4 hown hK hP hD hS 0 rfl rfl 17 (by decide) (hT _ kf_X4_185) (fun _ h9 => h9) rfl (by decide +kernel) rfl rfl (Nat.le_of_ble_eq_true rfl) dX4_goesOver_129 (fun H locs hP hD hS => ?_)
      have hP : va_P (dC, dI) vwCl ((mQ cI cZ k (f g + f t) ln cn (nI (n + 1)) se isI we br ma sf pa) ++ (mS cJ k aU aL uU uL) ++ (mT cI cJ k oU oL (upd gi n (nI g)) (upd ta n (nI t)) (vp_updL gU n (iL (m_gift f g t).num)) (vp_updL gL n (iL ((m_gift f g t).den : Int))))) H := hP
      have hD : va_D A ((mQ cI cZ k (f g + f t) ln cn (nI (n + 1)) se isI we br ma sf pa) ++ (mS cJ k aU aL uU uL) ++ (mT cI cJ k oU oL (upd gi n (nI g)) (upd ta n (nI t)) (vp_updL gU n (iL (m_gift f g t).num)) (vp_updL gL n (iL ((m_gift f g t).den : Int))))) := hD
      refine lv_aload_n hx hb dX4_goesOver_132 rfl (lv_at hl 2 rfl) ?_
      refine lv_aload_n hx hb dX4_goesOver_133 rfl (lv_at hl 2 rfl) ?_
      refine va_get (D := (dC, dI)) (ci := 4) (v := .ref (k 12)) (C := RX4) (T := TX4) (N := 22) hx hb hT hiX4 hown hK hP 0 rfl rfl 15 (by decide) (hT _ kf_X4_49) (fun _ h9 => h9) rfl dX4_goesOver_134 ?_
      refine lv_iload_n hx hb dX4_goesOver_137 rfl (lv_at hl 3 rfl) ?_
      refine ald_l hx hb hK hP 12 1 rfl rfl (by decide) (w := g) rfl (by omega) dX4_goesOver_138 ?_
      refine topl_eq (y := (iL (f g).num)) (hO g hg).1 ?_
      refine lv_aload_n hx hb dX4_goesOver_139 rfl (lv_at hl 2 rfl) ?_
      refine va_get (D := (dC, dI)) (ci := 4) (v := .ref (k 13)) (C := RX4) (T := TX4) (N := 22) hx hb hT hiX4 hown hK hP 0 rfl rfl 16 (by decide) (hT _ kf_X4_52) (fun _ h9 => h9) rfl dX4_goesOver_140 ?_
      refine lv_iload_n hx hb dX4_goesOver_143 rfl (lv_at hl 3 rfl) ?_
      refine ald_l hx hb hK hP 13 1 rfl rfl (by decide) (w := g) rfl (by omega) dX4_goesOver_144 ?_
      refine topl_eq (y := (iL ((f g).den : Int))) (hO g hg).2 ?_
      refine lv_lload_n hx hb dX4_goesOver_145 rfl (lv_at hl 1 rfl) ?_
      refine lv_lload hx hb dX4_goesOver_146 (lv_at hl 0 rfl) ?_
      refine lv_lconst (v := iL 1) hx hb dX4_goesOver_148 rfl ?_
      refine fM_v (wc := mQ cI cZ k (f g + f t) ln cn (nI (n + 1)) se isI we br ma sf pa) (wr := (mS cJ k aU aL uU uL) ++ (mT cI cJ k oU oL (upd gi n (nI g)) (upd ta n (nI t)) (vp_updL gU n (iL (m_gift f g t).num)) (vp_updL gL n (iL ((m_gift f g t).den : Int))))) (rMV (wc := mQ cI cZ k (f g + f t) ln cn (nI (n + 1)) se isI we br ma sf pa) (As := [.long (iL (f g).num), .long (iL ((f g).den : Int)), .long (iL (m_gift f g t).num), .long (iL ((m_gift f g t).den : Int)), .long (iL 1)]) (rest := []) ⟨hx, hb, hml, hown, hT⟩ (c_X4_adds (l := l) H.size ((f g).num) ((f g).den) ((m_gift f g t).num) ((m_gift f g t).den) 1 D V V (Rat.den_pos _) (Rat.den_pos _) hDq.1 hng.1 hnq.1 hng.2 hnq.2 (by have := Nat.mul_le_mul (show V + V ≤ 200000000 by omega) hDq.2; omega) (by omega) (by first | exact Or.inl rfl | exact Or.inr rfl)) (cwTV 5 hT kc_X4_adds km_X4_128 ki_X4_adds ks_X4_adds kn_X4 rfl rfl md_X4_adds ⟨Nat.le_of_ble_eq_true rfl, Nat.le_of_ble_eq_true rfl⟩) (va_P.sub (ws' := mQ cI cZ k (f g + f t) ln cn (nI (n + 1)) se isI we br ma sf pa) hP [0, 1, 2, 3, 4, 5, 6, 7] rfl) (va_D.sub (ws' := mQ cI cZ k (f g + f t) ln cn (nI (n + 1)) se isI we br ma sf pa) hD [0, 1, 2, 3, 4, 5, 6, 7] (by decide) rfl) hK (va_recv hK hP (ci := 4) (q0 := 0) rfl rfl) rfl hl.1 rfl (Nat.le_of_ble_eq_true rfl) dX4_goesOver_149 ⟨Nat.le_of_ble_eq_true rfl, Nat.le_of_ble_eq_true rfl⟩) hP hD hS hA (fun u_149 H locs hw_149 hP hD hS => ?_)
      have hP : va_P (dC, dI) vwCl ((mQ cI cZ k (adQ ((f g).num) ((f g).den) ((m_gift f g t).num) ((m_gift f g t).den) 1) ln cn (nI (n + 1)) se isI we br ma sf pa) ++ (mS cJ k aU aL uU uL) ++ (mT cI cJ k oU oL (upd gi n (nI g)) (upd ta n (nI t)) (vp_updL gU n (iL (m_gift f g t).num)) (vp_updL gL n (iL ((m_gift f g t).den : Int))))) H := hP
      have hD : va_D A ((mQ cI cZ k (adQ ((f g).num) ((f g).den) ((m_gift f g t).num) ((m_gift f g t).den) 1) ln cn (nI (n + 1)) se isI we br ma sf pa) ++ (mS cJ k aU aL uU uL) ++ (mT cI cJ k oU oL (upd gi n (nI g)) (upd ta n (nI t)) (vp_updL gU n (iL (m_gift f g t).num)) (vp_updL gL n (iL ((m_gift f g t).den : Int))))) := hD
      rw [show (adQ ((f g).num) ((f g).den) ((m_gift f g t).num) ((m_gift f g t).den) 1) = (f g + (m_gift f g t)) from (adQ_1 _ _)] at hP hD
      have hP : va_P (dC, dI) vwCl ((mQ cI cZ k (f g + (m_gift f g t)) ln cn (nI (n + 1)) se isI we br ma sf pa) ++ (mS cJ k aU aL uU uL) ++ (mT cI cJ k oU oL (upd gi n (nI g)) (upd ta n (nI t)) (vp_updL gU n (iL (m_gift f g t).num)) (vp_updL gL n (iL ((m_gift f g t).den : Int))))) H := hP
      have hD : va_D A ((mQ cI cZ k (f g + (m_gift f g t)) ln cn (nI (n + 1)) se isI we br ma sf pa) ++ (mS cJ k aU aL uU uL) ++ (mT cI cJ k oU oL (upd gi n (nI g)) (upd ta n (nI t)) (vp_updL gU n (iL (m_gift f g t).num)) (vp_updL gL n (iL ((m_gift f g t).den : Int))))) := hD
      refine lv_aload_n hx hb dX4_goesOver_152 rfl (lv_at hl 2 rfl) ?_
      refine va_get (D := (dC, dI)) (ci := 4) (v := .ref (k 12)) (C := RX4) (T := TX4) (N := 22) hx hb hT hiX4 hown hK hP 0 rfl rfl 15 (by decide) (hT _ kf_X4_49) (fun _ h9 => h9) rfl dX4_goesOver_153 ?_
      refine lv_iload_n hx hb dX4_goesOver_156 rfl (lv_at hl 3 rfl) ?_
      refine lv_aload_n hx hb dX4_goesOver_157 rfl (lv_at hl 2 rfl) ?_
      refine va_get (D := (dC, dI)) (ci := 4) (v := .long (iL ((f g + (m_gift f g t))).num)) (C := RX4) (T := TX4) (N := 22) hx hb hT hiX4 hown hK hP 0 rfl rfl 0 (by decide) (hT _ kf_X4_75) (fun _ h9 => h9) rfl dX4_goesOver_158 ?_
      refine ast_l hx hb hK hP hD hS 12 1 rfl rfl (by decide) (w := g) rfl (by omega) dX4_goesOver_161 (fun H locs hP hD hS => ?_)
      have hP : va_P (dC, dI) vwCl ((mQ cI cZ k (f g + (m_gift f g t)) ln cn (nI (n + 1)) se isI we br ma sf pa) ++ (mS cJ k aU aL uU uL) ++ (mT cI cJ k (vp_updL oU g (iL ((f g + (m_gift f g t))).num)) oL (upd gi n (nI g)) (upd ta n (nI t)) (vp_updL gU n (iL (m_gift f g t).num)) (vp_updL gL n (iL ((m_gift f g t).den : Int))))) H := hP
      have hD : va_D A ((mQ cI cZ k (f g + (m_gift f g t)) ln cn (nI (n + 1)) se isI we br ma sf pa) ++ (mS cJ k aU aL uU uL) ++ (mT cI cJ k (vp_updL oU g (iL ((f g + (m_gift f g t))).num)) oL (upd gi n (nI g)) (upd ta n (nI t)) (vp_updL gU n (iL (m_gift f g t).num)) (vp_updL gL n (iL ((m_gift f g t).den : Int))))) := hD
      refine lv_aload_n hx hb dX4_goesOver_162 rfl (lv_at hl 2 rfl) ?_
      refine va_get (D := (dC, dI)) (ci := 4) (v := .ref (k 13)) (C := RX4) (T := TX4) (N := 22) hx hb hT hiX4 hown hK hP 0 rfl rfl 16 (by decide) (hT _ kf_X4_52) (fun _ h9 => h9) rfl dX4_goesOver_163 ?_
      refine lv_iload_n hx hb dX4_goesOver_166 rfl (lv_at hl 3 rfl) ?_
      refine lv_aload_n hx hb dX4_goesOver_167 rfl (lv_at hl 2 rfl) ?_
      refine va_get (D := (dC, dI)) (ci := 4) (v := .long (iL (((f g + (m_gift f g t))).den : Int))) (C := RX4) (T := TX4) (N := 22) hx hb hT hiX4 hown hK hP 0 rfl rfl 1 (by decide) (hT _ kf_X4_7) (fun _ h9 => h9) rfl dX4_goesOver_168 ?_
      refine ast_l hx hb hK hP hD hS 13 1 rfl rfl (by decide) (w := g) rfl (by omega) dX4_goesOver_171 (fun H locs hP hD hS => ?_)
      have hP : va_P (dC, dI) vwCl ((mQ cI cZ k (f g + (m_gift f g t)) ln cn (nI (n + 1)) se isI we br ma sf pa) ++ (mS cJ k aU aL uU uL) ++ (mT cI cJ k (vp_updL oU g (iL ((f g + (m_gift f g t))).num)) (vp_updL oL g (iL (((f g + (m_gift f g t))).den : Int))) (upd gi n (nI g)) (upd ta n (nI t)) (vp_updL gU n (iL (m_gift f g t).num)) (vp_updL gL n (iL ((m_gift f g t).den : Int))))) H := hP
      have hD : va_D A ((mQ cI cZ k (f g + (m_gift f g t)) ln cn (nI (n + 1)) se isI we br ma sf pa) ++ (mS cJ k aU aL uU uL) ++ (mT cI cJ k (vp_updL oU g (iL ((f g + (m_gift f g t))).num)) (vp_updL oL g (iL (((f g + (m_gift f g t))).den : Int))) (upd gi n (nI g)) (upd ta n (nI t)) (vp_updL gU n (iL (m_gift f g t).num)) (vp_updL gL n (iL ((m_gift f g t).den : Int))))) := hD
      refine lv_aload_n hx hb dX4_goesOver_172 rfl (lv_at hl 2 rfl) ?_
      refine lv_aload_n hx hb dX4_goesOver_173 rfl (lv_at hl 2 rfl) ?_
      refine va_get (D := (dC, dI)) (ci := 4) (v := .ref (k 12)) (C := RX4) (T := TX4) (N := 22) hx hb hT hiX4 hown hK hP 0 rfl rfl 15 (by decide) (hT _ kf_X4_49) (fun _ h9 => h9) rfl dX4_goesOver_174 ?_
      refine lv_iload_n hx hb dX4_goesOver_177 rfl (lv_at hl 4 rfl) ?_
      refine ald_l hx hb hK hP 12 1 rfl rfl (by decide) (w := t) rfl (by omega) dX4_goesOver_178 ?_
      refine topl_eq (y := (iL (f t).num)) (by rw [pk_uLn (Ne.symm hgt)]; exact (hO t ht).1) ?_
      refine lv_aload_n hx hb dX4_goesOver_179 rfl (lv_at hl 2 rfl) ?_
      refine va_get (D := (dC, dI)) (ci := 4) (v := .ref (k 13)) (C := RX4) (T := TX4) (N := 22) hx hb hT hiX4 hown hK hP 0 rfl rfl 16 (by decide) (hT _ kf_X4_52) (fun _ h9 => h9) rfl dX4_goesOver_180 ?_
      refine lv_iload_n hx hb dX4_goesOver_183 rfl (lv_at hl 4 rfl) ?_
      refine ald_l hx hb hK hP 13 1 rfl rfl (by decide) (w := t) rfl (by omega) dX4_goesOver_184 ?_
      refine topl_eq (y := (iL ((f t).den : Int))) (by rw [pk_uLn (Ne.symm hgt)]; exact (hO t ht).2) ?_
      refine lv_lload_n hx hb dX4_goesOver_185 rfl (lv_at hl 1 rfl) ?_
      refine lv_lload hx hb dX4_goesOver_186 (lv_at hl 0 rfl) ?_
      refine lv_ldc2 hx hb hown (hT _ kj_X4_132) dX4_goesOver_188 ?_
      refine topl_eq (y := (iL (-1))) rfl ?_
      refine fM_v (wc := mQ cI cZ k (f g + (m_gift f g t)) ln cn (nI (n + 1)) se isI we br ma sf pa) (wr := (mS cJ k aU aL uU uL) ++ (mT cI cJ k (vp_updL oU g (iL ((f g + (m_gift f g t))).num)) (vp_updL oL g (iL (((f g + (m_gift f g t))).den : Int))) (upd gi n (nI g)) (upd ta n (nI t)) (vp_updL gU n (iL (m_gift f g t).num)) (vp_updL gL n (iL ((m_gift f g t).den : Int))))) (rMV (wc := mQ cI cZ k (f g + (m_gift f g t)) ln cn (nI (n + 1)) se isI we br ma sf pa) (As := [.long (iL (f t).num), .long (iL ((f t).den : Int)), .long (iL (m_gift f g t).num), .long (iL ((m_gift f g t).den : Int)), .long (iL (-1))]) (rest := []) ⟨hx, hb, hml, hown, hT⟩ (c_X4_adds (l := l) H.size ((f t).num) ((f t).den) ((m_gift f g t).num) ((m_gift f g t).den) (-1) D V V (Rat.den_pos _) (Rat.den_pos _) hDq.1 hnt.1 hnq.1 hnt.2 hnq.2 (by have := Nat.mul_le_mul (show V + V ≤ 200000000 by omega) hDq.2; omega) (by omega) (by first | exact Or.inl rfl | exact Or.inr rfl)) (cwTV 5 hT kc_X4_adds km_X4_128 ki_X4_adds ks_X4_adds kn_X4 rfl rfl md_X4_adds ⟨Nat.le_of_ble_eq_true rfl, Nat.le_of_ble_eq_true rfl⟩) (va_P.sub (ws' := mQ cI cZ k (f g + (m_gift f g t)) ln cn (nI (n + 1)) se isI we br ma sf pa) hP [0, 1, 2, 3, 4, 5, 6, 7] rfl) (va_D.sub (ws' := mQ cI cZ k (f g + (m_gift f g t)) ln cn (nI (n + 1)) se isI we br ma sf pa) hD [0, 1, 2, 3, 4, 5, 6, 7] (by decide) rfl) hK (va_recv hK hP (ci := 4) (q0 := 0) rfl rfl) rfl hl.1 rfl (Nat.le_of_ble_eq_true rfl) dX4_goesOver_191 ⟨Nat.le_of_ble_eq_true rfl, Nat.le_of_ble_eq_true rfl⟩) hP hD hS hA (fun u_191 H locs hw_191 hP hD hS => ?_)
      have hP : va_P (dC, dI) vwCl ((mQ cI cZ k (adQ ((f t).num) ((f t).den) ((m_gift f g t).num) ((m_gift f g t).den) (-1)) ln cn (nI (n + 1)) se isI we br ma sf pa) ++ (mS cJ k aU aL uU uL) ++ (mT cI cJ k (vp_updL oU g (iL ((f g + (m_gift f g t))).num)) (vp_updL oL g (iL (((f g + (m_gift f g t))).den : Int))) (upd gi n (nI g)) (upd ta n (nI t)) (vp_updL gU n (iL (m_gift f g t).num)) (vp_updL gL n (iL ((m_gift f g t).den : Int))))) H := hP
      have hD : va_D A ((mQ cI cZ k (adQ ((f t).num) ((f t).den) ((m_gift f g t).num) ((m_gift f g t).den) (-1)) ln cn (nI (n + 1)) se isI we br ma sf pa) ++ (mS cJ k aU aL uU uL) ++ (mT cI cJ k (vp_updL oU g (iL ((f g + (m_gift f g t))).num)) (vp_updL oL g (iL (((f g + (m_gift f g t))).den : Int))) (upd gi n (nI g)) (upd ta n (nI t)) (vp_updL gU n (iL (m_gift f g t).num)) (vp_updL gL n (iL ((m_gift f g t).den : Int))))) := hD
      rw [show (adQ ((f t).num) ((f t).den) ((m_gift f g t).num) ((m_gift f g t).den) (-1)) = (f t - (m_gift f g t)) from (adQ_m1 _ _)] at hP hD
      have hP : va_P (dC, dI) vwCl ((mQ cI cZ k (f t - (m_gift f g t)) ln cn (nI (n + 1)) se isI we br ma sf pa) ++ (mS cJ k aU aL uU uL) ++ (mT cI cJ k (vp_updL oU g (iL ((f g + (m_gift f g t))).num)) (vp_updL oL g (iL (((f g + (m_gift f g t))).den : Int))) (upd gi n (nI g)) (upd ta n (nI t)) (vp_updL gU n (iL (m_gift f g t).num)) (vp_updL gL n (iL ((m_gift f g t).den : Int))))) H := hP
      have hD : va_D A ((mQ cI cZ k (f t - (m_gift f g t)) ln cn (nI (n + 1)) se isI we br ma sf pa) ++ (mS cJ k aU aL uU uL) ++ (mT cI cJ k (vp_updL oU g (iL ((f g + (m_gift f g t))).num)) (vp_updL oL g (iL (((f g + (m_gift f g t))).den : Int))) (upd gi n (nI g)) (upd ta n (nI t)) (vp_updL gU n (iL (m_gift f g t).num)) (vp_updL gL n (iL ((m_gift f g t).den : Int))))) := hD
      refine lv_aload_n hx hb dX4_goesOver_194 rfl (lv_at hl 2 rfl) ?_
      refine va_get (D := (dC, dI)) (ci := 4) (v := .ref (k 12)) (C := RX4) (T := TX4) (N := 22) hx hb hT hiX4 hown hK hP 0 rfl rfl 15 (by decide) (hT _ kf_X4_49) (fun _ h9 => h9) rfl dX4_goesOver_195 ?_
      refine lv_iload_n hx hb dX4_goesOver_198 rfl (lv_at hl 4 rfl) ?_
      refine lv_aload_n hx hb dX4_goesOver_199 rfl (lv_at hl 2 rfl) ?_
      refine va_get (D := (dC, dI)) (ci := 4) (v := .long (iL ((f t - (m_gift f g t))).num)) (C := RX4) (T := TX4) (N := 22) hx hb hT hiX4 hown hK hP 0 rfl rfl 0 (by decide) (hT _ kf_X4_75) (fun _ h9 => h9) rfl dX4_goesOver_200 ?_
      refine ast_l hx hb hK hP hD hS 12 1 rfl rfl (by decide) (w := t) rfl (by omega) dX4_goesOver_203 (fun H locs hP hD hS => ?_)
      have hP : va_P (dC, dI) vwCl ((mQ cI cZ k (f t - (m_gift f g t)) ln cn (nI (n + 1)) se isI we br ma sf pa) ++ (mS cJ k aU aL uU uL) ++ (mT cI cJ k (vp_updL (vp_updL oU g (iL ((f g + (m_gift f g t))).num)) t (iL ((f t - (m_gift f g t))).num)) (vp_updL oL g (iL (((f g + (m_gift f g t))).den : Int))) (upd gi n (nI g)) (upd ta n (nI t)) (vp_updL gU n (iL (m_gift f g t).num)) (vp_updL gL n (iL ((m_gift f g t).den : Int))))) H := hP
      have hD : va_D A ((mQ cI cZ k (f t - (m_gift f g t)) ln cn (nI (n + 1)) se isI we br ma sf pa) ++ (mS cJ k aU aL uU uL) ++ (mT cI cJ k (vp_updL (vp_updL oU g (iL ((f g + (m_gift f g t))).num)) t (iL ((f t - (m_gift f g t))).num)) (vp_updL oL g (iL (((f g + (m_gift f g t))).den : Int))) (upd gi n (nI g)) (upd ta n (nI t)) (vp_updL gU n (iL (m_gift f g t).num)) (vp_updL gL n (iL ((m_gift f g t).den : Int))))) := hD
      refine lv_aload_n hx hb dX4_goesOver_204 rfl (lv_at hl 2 rfl) ?_
      refine va_get (D := (dC, dI)) (ci := 4) (v := .ref (k 13)) (C := RX4) (T := TX4) (N := 22) hx hb hT hiX4 hown hK hP 0 rfl rfl 16 (by decide) (hT _ kf_X4_52) (fun _ h9 => h9) rfl dX4_goesOver_205 ?_
      refine lv_iload_n hx hb dX4_goesOver_208 rfl (lv_at hl 4 rfl) ?_
      refine lv_aload_n hx hb dX4_goesOver_209 rfl (lv_at hl 2 rfl) ?_
      refine va_get (D := (dC, dI)) (ci := 4) (v := .long (iL (((f t - (m_gift f g t))).den : Int))) (C := RX4) (T := TX4) (N := 22) hx hb hT hiX4 hown hK hP 0 rfl rfl 1 (by decide) (hT _ kf_X4_7) (fun _ h9 => h9) rfl dX4_goesOver_210 ?_
      refine ast_l hx hb hK hP hD hS 13 1 rfl rfl (by decide) (w := t) rfl (by omega) dX4_goesOver_213 (fun H locs hP hD hS => ?_)
      have hP : va_P (dC, dI) vwCl ((mQ cI cZ k (f t - (m_gift f g t)) ln cn (nI (n + 1)) se isI we br ma sf pa) ++ (mS cJ k aU aL uU uL) ++ (mT cI cJ k (vp_updL (vp_updL oU g (iL ((f g + (m_gift f g t))).num)) t (iL ((f t - (m_gift f g t))).num)) (vp_updL (vp_updL oL g (iL (((f g + (m_gift f g t))).den : Int))) t (iL (((f t - (m_gift f g t))).den : Int))) (upd gi n (nI g)) (upd ta n (nI t)) (vp_updL gU n (iL (m_gift f g t).num)) (vp_updL gL n (iL ((m_gift f g t).den : Int))))) H := hP
      have hD : va_D A ((mQ cI cZ k (f t - (m_gift f g t)) ln cn (nI (n + 1)) se isI we br ma sf pa) ++ (mS cJ k aU aL uU uL) ++ (mT cI cJ k (vp_updL (vp_updL oU g (iL ((f g + (m_gift f g t))).num)) t (iL ((f t - (m_gift f g t))).num)) (vp_updL (vp_updL oL g (iL (((f g + (m_gift f g t))).den : Int))) t (iL (((f t - (m_gift f g t))).den : Int))) (upd gi n (nI g)) (upd ta n (nI t)) (vp_updL gU n (iL (m_gift f g t).num)) (vp_updL gL n (iL ((m_gift f g t).den : Int))))) := hD
      exact retM_v (S := Unit) (post := fun _ => True) (w2 := fun u => (mQ cI cZ k (f t - (m_gift f g t)) ln cn (nI (n + 1)) se isI we br ma sf pa) ++ (mS cJ k aU aL uU uL) ++ (mT cI cJ k (vp_updL (vp_updL oU g (iL (f g + (m_gift f g t)).num)) t (iL (f t - (m_gift f g t)).num)) (vp_updL (vp_updL oL g (iL ((f g + (m_gift f g t)).den : Int))) t (iL ((f t - (m_gift f g t)).den : Int))) (upd gi n (nI g)) (upd ta n (nI t)) (vp_updL gU n (iL (m_gift f g t).num)) (vp_updL gL n (iL ((m_gift f g t).den : Int))))) () hx hb hr hlocks trivial hP hK hD hS dX4_goesOver_214
