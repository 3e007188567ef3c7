set_option maxHeartbeats 4000000 in
set_option maxRecDepth 100000 in
/-- from the entry, for every script of at most 2048 ints, the law comes to its end with true -/
theorem whole_start {p : Program} {e : Env} {s : State} {m : MethodId} {below : List Frame} {meth : Method} {c : Code} (l : Launch) (hflags : l.flags = flags0) {b L : Nat} {xs : Nat → Int32} (hL : L ≤ 2048) (C0 : lw_At p s m meth c b L xs) : W p l e room_1 s m #[Value.ref b] below meth c s.heap [] 0 0 (lw_Z below #[Value.ref b] s) (entryFrame m ([Value.ref b] : List Value).toArray 4) := by
  obtain ⟨hx, hb, hr, hml, hown, hts, hX, hbl, hlocks, hgv⟩ := id C0
  have hT : ∀ w ∈ TT, w.before #[Value.ref b] s = true := fun w hw => hts w (TT_tbl hw)
  have hown : s.vm.findClass RL = some m.cls := hown
  have hA : ∀ q : Nat, s.heap.size ≤ q → (fun q : Nat => s.heap.size ≤ q) q := fun _ h => h
  have hbA : ¬ (fun q : Nat => s.heap.size ≤ q) b := Nat.not_le.mpr hbl
  obtain ⟨c0, i0, k0⟩ := u_known (C := RX0) (T := TX0) (N := 5) (n := 5) hT hiX0 (hT _ kin_X0)
  obtain ⟨c1, i1, k1⟩ := u_known (C := RX1) (T := TX1) (N := 7) (n := 7) hT hiX1 (hT _ kin_X1)
  obtain ⟨c2, i2, k2⟩ := u_known (C := RX2) (T := TX2) (N := 2) (n := 2) hT hiX2 (hT _ kin_X2)
  obtain ⟨c3, i3, k3⟩ := u_known (C := RX3) (T := TX3) (N := 11) (n := 11) hT hiX3 (hT _ kin_X3)
  obtain ⟨c4, i4, k4⟩ := u_known (C := RX4) (T := TX4) (N := 22) (n := 22) hT hiX4 (hT _ kin_X4)
  obtain ⟨dC, dI, hKc⟩ : ∃ (dC : Nat → ClassId) (dI : Nat → Nat → Nat), ∀ (k : Nat) (q : vw_C), vwCl[k]? = some q → u_Kn s q.1 q.2.1 q.2.2 (dC k) (dI k) := by
    refine ⟨fun k => if k = 0 then c0 else if k = 1 then c1 else if k = 2 then c2 else if k = 3 then c3 else c4, fun k => if k = 0 then i0 else if k = 1 then i1 else if k = 2 then i2 else if k = 3 then i3 else i4, ?_⟩
    intro k q hq
    match k, hq with
    | 0, hq => cases hq; exact k0
    | 1, hq => cases hq; exact k1
    | 2, hq => cases hq; exact k2
    | 3, hq => cases hq; exact k3
    | 4, hq => cases hq; exact k4
    | k + 5, hq => simp [vwCl] at hq
  obtain ⟨cI, kI, mI, f1, f2, f3⟩ := Cond.arrayClass_spec (hT _ ka_int)
  obtain ⟨cJ, kJ, mJ, g1, g2, g3⟩ := Cond.arrayClass_spec (hT _ ka_long)
  obtain ⟨cZ, kZ, mZ, h1, h2, h3⟩ := Cond.arrayClass_spec (hT _ ka_boolean)
  have hK : va_K (dC, dI) vwCl (ty3 cI cJ cZ) s := ⟨hKc, fun k q h => by
    match k, h with
    | 0, h => cases h; exact ⟨fun n z => ⟨fun k h => (by cases h), kI, f2, mI, f3⟩, f1⟩
    | 1, h => cases h; exact ⟨fun n z => ⟨fun k h => (by cases h), kJ, g2, mJ, g3⟩, g1⟩
    | 2, h => cases h; exact ⟨fun n z => ⟨fun k h => (by cases h), kZ, h2, mZ, h3⟩, h1⟩
    | k + 3, h => simp [ty3] at h⟩
  have hSM : SMf (fun q : Nat => s.heap.size ≤ q) s := by
    have hs := flat_of_before _ hgv
    have harr : (Cond.arrayOf (.static "SharedFault" "SETTING_MOST" "[I") .int).before #[Value.ref b] s = true := hs _ (by decide +kernel)
    have hlen : (Cond.eq (.length (.static "SharedFault" "SETTING_MOST" "[I")) (.int 3)).before #[Value.ref b] s = true := hs _ (by decide +kernel)
    have hz0 : (Cond.eq (.elem (.static "SharedFault" "SETTING_MOST" "[I") (.int 0)) (.int 2)).before #[Value.ref b] s = true := hs _ (by decide +kernel)
    have hz1 : (Cond.eq (.elem (.static "SharedFault" "SETTING_MOST" "[I") (.int 1)) (.int 2)).before #[Value.ref b] s = true := hs _ (by decide +kernel)
    have hz2 : (Cond.eq (.elem (.static "SharedFault" "SETTING_MOST" "[I") (.int 2)) (.int 100)).before #[Value.ref b] s = true := hs _ (by decide +kernel)
    obtain ⟨t, ht, hTt⟩ := va_Tof (N := 3) (f := fun j => .int (sm_v j)) (A := (fun q : Nat => s.heap.size ≤ q)) (by decide) harr (va_eqt hlen) (fun j hj => by
      rcases (show j = 0 ∨ j = 1 ∨ j = 2 by omega) with rfl | rfl | rfl
      · exact va_eqt hz0
      · exact va_eqt hz1
      · exact va_eqt hz2) (fun a ha => Nat.not_le.mpr ha)
    exact ⟨t, va_Zref (hts _ kls) (hT _ kn_X3) ht (fun a ha => Nat.not_le.mpr ha), hTt⟩
  have hNw : va_Nw nestW s := va_Nw.of rfl (hts _ kmn_X3_29)
  have hS : va_S (fun q : Nat => s.heap.size ≤ q) s.heap s.heap [] := va_S.rf
  have hP : va_P (dC, dI) vwCl [] s.heap := nilP
  have hD : va_D (fun q : Nat => s.heap.size ≤ q) [] := nilD
  have hl := lv_entry ([.ref b]) (n := 4) (Nat.le_of_ble_eq_true rfl)
  rw [lg_entry_eq]
  generalize (lg_sl ([.ref b]) ++ List.replicate (4 - (lg_sl ([.ref b])).length) Slot.unset).toArray = ls at hl ⊢
  have hl : lv_has ls 4 [(0, .ref b)] := hl
  refine va_new (ci := 3) (fs := [.int 0, .int 0, .null, .int 0, .int 0, .int 0, .null, .null, .null, .null, .null]) (C := RX3) (T := TX3) (N := 11) hx hb hT hiX3 tyX3 tyX3_ok hown (hT _ kcl_L_7) (hT _ kin_X3) (hT _ kn_X3) hK hP hD hS hA rfl (fun j hj => by rcases (show j = 0 ∨ j = 1 ∨ j = 2 ∨ j = 3 ∨ j = 4 ∨ j = 5 ∨ j = 6 ∨ j = 7 ∨ j = 8 ∨ j = 9 ∨ j = 10 by omega) with rfl | rfl | rfl | rfl | rfl | rfl | rfl | rfl | rfl | rfl | rfl <;> rfl) (Nat.le_of_ble_eq_true rfl) (Nat.le_of_ble_eq_true rfl) dL_law_0 (fun a H hP hD hS => ?_)
  have hP : va_P (dC, dI) vwCl (xN a 0 0 .null 0 0 0 .null .null .null .null .null) H := hP
  have hD : va_D (fun q : Nat => s.heap.size ≤ q) (xN a 0 0 .null 0 0 0 .null .null .null .null .null) := hD
  refine lv_dup hx hb dL_law_3 rfl ?_
  refine fM_v (wc := xN a 0 0 .null 0 0 0 .null .null .null .null .null) (wr := []) (rMIn (wc := xN a 0 0 .null 0 0 0 .null .null .null .null .null) (As := []) (rest := [.ref a]) ⟨hx, hb, hml, hown, hT⟩ (c_X3_init (l := l) H.size) (cwTI 0 hT kc_X3_init km_L_9 ki_X3_init kn_X3 rfl rfl rfl md_X3_init ⟨Nat.le_of_ble_eq_true rfl, Nat.le_of_ble_eq_true rfl⟩) hP hD hK hNw rfl hl.1 rfl (Nat.le_of_ble_eq_true rfl) dL_law_4 ⟨Nat.le_of_ble_eq_true rfl, Nat.le_of_ble_eq_true rfl⟩) hP hD hS hA (fun q H locs e0 hP hD hS => ?_)
  have hP : va_P (dC, dI) vwCl (xW cI q 0 0 0 0 0 x_se0 (fun _ => 0) (fun _ => 0) (fun _ => 0) (fun _ => 0) ++ fW cI cJ q 0 (fun _ => 0) (fun _ => 0) (fun _ => 0) (fun _ => 0)) H := hP
  have hD : va_D (fun q : Nat => s.heap.size ≤ q) (xW cI q 0 0 0 0 0 x_se0 (fun _ => 0) (fun _ => 0) (fun _ => 0) (fun _ => 0) ++ fW cI cJ q 0 (fun _ => 0) (fun _ => 0) (fun _ => 0) (fun _ => 0)) := hD
  have e0 : q 0 = a := e0
  rw [← e0]
  refine lv_astore_n (lv' := [(1, .ref (q 0)), (0, .ref b)]) hx hb dL_law_7 rfl hl (by decide) rfl (fun ls hl => ?_)

  refine va_new (ci := 4) (fs := [.long 0, .long 0, .int 0, .int 0, .null, .null, .null, .null, .null, .null, .null, .null, .null, .null, .null, .null, .null, .int 0, .null, .null, .null, .null]) (C := RX4) (T := TX4) (N := 22) hx hb hT hiX4 tyX4 tyX4_ok hown (hT _ kcl_L_10) (hT _ kin_X4) (hT _ kn_X4) hK hP hD hS hA rfl (fun j hj => by rcases (show j = 0 ∨ j = 1 ∨ j = 2 ∨ j = 3 ∨ j = 4 ∨ j = 5 ∨ j = 6 ∨ j = 7 ∨ j = 8 ∨ j = 9 ∨ j = 10 ∨ j = 11 ∨ j = 12 ∨ j = 13 ∨ j = 14 ∨ j = 15 ∨ j = 16 ∨ j = 17 ∨ j = 18 ∨ j = 19 ∨ j = 20 ∨ j = 21 by omega) with rfl | rfl | rfl | rfl | rfl | rfl | rfl | rfl | rfl | rfl | rfl | rfl | rfl | rfl | rfl | rfl | rfl | rfl | rfl | rfl | rfl | rfl <;> rfl) (Nat.le_of_ble_eq_true rfl) (Nat.le_of_ble_eq_true rfl) dL_law_8 (fun a H hP hD hS => ?_)
  have hP := va_P.sub (ws' := (mN a 0 0 0 0 0 .null .null .null .null .null .null .null .null .null .null .null .null .null .null .null .null .null) ++ (xW cI q 0 0 0 0 0 x_se0 (fun _ => 0) (fun _ => 0) (fun _ => 0) (fun _ => 0) ++ fW cI cJ q 0 (fun _ => 0) (fun _ => 0) (fun _ => 0) (fun _ => 0))) hP [11, 0, 1, 2, 3, 4, 5, 6, 7, 8, 9, 10] rfl
  have hD := va_D.sub (ws' := (mN a 0 0 0 0 0 .null .null .null .null .null .null .null .null .null .null .null .null .null .null .null .null .null) ++ (xW cI q 0 0 0 0 0 x_se0 (fun _ => 0) (fun _ => 0) (fun _ => 0) (fun _ => 0) ++ fW cI cJ q 0 (fun _ => 0) (fun _ => 0) (fun _ => 0) (fun _ => 0))) hD [11, 0, 1, 2, 3, 4, 5, 6, 7, 8, 9, 10] (by decide) rfl
  refine lv_dup hx hb dL_law_11 rfl ?_
  refine fM_v (wc := mN a 0 0 0 0 0 .null .null .null .null .null .null .null .null .null .null .null .null .null .null .null .null .null) (wr := xW cI q 0 0 0 0 0 x_se0 (fun _ => 0) (fun _ => 0) (fun _ => 0) (fun _ => 0) ++ fW cI cJ q 0 (fun _ => 0) (fun _ => 0) (fun _ => 0) (fun _ => 0)) (rMI (wc := mN a 0 0 0 0 0 .null .null .null .null .null .null .null .null .null .null .null .null .null .null .null .null .null) (As := []) (rest := [.ref a]) ⟨hx, hb, hml, hown, hT⟩ (c_X4_init (l := l) H.size) (cwTI 0 hT kc_X4_init km_L_12 ki_X4_init kn_X4 rfl rfl rfl md_X4_init ⟨Nat.le_of_ble_eq_true rfl, Nat.le_of_ble_eq_true rfl⟩) (va_P.sub (ws' := mN a 0 0 0 0 0 .null .null .null .null .null .null .null .null .null .null .null .null .null .null .null .null .null) hP [0] rfl) (va_D.sub (ws' := mN a 0 0 0 0 0 .null .null .null .null .null .null .null .null .null .null .null .null .null .null .null .null .null) hD [0] (by decide) rfl) hK rfl hl.1 rfl (Nat.le_of_ble_eq_true rfl) dL_law_12 ⟨Nat.le_of_ble_eq_true rfl, Nat.le_of_ble_eq_true rfl⟩) hP hD hS hA (fun k H locs e0 hP hD hS => ?_)
  have hP := va_P.sub (ws' := (xW cI q 0 0 0 0 0 x_se0 (fun _ => 0) (fun _ => 0) (fun _ => 0) (fun _ => 0) ++ fW cI cJ q 0 (fun _ => 0) (fun _ => 0) (fun _ => 0) (fun _ => 0)) ++ ((mW cI cZ k 0 1 0 0 0 m_se0 (m_cl (fun _ => 0) 0 6) (m_cl (fun _ => 0) 0 6) (m_cl (fun _ => 0) 0 6) (m_cl (fun _ => 0) (-9) 6) (m_cl (fun _ => 0) (-9) 6) (m_cl (fun _ => 0) 0 6)) ++ (mS cJ k (fun _ => 0) (fun _ => 0) (fun _ => 0) (fun _ => 0)) ++ (mT cI cJ k (fun _ => 0) (fun _ => 0) (fun _ => 0) (fun _ => 0) (fun _ => 0) (fun _ => 0)))) hP [18, 19, 20, 21, 22, 23, 24, 25, 26, 27, 28, 0, 1, 2, 3, 4, 5, 6, 7, 8, 9, 10, 11, 12, 13, 14, 15, 16, 17] rfl
  have hD := va_D.sub (ws' := (xW cI q 0 0 0 0 0 x_se0 (fun _ => 0) (fun _ => 0) (fun _ => 0) (fun _ => 0) ++ fW cI cJ q 0 (fun _ => 0) (fun _ => 0) (fun _ => 0) (fun _ => 0)) ++ ((mW cI cZ k 0 1 0 0 0 m_se0 (m_cl (fun _ => 0) 0 6) (m_cl (fun _ => 0) 0 6) (m_cl (fun _ => 0) 0 6) (m_cl (fun _ => 0) (-9) 6) (m_cl (fun _ => 0) (-9) 6) (m_cl (fun _ => 0) 0 6)) ++ (mS cJ k (fun _ => 0) (fun _ => 0) (fun _ => 0) (fun _ => 0)) ++ (mT cI cJ k (fun _ => 0) (fun _ => 0) (fun _ => 0) (fun _ => 0) (fun _ => 0) (fun _ => 0)))) hD [18, 19, 20, 21, 22, 23, 24, 25, 26, 27, 28, 0, 1, 2, 3, 4, 5, 6, 7, 8, 9, 10, 11, 12, 13, 14, 15, 16, 17] (by decide) rfl
  have e0 : k 0 = a := e0
  rw [← e0]
  refine lv_astore_n (lv' := [(2, .ref (k 0)), (1, .ref (q 0)), (0, .ref b)]) hx hb dL_law_15 rfl hl (by decide) rfl (fun ls hl => ?_)
  refine lv_iconst (v := 0) hx hb dL_law_16 (by decide) ?_
  refine lv_istore_n (lv' := [(3, .int 0), (2, .ref (k 0)), (1, .ref (q 0)), (0, .ref b)]) hx hb dL_law_17 rfl hl (by decide) rfl (fun ls hl => ?_)
  refine W.widen (k := 30 + 30 * 0) (n := 300 + 80 * 0) (Nat.le_of_ble_eq_true rfl) (Nat.le_of_ble_eq_true rfl) ?_
  have hIt : INVt (0, 0, 0, 0, 0, x_se0, (fun _ => 0), (fun _ => 0), (fun _ => 0), (fun _ => 0)) (0, 0, m_se0, m_cl (fun _ => 0) 0 6, m_cl (fun _ => 0) 0 6, m_cl (fun _ => 0) 0 6, m_cl (fun _ => 0) (-9) 6, m_cl (fun _ => 0) (-9) 6, m_cl (fun _ => 0) 0 6) := ⟨rfl, rfl, se_0, m_cl_0 6, m_cl_0 6, INV_0⟩
  exact law_loop hL C0 hK hSM (L / 4) 0 0 rfl (by omega) (by omega) H locs ls ⟨(0, 0, 0, 0, 0, x_se0, (fun _ => 0), (fun _ => 0), (fun _ => 0), (fun _ => 0)), (0, (fun _ => 0), (fun _ => 0), (fun _ => 0), (fun _ => 0)), (0, 0, m_se0, m_cl (fun _ => 0) 0 6, m_cl (fun _ => 0) 0 6, m_cl (fun _ => 0) 0 6, m_cl (fun _ => 0) (-9) 6, m_cl (fun _ => 0) (-9) 6, m_cl (fun _ => 0) 0 6), (((0, (fun _ => 0), (fun _ => 0), (fun _ => 0), (fun _ => 0)), 0, (fun _ => 0), (fun _ => 0), (fun _ => 0), (fun _ => 0), (fun _ => 0), (fun _ => 0)), 0), hIt, hP, hD, hS⟩ (lv_sub hl [3, 2, 1, 0] rfl)
