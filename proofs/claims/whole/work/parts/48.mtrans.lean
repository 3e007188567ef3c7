variable {l : Launch} {dC : Nat → ClassId} {dI : Nat → Nat → Nat} {cI cJ cZ : ClassId}
variable {q : Nat → Nat} {ln cw ic bs ss : Int32} {se we un sf pa : Nat → Int32}
variable {ct : Int32} {ov gf : Nat → Int64} {gi ta : Nat → Int32}
variable {k : Nat → Nat} {r : Rat} {up lo : Int64} {cn tm : Int32} {isI br ma : Nat → Int32} {aU aL uU uL oU oL gU gL : Nat → Int64}

theorem nI_below {v : Int32} {n : Nat} (h0 : 0 ≤ v) (hn : n ≤ 6) (h : v < nI n) : ∃ j : Nat, j < n ∧ v = nI j := by
  have h1 := Int32.le_iff_toInt_le.mp h0
  have h2 := Int32.lt_iff_toInt_lt.mp h
  rw [nI_toInt (by omega)] at h2
  have h1 : 0 ≤ v.toInt := h1
  refine ⟨v.toInt.toNat, by omega, Int32.toInt_inj.mp ?_⟩
  rw [nI_toInt (by omega)]
  omega
set_option maxHeartbeats 4000000 in
set_option maxRecDepth 100000 in
theorem c_X4_transfers (sz : Nat)  (hok : m_ok ln cn isI we br ma sf) (hwe : ∀ u, u < 6 → 0 ≤ (we u).toInt ∧ (we u).toInt ≤ 100) (hfo : ∀ j, j < 6 → ¬ isI j = 0 → f_ok (m_due we br ma j (m_dU ln cn se isI we br ma sf (m_un ma j))) (m_duN ln cn se isI we br ma sf 6)) (hpa : 0 ≤ (m_paN pa 6).toInt ∧ (m_paN pa 6).toInt ≤ 10000000) (hpw : ∀ j, j < 6 → 0 ≤ (pa j).toInt ∧ (pa j).toInt ≤ 10000000) (D : Nat) (hDq : 0 < D ∧ D ≤ 100000) (hf0 : ∀ j, j < 6 → bd (m_f0 ln cn se isI we br ma sf pa j) D 2000000) : Met l yX4_transfers (wT yX4_transfers cX4_transfers 1 (some .int)) ({ frames := 7, cells := 0, slots := 0, locals := 174 }) (pM (dC, dI) (ty3 cI cJ cZ) ((mQ cI cZ k r ln cn tm se isI we br ma sf pa) ++ (mS cJ k aU aL uU uL) ++ (mT cI cJ k oU oL gi ta gU gL)) [.ref (k 0)] sz) (va_Qi (S := TS × Int32) (fun r _ => r = nI (m_Z ln cn se isI we br ma sf pa).1) (fun u t9 => bM (dC, dI) (ty3 cI cJ cZ) (va_A ((mQ cI cZ k r ln cn tm se isI we br ma sf pa) ++ (mS cJ k aU aL uU uL) ++ (mT cI cJ k oU oL gi ta gU gL)) sz) (mQt cI cJ cZ k ln cn u.2 se isI we br ma sf pa u.1.1 ++ mT cI cJ k u.1.2.2.1 u.1.2.2.2.1 u.1.2.2.2.2.1 u.1.2.2.2.2.2.1 u.1.2.2.2.2.2.2.1 u.1.2.2.2.2.2.2.2) t9) (va_A ((mQ cI cZ k r ln cn tm se isI we br ma sf pa) ++ (mS cJ k aU aL uU uL) ++ (mT cI cJ k oU oL gi ta gU gL)) sz)) 0 0 (va_A ((mQ cI cZ k r ln cn tm se isI we br ma sf pa) ++ (mS cJ k aU aL uU uL) ++ (mT cI cJ k oU oL gi ta gU gL)) sz) := by
  refine Met.ofW (cc := cX4_transfers) (maxL := 1) (ret := (some .int)) (by decide) rfl ?_
  intro p e s m args below meth c s₁ B hml hv
  obtain ⟨rfl, hsz, hP, hK, hD0⟩ := hv
  have hx := B.exec
  have hb := B.bytes
  have hr := B.returns
  have hts := atoms_spec (ws := wT yX4_transfers cX4_transfers 1 (some .int)) B.pre
  have hT := wT_T hts
  have hown : s.vm.findClass RX4 = some m.cls := findClass_of_methodNamed B.named
  have hlocks := B.notSynchronized
  subst hsz
  have hD := hD0.self (sz := s.heap.size)
  generalize hAe : va_A ((mQ cI cZ k r ln cn tm se isI we br ma sf pa) ++ (mS cJ k aU aL uU uL) ++ (mT cI cJ k oU oL gi ta gU gL)) s.heap.size = A at hD ⊢
  have hA : ∀ q : Nat, s.heap.size ≤ q → A q := fun q h => by rw [← hAe]; exact Or.inr h
  have hS : va_S A s.heap s.heap [] := va_S.rf
  have hl := lv_entry ([.ref (k 0)]) (n := 1) (Nat.le_of_ble_eq_true rfl)
  rw [lg_entry_eq]
  generalize (lg_sl ([.ref (k 0)]) ++ List.replicate (1 - (lg_sl ([.ref (k 0)])).length) Slot.unset).toArray = ls at hl ⊢
  have hl : lv_has ls 1 [(0, .ref (k 0))] := hl
  refine lv_aload_n hx hb dX4_transfers_0 rfl (lv_at hl 0 rfl) ?_
  refine fM_v (wc := (mQ cI cZ k r ln cn tm se isI we br ma sf pa) ++ (mS cJ k aU aL uU uL) ++ (mT cI cJ k oU oL gi ta gU gL)) (wr := []) (rMV (wc := (mQ cI cZ k r ln cn tm se isI we br ma sf pa) ++ (mS cJ k aU aL uU uL) ++ (mT cI cJ k oU oL gi ta gU gL)) (As := []) (rest := []) ⟨hx, hb, hml, hown, hT⟩ (c_X4_findTransfers (l := l) s.heap.size hok hwe hfo hpa hpw D hDq hf0) (cwTV 0 hT kc_X4_findTransfers km_X4_194 ki_X4_findTransfers ks_X4_findTransfers kn_X4 rfl rfl md_X4_findTransfers ⟨Nat.le_of_ble_eq_true rfl, Nat.le_of_ble_eq_true rfl⟩) hP hD hK (va_recv hK hP (ci := 4) (q0 := 0) rfl rfl) rfl hl.1 rfl (Nat.le_of_ble_eq_true rfl) dX4_transfers_1 ⟨Nat.le_of_ble_eq_true rfl, Nat.le_of_ble_eq_true rfl⟩) hP hD hS hA (fun u_1 H locs hw_1 hP hD hS => ?_)
  have hP : va_P (dC, dI) vwCl ((mQ cI cZ k u_1.1.1 ln cn (nI u_1.2.1) se isI we br ma sf pa) ++ (mS cJ k u_1.1.2.1 u_1.1.2.2.1 u_1.1.2.2.2.1 u_1.1.2.2.2.2) ++ (mT cI cJ k u_1.2.2.1 u_1.2.2.2.1 u_1.2.2.2.2.1 u_1.2.2.2.2.2.1 u_1.2.2.2.2.2.2.1 u_1.2.2.2.2.2.2.2)) H := hP
  have hD : va_D A ((mQ cI cZ k u_1.1.1 ln cn (nI u_1.2.1) se isI we br ma sf pa) ++ (mS cJ k u_1.1.2.1 u_1.1.2.2.1 u_1.1.2.2.2.1 u_1.1.2.2.2.2) ++ (mT cI cJ k u_1.2.2.1 u_1.2.2.2.1 u_1.2.2.2.2.1 u_1.2.2.2.2.2.1 u_1.2.2.2.2.2.2.1 u_1.2.2.2.2.2.2.2)) := hD
  refine lv_aload_n hx hb dX4_transfers_4 rfl (lv_at hl 0 rfl) ?_
  refine va_get (D := (dC, dI)) (ci := 4) (v := .int (nI u_1.2.1)) (C := RX4) (T := TX4) (N := 22) hx hb hT hiX4 hown hK hP 0 rfl rfl 17 (by decide) (hT _ kf_X4_185) (fun _ h9 => h9) rfl dX4_transfers_5 ?_
  exact retM_i (S := TS × Int32) (post := fun r _ => r = nI (m_Z ln cn se isI we br ma sf pa).1) (w2 := fun u => mQt cI cJ cZ k ln cn u.2 se isI we br ma sf pa u.1.1 ++ mT cI cJ k u.1.2.2.1 u.1.2.2.2.1 u.1.2.2.2.2.1 u.1.2.2.2.2.2.1 u.1.2.2.2.2.2.2.1 u.1.2.2.2.2.2.2.2) (((u_1.1.1, u_1.1.2.1, u_1.1.2.2.1, u_1.1.2.2.2.1, u_1.1.2.2.2.2), 0, u_1.2.2.1, u_1.2.2.2.1, u_1.2.2.2.2.1, u_1.2.2.2.2.2.1, u_1.2.2.2.2.2.2.1, u_1.2.2.2.2.2.2.2), (nI u_1.2.1)) hx hb hr hlocks (by rw [hw_1.1]) hP hK hD hS dX4_transfers_8
set_option maxHeartbeats 4000000 in
set_option maxRecDepth 100000 in
theorem c_X4_transfer (sz : Nat) (v x : Int32) (hok : m_ok ln cn isI we br ma sf) (hwe : ∀ u, u < 6 → 0 ≤ (we u).toInt ∧ (we u).toInt ≤ 100) (hfo : ∀ j, j < 6 → ¬ isI j = 0 → f_ok (m_due we br ma j (m_dU ln cn se isI we br ma sf (m_un ma j))) (m_duN ln cn se isI we br ma sf 6)) (hpa : 0 ≤ (m_paN pa 6).toInt ∧ (m_paN pa 6).toInt ≤ 10000000) (hpw : ∀ j, j < 6 → 0 ≤ (pa j).toInt ∧ (pa j).toInt ≤ 10000000) (D : Nat) (hDq : 0 < D ∧ D ≤ 100000) (hf0 : ∀ j, j < 6 → bd (m_f0 ln cn se isI we br ma sf pa j) D 2000000) : Met l yX4_transfer (wT yX4_transfer cX4_transfer 3 (some .int)) ({ frames := 7, cells := 0, slots := 0, locals := 174 }) (pM (dC, dI) (ty3 cI cJ cZ) ((mQ cI cZ k r ln cn tm se isI we br ma sf pa) ++ (mS cJ k aU aL uU uL) ++ (mT cI cJ k oU oL gi ta gU gL)) [.ref (k 0), .int v, .int x] sz) (va_Qi (S := TS × Int32) (fun r _ => ((v < 0 ∨ ¬ (0 ≤ x ∧ x ≤ 1)) ∧ r = -2) ∨ (¬ (v < 0 ∨ ¬ (0 ≤ x ∧ x ≤ 1)) ∧ ((nI (m_Z ln cn se isI we br ma sf pa).1 ≤ v ∧ r = -9) ∨ (∃ i7, i7 < (m_Z ln cn se isI we br ma sf pa).1 ∧ v = nI i7 ∧ r = if x = 0 then nI ((m_Z ln cn se isI we br ma sf pa).2.2.1 i7) else nI ((m_Z ln cn se isI we br ma sf pa).2.2.2.1 i7))))) (fun u t9 => bM (dC, dI) (ty3 cI cJ cZ) (va_A ((mQ cI cZ k r ln cn tm se isI we br ma sf pa) ++ (mS cJ k aU aL uU uL) ++ (mT cI cJ k oU oL gi ta gU gL)) sz) (mQt cI cJ cZ k ln cn u.2 se isI we br ma sf pa u.1.1 ++ mT cI cJ k u.1.2.2.1 u.1.2.2.2.1 u.1.2.2.2.2.1 u.1.2.2.2.2.2.1 u.1.2.2.2.2.2.2.1 u.1.2.2.2.2.2.2.2) t9) (va_A ((mQ cI cZ k r ln cn tm se isI we br ma sf pa) ++ (mS cJ k aU aL uU uL) ++ (mT cI cJ k oU oL gi ta gU gL)) sz)) 0 0 (va_A ((mQ cI cZ k r ln cn tm se isI we br ma sf pa) ++ (mS cJ k aU aL uU uL) ++ (mT cI cJ k oU oL gi ta gU gL)) sz) := by
  refine Met.ofW (cc := cX4_transfer) (maxL := 3) (ret := (some .int)) (by decide) rfl ?_
  intro p e s m args below meth c s₁ B hml hv
  obtain ⟨rfl, hsz, hP, hK, hD0⟩ := hv
  have hx := B.exec
  have hb := B.bytes
  have hr := B.returns
  have hts := atoms_spec (ws := wT yX4_transfer cX4_transfer 3 (some .int)) B.pre
  have hT := wT_T hts
  have hown : s.vm.findClass RX4 = some m.cls := findClass_of_methodNamed B.named
  have hlocks := B.notSynchronized
  subst hsz
  have hD := hD0.self (sz := s.heap.size)
  generalize hAe : va_A ((mQ cI cZ k r ln cn tm se isI we br ma sf pa) ++ (mS cJ k aU aL uU uL) ++ (mT cI cJ k oU oL gi ta gU gL)) s.heap.size = A at hD ⊢
  have hA : ∀ q : Nat, s.heap.size ≤ q → A q := fun q h => by rw [← hAe]; exact Or.inr h
  have hS : va_S A s.heap s.heap [] := va_S.rf
  have hl := lv_entry ([.ref (k 0), .int v, .int x]) (n := 3) (Nat.le_of_ble_eq_true rfl)
  rw [lg_entry_eq]
  generalize (lg_sl ([.ref (k 0), .int v, .int x]) ++ List.replicate (3 - (lg_sl ([.ref (k 0), .int v, .int x])).length) Slot.unset).toArray = ls at hl ⊢
  have hl : lv_has ls 3 [(0, .ref (k 0)), (1, .int v), (2, .int x)] := hl
  refine lv_iload_n hx hb dX4_transfer_0 rfl (lv_at hl 1 rfl) ?_
  refine lv_if_lt (tgt := 13) hx hb dX4_transfer_1 (by decide) (fun c_1 => ?_) (fun c_1 => ?_)
  · refine lv_bipush (v := (-2)) hx hb dX4_transfer_13 (by decide) ?_
    exact retM_i (S := TS × Int32) (post := fun r _ => ((v < 0 ∨ ¬ (0 ≤ x ∧ x ≤ 1)) ∧ r = -2) ∨ (¬ (v < 0 ∨ ¬ (0 ≤ x ∧ x ≤ 1)) ∧ ((nI (m_Z ln cn se isI we br ma sf pa).1 ≤ v ∧ r = -9) ∨ (∃ i7, i7 < (m_Z ln cn se isI we br ma sf pa).1 ∧ v = nI i7 ∧ r = if x = 0 then nI ((m_Z ln cn se isI we br ma sf pa).2.2.1 i7) else nI ((m_Z ln cn se isI we br ma sf pa).2.2.2.1 i7))))) (w2 := fun u => mQt cI cJ cZ k ln cn u.2 se isI we br ma sf pa u.1.1 ++ mT cI cJ k u.1.2.2.1 u.1.2.2.2.1 u.1.2.2.2.2.1 u.1.2.2.2.2.2.1 u.1.2.2.2.2.2.2.1 u.1.2.2.2.2.2.2.2) (((r, aU, aL, uU, uL), 0, oU, oL, gi, ta, gU, gL), tm) hx hb hr hlocks (by first | exact Or.inl ⟨Or.inl c_1, rfl⟩ | exact Or.inl ⟨Or.inr hw_7, rfl⟩) hP hK hD hS dX4_transfer_15
  · refine lv_iload_n hx hb dX4_transfer_4 rfl (lv_at hl 2 rfl) ?_
    refine lv_iconst (v := 0) hx hb dX4_transfer_5 (by decide) ?_
    refine lv_iconst (v := 1) hx hb dX4_transfer_6 (by decide) ?_
    refine vp_callSi (rRS (As := [.int x, .int 0, .int 1]) (rest := []) ⟨hx, hb, hml, hown, hT⟩ (c_X4_within (l := l) x 0 1) (cwTS 3 hT kc_X4_within km_X4_82 kt_X4_within kn_X4 rfl rfl md_X4_within ⟨Nat.le_of_ble_eq_true rfl, Nat.le_of_ble_eq_true rfl⟩) nilP hK  rfl hl.1 rfl (Nat.le_of_ble_eq_true rfl) dX4_transfer_7 ⟨Nat.le_of_ble_eq_true rfl, Nat.le_of_ble_eq_true rfl⟩) (fun r_7 hw_7 => ?_)
    rcases hw_7 with ⟨rfl, hw_7⟩ | ⟨rfl, hw_7⟩
    · refine lv_if_ne (tgt := 16) hx hb dX4_transfer_10 (by decide) (fun c_10 => ?_) (fun h => absurd h (by decide))
      refine lv_aload_n hx hb dX4_transfer_16 rfl (lv_at hl 0 rfl) ?_
      refine fM_v (wc := (mQ cI cZ k r ln cn tm se isI we br ma sf pa) ++ (mS cJ k aU aL uU uL) ++ (mT cI cJ k oU oL gi ta gU gL)) (wr := []) (rMV (wc := (mQ cI cZ k r ln cn tm se isI we br ma sf pa) ++ (mS cJ k aU aL uU uL) ++ (mT cI cJ k oU oL gi ta gU gL)) (As := []) (rest := []) ⟨hx, hb, hml, hown, hT⟩ (c_X4_findTransfers (l := l) s.heap.size hok hwe hfo hpa hpw D hDq hf0) (cwTV 0 hT kc_X4_findTransfers km_X4_194 ki_X4_findTransfers ks_X4_findTransfers kn_X4 rfl rfl md_X4_findTransfers ⟨Nat.le_of_ble_eq_true rfl, Nat.le_of_ble_eq_true rfl⟩) hP hD hK (va_recv hK hP (ci := 4) (q0 := 0) rfl rfl) rfl hl.1 rfl (Nat.le_of_ble_eq_true rfl) dX4_transfer_17 ⟨Nat.le_of_ble_eq_true rfl, Nat.le_of_ble_eq_true rfl⟩) hP hD hS hA (fun u_17 H locs hw_17 hP hD hS => ?_)
      have hP : va_P (dC, dI) vwCl ((mQ cI cZ k u_17.1.1 ln cn (nI u_17.2.1) se isI we br ma sf pa) ++ (mS cJ k u_17.1.2.1 u_17.1.2.2.1 u_17.1.2.2.2.1 u_17.1.2.2.2.2) ++ (mT cI cJ k u_17.2.2.1 u_17.2.2.2.1 u_17.2.2.2.2.1 u_17.2.2.2.2.2.1 u_17.2.2.2.2.2.2.1 u_17.2.2.2.2.2.2.2)) H := hP
      have hD : va_D A ((mQ cI cZ k u_17.1.1 ln cn (nI u_17.2.1) se isI we br ma sf pa) ++ (mS cJ k u_17.1.2.1 u_17.1.2.2.1 u_17.1.2.2.2.1 u_17.1.2.2.2.2) ++ (mT cI cJ k u_17.2.2.1 u_17.2.2.2.1 u_17.2.2.2.2.1 u_17.2.2.2.2.2.1 u_17.2.2.2.2.2.2.1 u_17.2.2.2.2.2.2.2)) := hD
      obtain ⟨hz1, hz2, hz3⟩ := hw_17
      refine lv_iload_n hx hb dX4_transfer_20 rfl (lv_at hl 1 rfl) ?_
      refine lv_aload_n hx hb dX4_transfer_21 rfl (lv_at hl 0 rfl) ?_
      refine va_get (D := (dC, dI)) (ci := 4) (v := .int (nI u_17.2.1)) (C := RX4) (T := TX4) (N := 22) hx hb hT hiX4 hown hK hP 0 rfl rfl 17 (by decide) (hT _ kf_X4_185) (fun _ h9 => h9) rfl dX4_transfer_22 ?_
      refine lv_icmp_lt (tgt := 33) hx hb dX4_transfer_25 (by decide) (fun c_25 => ?_) (fun c_25 => ?_)
      · obtain ⟨j, hj, rfl⟩ := nI_below (Int32.not_lt.mp c_1) hz2 c_25
        rw [hz1] at hj
        refine lv_iload_n hx hb dX4_transfer_33 rfl (lv_at hl 2 rfl) ?_
        refine lv_if_ne (tgt := 46) hx hb dX4_transfer_34 (by decide) (fun c_34 => ?_) (fun c_34 => ?_)
        · refine lv_aload_n hx hb dX4_transfer_46 rfl (lv_at hl 0 rfl) ?_
          refine va_get (D := (dC, dI)) (ci := 4) (v := .ref (k 15)) (C := RX4) (T := TX4) (N := 22) hx hb hT hiX4 hown hK hP 0 rfl rfl 19 (by decide) (hT _ kf_X4_58) (fun _ h9 => h9) rfl dX4_transfer_47 ?_
          refine lv_iload_n hx hb dX4_transfer_50 rfl (lv_at hl 1 rfl) ?_
          refine ald_i hx hb hK hP 15 0 rfl rfl (by decide) (w := j) rfl (by omega) dX4_transfer_51 ?_
          refine topi_eq (y := (nI ((m_Z ln cn se isI we br ma sf pa).2.2.2.1 j))) (hz3 j hj).2.1 ?_
          exact retM_i (S := TS × Int32) (post := fun r _ => (((nI j) < 0 ∨ ¬ (0 ≤ x ∧ x ≤ 1)) ∧ r = -2) ∨ (¬ ((nI j) < 0 ∨ ¬ (0 ≤ x ∧ x ≤ 1)) ∧ ((nI (m_Z ln cn se isI we br ma sf pa).1 ≤ (nI j) ∧ r = -9) ∨ (∃ i7, i7 < (m_Z ln cn se isI we br ma sf pa).1 ∧ (nI j) = nI i7 ∧ r = if x = 0 then nI ((m_Z ln cn se isI we br ma sf pa).2.2.1 i7) else nI ((m_Z ln cn se isI we br ma sf pa).2.2.2.1 i7))))) (w2 := fun u => mQt cI cJ cZ k ln cn u.2 se isI we br ma sf pa u.1.1 ++ mT cI cJ k u.1.2.2.1 u.1.2.2.2.1 u.1.2.2.2.2.1 u.1.2.2.2.2.2.1 u.1.2.2.2.2.2.2.1 u.1.2.2.2.2.2.2.2) (((u_17.1.1, u_17.1.2.1, u_17.1.2.2.1, u_17.1.2.2.2.1, u_17.1.2.2.2.2), 0, u_17.2.2.1, u_17.2.2.2.1, u_17.2.2.2.2.1, u_17.2.2.2.2.2.1, u_17.2.2.2.2.2.2.1, u_17.2.2.2.2.2.2.2), (nI u_17.2.1)) hx hb hr hlocks (by exact Or.inr ⟨fun h => h.elim c_1 (fun h => h hw_7), Or.inr ⟨j, hj, rfl, (if_neg c_34).symm⟩⟩) hP hK hD hS dX4_transfer_52
        · refine lv_aload_n hx hb dX4_transfer_37 rfl (lv_at hl 0 rfl) ?_
          refine va_get (D := (dC, dI)) (ci := 4) (v := .ref (k 14)) (C := RX4) (T := TX4) (N := 22) hx hb hT hiX4 hown hK hP 0 rfl rfl 18 (by decide) (hT _ kf_X4_55) (fun _ h9 => h9) rfl dX4_transfer_38 ?_
          refine lv_iload_n hx hb dX4_transfer_41 rfl (lv_at hl 1 rfl) ?_
          refine ald_i hx hb hK hP 14 0 rfl rfl (by decide) (w := j) rfl (by omega) dX4_transfer_42 ?_
          refine topi_eq (y := (nI ((m_Z ln cn se isI we br ma sf pa).2.2.1 j))) (hz3 j hj).1 ?_
          refine lv_goto (tgt := 52) hx hb dX4_transfer_43 (by decide) ?_
          exact retM_i (S := TS × Int32) (post := fun r _ => (((nI j) < 0 ∨ ¬ (0 ≤ x ∧ x ≤ 1)) ∧ r = -2) ∨ (¬ ((nI j) < 0 ∨ ¬ (0 ≤ x ∧ x ≤ 1)) ∧ ((nI (m_Z ln cn se isI we br ma sf pa).1 ≤ (nI j) ∧ r = -9) ∨ (∃ i7, i7 < (m_Z ln cn se isI we br ma sf pa).1 ∧ (nI j) = nI i7 ∧ r = if x = 0 then nI ((m_Z ln cn se isI we br ma sf pa).2.2.1 i7) else nI ((m_Z ln cn se isI we br ma sf pa).2.2.2.1 i7))))) (w2 := fun u => mQt cI cJ cZ k ln cn u.2 se isI we br ma sf pa u.1.1 ++ mT cI cJ k u.1.2.2.1 u.1.2.2.2.1 u.1.2.2.2.2.1 u.1.2.2.2.2.2.1 u.1.2.2.2.2.2.2.1 u.1.2.2.2.2.2.2.2) (((u_17.1.1, u_17.1.2.1, u_17.1.2.2.1, u_17.1.2.2.2.1, u_17.1.2.2.2.2), 0, u_17.2.2.1, u_17.2.2.2.1, u_17.2.2.2.2.1, u_17.2.2.2.2.2.1, u_17.2.2.2.2.2.2.1, u_17.2.2.2.2.2.2.2), (nI u_17.2.1)) hx hb hr hlocks (by exact Or.inr ⟨fun h => h.elim c_1 (fun h => h hw_7), Or.inr ⟨j, hj, rfl, (if_pos c_34).symm⟩⟩) hP hK hD hS dX4_transfer_52
      · have hge := Int32.not_lt.mp c_25
        rw [hz1] at hge
        refine lv_bipush (v := (-9)) hx hb dX4_transfer_28 (by decide) ?_
        refine lv_goto (tgt := 52) hx hb dX4_transfer_30 (by decide) ?_
        exact retM_i (S := TS × Int32) (post := fun r _ => ((v < 0 ∨ ¬ (0 ≤ x ∧ x ≤ 1)) ∧ r = -2) ∨ (¬ (v < 0 ∨ ¬ (0 ≤ x ∧ x ≤ 1)) ∧ ((nI (m_Z ln cn se isI we br ma sf pa).1 ≤ v ∧ r = -9) ∨ (∃ i7, i7 < (m_Z ln cn se isI we br ma sf pa).1 ∧ v = nI i7 ∧ r = if x = 0 then nI ((m_Z ln cn se isI we br ma sf pa).2.2.1 i7) else nI ((m_Z ln cn se isI we br ma sf pa).2.2.2.1 i7))))) (w2 := fun u => mQt cI cJ cZ k ln cn u.2 se isI we br ma sf pa u.1.1 ++ mT cI cJ k u.1.2.2.1 u.1.2.2.2.1 u.1.2.2.2.2.1 u.1.2.2.2.2.2.1 u.1.2.2.2.2.2.2.1 u.1.2.2.2.2.2.2.2) (((u_17.1.1, u_17.1.2.1, u_17.1.2.2.1, u_17.1.2.2.2.1, u_17.1.2.2.2.2), 0, u_17.2.2.1, u_17.2.2.2.1, u_17.2.2.2.2.1, u_17.2.2.2.2.2.1, u_17.2.2.2.2.2.2.1, u_17.2.2.2.2.2.2.2), (nI u_17.2.1)) hx hb hr hlocks (by exact Or.inr ⟨fun h => h.elim c_1 (fun h => h hw_7), Or.inl ⟨hge, rfl⟩⟩) hP hK hD hS dX4_transfer_52
    · refine lv_if_ne (tgt := 16) hx hb dX4_transfer_10 (by decide) (fun h => absurd h (by decide)) (fun c_10 => ?_)
      refine lv_bipush (v := (-2)) hx hb dX4_transfer_13 (by decide) ?_
      exact retM_i (S := TS × Int32) (post := fun r _ => ((v < 0 ∨ ¬ (0 ≤ x ∧ x ≤ 1)) ∧ r = -2) ∨ (¬ (v < 0 ∨ ¬ (0 ≤ x ∧ x ≤ 1)) ∧ ((nI (m_Z ln cn se isI we br ma sf pa).1 ≤ v ∧ r = -9) ∨ (∃ i7, i7 < (m_Z ln cn se isI we br ma sf pa).1 ∧ v = nI i7 ∧ r = if x = 0 then nI ((m_Z ln cn se isI we br ma sf pa).2.2.1 i7) else nI ((m_Z ln cn se isI we br ma sf pa).2.2.2.1 i7))))) (w2 := fun u => mQt cI cJ cZ k ln cn u.2 se isI we br ma sf pa u.1.1 ++ mT cI cJ k u.1.2.2.1 u.1.2.2.2.1 u.1.2.2.2.2.1 u.1.2.2.2.2.2.1 u.1.2.2.2.2.2.2.1 u.1.2.2.2.2.2.2.2) (((r, aU, aL, uU, uL), 0, oU, oL, gi, ta, gU, gL), tm) hx hb hr hlocks (by first | exact Or.inl ⟨Or.inl c_1, rfl⟩ | exact Or.inl ⟨Or.inr hw_7, rfl⟩) hP hK hD hS dX4_transfer_15
set_option maxHeartbeats 4000000 in
set_option maxRecDepth 100000 in
theorem c_X4_given (sz : Nat) (v wh : Int32) (hok : m_ok ln cn isI we br ma sf) (hwe : ∀ u, u < 6 → 0 ≤ (we u).toInt ∧ (we u).toInt ≤ 100) (hfo : ∀ j, j < 6 → ¬ isI j = 0 → f_ok (m_due we br ma j (m_dU ln cn se isI we br ma sf (m_un ma j))) (m_duN ln cn se isI we br ma sf 6)) (hpa : 0 ≤ (m_paN pa 6).toInt ∧ (m_paN pa 6).toInt ≤ 10000000) (hpw : ∀ j, j < 6 → 0 ≤ (pa j).toInt ∧ (pa j).toInt ≤ 10000000) (D : Nat) (hDq : 0 < D ∧ D ≤ 100000) (hf0 : ∀ j, j < 6 → bd (m_f0 ln cn se isI we br ma sf pa j) D 2000000) : Met l yX4_given (wT yX4_given cX4_given 3 (some .long)) ({ frames := 7, cells := 0, slots := 0, locals := 174 }) (pM (dC, dI) (ty3 cI cJ cZ) ((mQ cI cZ k r ln cn tm se isI we br ma sf pa) ++ (mS cJ k aU aL uU uL) ++ (mT cI cJ k oU oL gi ta gU gL)) [.ref (k 0), .int v, .int wh] sz) (va_Ql (S := TS × Int32) (fun r _ => ((v < 0 ∨ ¬ (0 ≤ wh ∧ wh ≤ 1)) ∧ r = (-9223372036854775808)) ∨ (¬ (v < 0 ∨ ¬ (0 ≤ wh ∧ wh ≤ 1)) ∧ ((nI (m_Z ln cn se isI we br ma sf pa).1 ≤ v ∧ r = (-9223372036854775808)) ∨ (∃ i7, i7 < (m_Z ln cn se isI we br ma sf pa).1 ∧ v = nI i7 ∧ r = tellQ ((m_Z ln cn se isI we br ma sf pa).2.2.2.2 i7) wh)))) (fun u t9 => bM (dC, dI) (ty3 cI cJ cZ) (va_A ((mQ cI cZ k r ln cn tm se isI we br ma sf pa) ++ (mS cJ k aU aL uU uL) ++ (mT cI cJ k oU oL gi ta gU gL)) sz) (mQt cI cJ cZ k ln cn u.2 se isI we br ma sf pa u.1.1 ++ mT cI cJ k u.1.2.2.1 u.1.2.2.2.1 u.1.2.2.2.2.1 u.1.2.2.2.2.2.1 u.1.2.2.2.2.2.2.1 u.1.2.2.2.2.2.2.2) t9) (va_A ((mQ cI cZ k r ln cn tm se isI we br ma sf pa) ++ (mS cJ k aU aL uU uL) ++ (mT cI cJ k oU oL gi ta gU gL)) sz)) 0 0 (va_A ((mQ cI cZ k r ln cn tm se isI we br ma sf pa) ++ (mS cJ k aU aL uU uL) ++ (mT cI cJ k oU oL gi ta gU gL)) sz) := by
  refine Met.ofW (cc := cX4_given) (maxL := 3) (ret := (some .long)) (by decide) rfl ?_
  intro p e s m args below meth c s₁ B hml hv
  obtain ⟨rfl, hsz, hP, hK, hD0⟩ := hv
  have hx := B.exec
  have hb := B.bytes
  have hr := B.returns
  have hts := atoms_spec (ws := wT yX4_given cX4_given 3 (some .long)) B.pre
  have hT := wT_T hts
  have hown : s.vm.findClass RX4 = some m.cls := findClass_of_methodNamed B.named
  have hlocks := B.notSynchronized
  subst hsz
  have hD := hD0.self (sz := s.heap.size)
  generalize hAe : va_A ((mQ cI cZ k r ln cn tm se isI we br ma sf pa) ++ (mS cJ k aU aL uU uL) ++ (mT cI cJ k oU oL gi ta gU gL)) s.heap.size = A at hD ⊢
  have hA : ∀ q : Nat, s.heap.size ≤ q → A q := fun q h => by rw [← hAe]; exact Or.inr h
  have hS : va_S A s.heap s.heap [] := va_S.rf
  have hl := lv_entry ([.ref (k 0), .int v, .int wh]) (n := 3) (Nat.le_of_ble_eq_true rfl)
  rw [lg_entry_eq]
  generalize (lg_sl ([.ref (k 0), .int v, .int wh]) ++ List.replicate (3 - (lg_sl ([.ref (k 0), .int v, .int wh])).length) Slot.unset).toArray = ls at hl ⊢
  have hl : lv_has ls 3 [(0, .ref (k 0)), (1, .int v), (2, .int wh)] := hl
  refine lv_iload_n hx hb dX4_given_0 rfl (lv_at hl 1 rfl) ?_
  refine lv_if_lt (tgt := 11) hx hb dX4_given_1 (by decide) (fun c_1 => ?_) (fun c_1 => ?_)
  · refine lv_ldc2 hx hb hown (hT _ kj_X4_152) dX4_given_11 ?_
    exact retM_l (S := TS × Int32) (post := fun r _ => ((v < 0 ∨ ¬ (0 ≤ wh ∧ wh ≤ 1)) ∧ r = (-9223372036854775808)) ∨ (¬ (v < 0 ∨ ¬ (0 ≤ wh ∧ wh ≤ 1)) ∧ ((nI (m_Z ln cn se isI we br ma sf pa).1 ≤ v ∧ r = (-9223372036854775808)) ∨ (∃ i7, i7 < (m_Z ln cn se isI we br ma sf pa).1 ∧ v = nI i7 ∧ r = tellQ ((m_Z ln cn se isI we br ma sf pa).2.2.2.2 i7) wh)))) (w2 := fun u => mQt cI cJ cZ k ln cn u.2 se isI we br ma sf pa u.1.1 ++ mT cI cJ k u.1.2.2.1 u.1.2.2.2.1 u.1.2.2.2.2.1 u.1.2.2.2.2.2.1 u.1.2.2.2.2.2.2.1 u.1.2.2.2.2.2.2.2) (((r, aU, aL, uU, uL), 0, oU, oL, gi, ta, gU, gL), tm) hx hb hr hlocks (by first | exact Or.inl ⟨Or.inl c_1, rfl⟩ | exact Or.inl ⟨Or.inr hw_5, rfl⟩) hP hK hD hS dX4_given_14
  · refine lv_iload_n hx hb dX4_given_4 rfl (lv_at hl 2 rfl) ?_
    refine vp_callSi (rRS (As := [.int wh]) (rest := []) ⟨hx, hb, hml, hown, hT⟩ (c_X4_isWhich (l := l) wh) (cwTS 1 hT kc_X4_isWhich km_X4_149 kt_X4_isWhich kn_X4 rfl rfl md_X4_isWhich ⟨Nat.le_of_ble_eq_true rfl, Nat.le_of_ble_eq_true rfl⟩) nilP hK  rfl hl.1 rfl (Nat.le_of_ble_eq_true rfl) dX4_given_5 ⟨Nat.le_of_ble_eq_true rfl, Nat.le_of_ble_eq_true rfl⟩) (fun r_5 hw_5 => ?_)
    rcases hw_5 with ⟨rfl, hw_5⟩ | ⟨rfl, hw_5⟩
    · refine lv_if_ne (tgt := 15) hx hb dX4_given_8 (by decide) (fun c_8 => ?_) (fun h => absurd h (by decide))
      refine lv_aload_n hx hb dX4_given_15 rfl (lv_at hl 0 rfl) ?_
      refine fM_v (wc := (mQ cI cZ k r ln cn tm se isI we br ma sf pa) ++ (mS cJ k aU aL uU uL) ++ (mT cI cJ k oU oL gi ta gU gL)) (wr := []) (rMV (wc := (mQ cI cZ k r ln cn tm se isI we br ma sf pa) ++ (mS cJ k aU aL uU uL) ++ (mT cI cJ k oU oL gi ta gU gL)) (As := []) (rest := []) ⟨hx, hb, hml, hown, hT⟩ (c_X4_findTransfers (l := l) s.heap.size hok hwe hfo hpa hpw D hDq hf0) (cwTV 0 hT kc_X4_findTransfers km_X4_194 ki_X4_findTransfers ks_X4_findTransfers kn_X4 rfl rfl md_X4_findTransfers ⟨Nat.le_of_ble_eq_true rfl, Nat.le_of_ble_eq_true rfl⟩) hP hD hK (va_recv hK hP (ci := 4) (q0 := 0) rfl rfl) rfl hl.1 rfl (Nat.le_of_ble_eq_true rfl) dX4_given_16 ⟨Nat.le_of_ble_eq_true rfl, Nat.le_of_ble_eq_true rfl⟩) hP hD hS hA (fun u_16 H locs hw_16 hP hD hS => ?_)
      have hP : va_P (dC, dI) vwCl ((mQ cI cZ k u_16.1.1 ln cn (nI u_16.2.1) se isI we br ma sf pa) ++ (mS cJ k u_16.1.2.1 u_16.1.2.2.1 u_16.1.2.2.2.1 u_16.1.2.2.2.2) ++ (mT cI cJ k u_16.2.2.1 u_16.2.2.2.1 u_16.2.2.2.2.1 u_16.2.2.2.2.2.1 u_16.2.2.2.2.2.2.1 u_16.2.2.2.2.2.2.2)) H := hP
      have hD : va_D A ((mQ cI cZ k u_16.1.1 ln cn (nI u_16.2.1) se isI we br ma sf pa) ++ (mS cJ k u_16.1.2.1 u_16.1.2.2.1 u_16.1.2.2.2.1 u_16.1.2.2.2.2) ++ (mT cI cJ k u_16.2.2.1 u_16.2.2.2.1 u_16.2.2.2.2.1 u_16.2.2.2.2.2.1 u_16.2.2.2.2.2.2.1 u_16.2.2.2.2.2.2.2)) := hD
      obtain ⟨hz1, hz2, hz3⟩ := hw_16
      refine lv_iload_n hx hb dX4_given_19 rfl (lv_at hl 1 rfl) ?_
      refine lv_aload_n hx hb dX4_given_20 rfl (lv_at hl 0 rfl) ?_
      refine va_get (D := (dC, dI)) (ci := 4) (v := .int (nI u_16.2.1)) (C := RX4) (T := TX4) (N := 22) hx hb hT hiX4 hown hK hP 0 rfl rfl 17 (by decide) (hT _ kf_X4_185) (fun _ h9 => h9) rfl dX4_given_21 ?_
      refine lv_icmp_lt (tgt := 33) hx hb dX4_given_24 (by decide) (fun c_24 => ?_) (fun c_24 => ?_)
      · obtain ⟨j, hj, rfl⟩ := nI_below (Int32.not_lt.mp c_1) hz2 c_24
        rw [hz1] at hj
        refine lv_iload_n hx hb dX4_given_33 rfl (lv_at hl 2 rfl) ?_
        refine lv_if_ne (tgt := 46) hx hb dX4_given_34 (by decide) (fun c_34 => ?_) (fun c_34 => ?_)
        · refine lv_aload_n hx hb dX4_given_46 rfl (lv_at hl 0 rfl) ?_
          refine va_get (D := (dC, dI)) (ci := 4) (v := .ref (k 17)) (C := RX4) (T := TX4) (N := 22) hx hb hT hiX4 hown hK hP 0 rfl rfl 21 (by decide) (hT _ kf_X4_64) (fun _ h9 => h9) rfl dX4_given_47 ?_
          refine lv_iload_n hx hb dX4_given_50 rfl (lv_at hl 1 rfl) ?_
          refine ald_l hx hb hK hP 17 1 rfl rfl (by decide) (w := j) rfl (by omega) dX4_given_51 ?_
          refine topl_eq (y := (iL (((m_Z ln cn se isI we br ma sf pa).2.2.2.2 j).den : Int))) (hz3 j hj).2.2.2 ?_
          exact retM_l (S := TS × Int32) (post := fun r _ => (((nI j) < 0 ∨ ¬ (0 ≤ wh ∧ wh ≤ 1)) ∧ r = (-9223372036854775808)) ∨ (¬ ((nI j) < 0 ∨ ¬ (0 ≤ wh ∧ wh ≤ 1)) ∧ ((nI (m_Z ln cn se isI we br ma sf pa).1 ≤ (nI j) ∧ r = (-9223372036854775808)) ∨ (∃ i7, i7 < (m_Z ln cn se isI we br ma sf pa).1 ∧ (nI j) = nI i7 ∧ r = tellQ ((m_Z ln cn se isI we br ma sf pa).2.2.2.2 i7) wh)))) (w2 := fun u => mQt cI cJ cZ k ln cn u.2 se isI we br ma sf pa u.1.1 ++ mT cI cJ k u.1.2.2.1 u.1.2.2.2.1 u.1.2.2.2.2.1 u.1.2.2.2.2.2.1 u.1.2.2.2.2.2.2.1 u.1.2.2.2.2.2.2.2) (((u_16.1.1, u_16.1.2.1, u_16.1.2.2.1, u_16.1.2.2.2.1, u_16.1.2.2.2.2), 0, u_16.2.2.1, u_16.2.2.2.1, u_16.2.2.2.2.1, u_16.2.2.2.2.2.1, u_16.2.2.2.2.2.2.1, u_16.2.2.2.2.2.2.2), (nI u_16.2.1)) hx hb hr hlocks (by exact Or.inr ⟨fun h => h.elim c_1 (fun h => h hw_5), Or.inr ⟨j, hj, rfl, (if_neg c_34).symm⟩⟩) hP hK hD hS dX4_given_52
        · refine lv_aload_n hx hb dX4_given_37 rfl (lv_at hl 0 rfl) ?_
          refine va_get (D := (dC, dI)) (ci := 4) (v := .ref (k 16)) (C := RX4) (T := TX4) (N := 22) hx hb hT hiX4 hown hK hP 0 rfl rfl 20 (by decide) (hT _ kf_X4_61) (fun _ h9 => h9) rfl dX4_given_38 ?_
          refine lv_iload_n hx hb dX4_given_41 rfl (lv_at hl 1 rfl) ?_
          refine ald_l hx hb hK hP 16 1 rfl rfl (by decide) (w := j) rfl (by omega) dX4_given_42 ?_
          refine topl_eq (y := (iL ((m_Z ln cn se isI we br ma sf pa).2.2.2.2 j).num)) (hz3 j hj).2.2.1 ?_
          refine lv_goto (tgt := 52) hx hb dX4_given_43 (by decide) ?_
          exact retM_l (S := TS × Int32) (post := fun r _ => (((nI j) < 0 ∨ ¬ (0 ≤ wh ∧ wh ≤ 1)) ∧ r = (-9223372036854775808)) ∨ (¬ ((nI j) < 0 ∨ ¬ (0 ≤ wh ∧ wh ≤ 1)) ∧ ((nI (m_Z ln cn se isI we br ma sf pa).1 ≤ (nI j) ∧ r = (-9223372036854775808)) ∨ (∃ i7, i7 < (m_Z ln cn se isI we br ma sf pa).1 ∧ (nI j) = nI i7 ∧ r = tellQ ((m_Z ln cn se isI we br ma sf pa).2.2.2.2 i7) wh)))) (w2 := fun u => mQt cI cJ cZ k ln cn u.2 se isI we br ma sf pa u.1.1 ++ mT cI cJ k u.1.2.2.1 u.1.2.2.2.1 u.1.2.2.2.2.1 u.1.2.2.2.2.2.1 u.1.2.2.2.2.2.2.1 u.1.2.2.2.2.2.2.2) (((u_16.1.1, u_16.1.2.1, u_16.1.2.2.1, u_16.1.2.2.2.1, u_16.1.2.2.2.2), 0, u_16.2.2.1, u_16.2.2.2.1, u_16.2.2.2.2.1, u_16.2.2.2.2.2.1, u_16.2.2.2.2.2.2.1, u_16.2.2.2.2.2.2.2), (nI u_16.2.1)) hx hb hr hlocks (by exact Or.inr ⟨fun h => h.elim c_1 (fun h => h hw_5), Or.inr ⟨j, hj, rfl, (if_pos c_34).symm⟩⟩) hP hK hD hS dX4_given_52
      · have hge := Int32.not_lt.mp c_24
        rw [hz1] at hge
        refine lv_ldc2 hx hb hown (hT _ kj_X4_152) dX4_given_27 ?_
        refine lv_goto (tgt := 52) hx hb dX4_given_30 (by decide) ?_
        exact retM_l (S := TS × Int32) (post := fun r _ => ((v < 0 ∨ ¬ (0 ≤ wh ∧ wh ≤ 1)) ∧ r = (-9223372036854775808)) ∨ (¬ (v < 0 ∨ ¬ (0 ≤ wh ∧ wh ≤ 1)) ∧ ((nI (m_Z ln cn se isI we br ma sf pa).1 ≤ v ∧ r = (-9223372036854775808)) ∨ (∃ i7, i7 < (m_Z ln cn se isI we br ma sf pa).1 ∧ v = nI i7 ∧ r = tellQ ((m_Z ln cn se isI we br ma sf pa).2.2.2.2 i7) wh)))) (w2 := fun u => mQt cI cJ cZ k ln cn u.2 se isI we br ma sf pa u.1.1 ++ mT cI cJ k u.1.2.2.1 u.1.2.2.2.1 u.1.2.2.2.2.1 u.1.2.2.2.2.2.1 u.1.2.2.2.2.2.2.1 u.1.2.2.2.2.2.2.2) (((u_16.1.1, u_16.1.2.1, u_16.1.2.2.1, u_16.1.2.2.2.1, u_16.1.2.2.2.2), 0, u_16.2.2.1, u_16.2.2.2.1, u_16.2.2.2.2.1, u_16.2.2.2.2.2.1, u_16.2.2.2.2.2.2.1, u_16.2.2.2.2.2.2.2), (nI u_16.2.1)) hx hb hr hlocks (by exact Or.inr ⟨fun h => h.elim c_1 (fun h => h hw_5), Or.inl ⟨hge, rfl⟩⟩) hP hK hD hS dX4_given_52
    · refine lv_if_ne (tgt := 15) hx hb dX4_given_8 (by decide) (fun h => absurd h (by decide)) (fun c_8 => ?_)
      refine lv_ldc2 hx hb hown (hT _ kj_X4_152) dX4_given_11 ?_
      exact retM_l (S := TS × Int32) (post := fun r _ => ((v < 0 ∨ ¬ (0 ≤ wh ∧ wh ≤ 1)) ∧ r = (-9223372036854775808)) ∨ (¬ (v < 0 ∨ ¬ (0 ≤ wh ∧ wh ≤ 1)) ∧ ((nI (m_Z ln cn se isI we br ma sf pa).1 ≤ v ∧ r = (-9223372036854775808)) ∨ (∃ i7, i7 < (m_Z ln cn se isI we br ma sf pa).1 ∧ v = nI i7 ∧ r = tellQ ((m_Z ln cn se isI we br ma sf pa).2.2.2.2 i7) wh)))) (w2 := fun u => mQt cI cJ cZ k ln cn u.2 se isI we br ma sf pa u.1.1 ++ mT cI cJ k u.1.2.2.1 u.1.2.2.2.1 u.1.2.2.2.2.1 u.1.2.2.2.2.2.1 u.1.2.2.2.2.2.2.1 u.1.2.2.2.2.2.2.2) (((r, aU, aL, uU, uL), 0, oU, oL, gi, ta, gU, gL), tm) hx hb hr hlocks (by first | exact Or.inl ⟨Or.inl c_1, rfl⟩ | exact Or.inl ⟨Or.inr hw_5, rfl⟩) hP hK hD hS dX4_given_14
