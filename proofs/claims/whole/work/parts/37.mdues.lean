variable {l : Launch} {dC : Nat → ClassId} {dI : Nat → Nat → Nat} {cI cJ cZ : ClassId}
variable {q : Nat → Nat} {ln cw ic bs ss : Int32} {se we un sf pa : Nat → Int32}
variable {ct : Int32} {ov gf : Nat → Int64} {gi ta : Nat → Int32}
variable {k : Nat → Nat} {r : Rat} {up lo : Int64} {cn tm : Int32} {isI br ma : Nat → Int32} {aU aL uU uL oU oL gU gL : Nat → Int64}

theorem bp_0 {x : Int32} {P : Prop} (h : bp x P) (hx : x = 0) : ¬ P := by
  rcases h with ⟨h1, -⟩ | ⟨-, h2⟩
  · exact absurd (h1.symm.trans hx) (by decide)
  · exact h2
theorem bp_1 {x : Int32} {P : Prop} (h : bp x P) (hx : ¬ x = 0) : P := by
  rcases h with ⟨-, h2⟩ | ⟨h1, -⟩
  · exact h2
  · exact absurd h1 hx
theorem bd_mul {r t : Rat} {D E V U : Nat} (h1 : bd r D V) (h2 : bd t E U) (hD : 0 < D) (hE : 0 < E) : bd (r * t) (D * E) (V * U) := by
  obtain ⟨a, rfl, ha⟩ := h1
  obtain ⟨b, rfl, hb⟩ := h2
  refine ⟨a * b, ?_, ?_⟩
  · have := ic_ne hD
    have := ic_ne hE
    rw [Int.natCast_mul, Rat.intCast_mul, Rat.intCast_mul]
    grind
  · rw [Int.natAbs_mul]
    have := Nat.mul_le_mul ha hb
    have e : V * D * (U * E) = V * U * (D * E) := by rw [Nat.mul_assoc, Nat.mul_assoc, Nat.mul_left_comm D]
    omega
def m_am (se : Nat → Int32) (cn ab : Int32) : Int32 := if se 1 = 0 then ab else if se 1 = 1 then ab + cn else 0
abbrev m_ow (isI we br ma sf : Nat → Int32) (i : Nat) : Prop := m_isU isI ma i ∧ sf i = -9 ∧ ¬ m_ubr br ma i ∧ ¬ m_opN 1 isI we br ma sf 6 ≤ 0
def m_dU (ln cn : Int32) (se isI we br ma sf : Nat → Int32) (i : Nat) : Rat := if m_ow isI we br ma sf i then m_re ln cn se isI we ma sf * m_x (m_uw we ma i) (m_opN 1 isI we br ma sf 6) (m_opN 1 isI we br ma sf 6 - m_opN 0 isI we br ma sf 6) (m_am se cn (m_opN 0 isI we br ma sf 6)) else 0
def m_duN (ln cn : Int32) (se isI we br ma sf : Nat → Int32) : Nat → Rat
  | 0 => 0
  | i + 1 => if m_ow isI we br ma sf i then m_duN ln cn se isI we br ma sf i + m_dU ln cn se isI we br ma sf i else m_duN ln cn se isI we br ma sf i
theorem m_duN_p {ln cn : Int32} {se isI we br ma sf : Nat → Int32} {i : Nat} (h : m_ow isI we br ma sf i) : m_duN ln cn se isI we br ma sf (i + 1) = m_duN ln cn se isI we br ma sf i + m_dU ln cn se isI we br ma sf i := by
  show (if m_ow isI we br ma sf i then _ else _) = _
  rw [if_pos h]
theorem m_duN_n {ln cn : Int32} {se isI we br ma sf : Nat → Int32} {i : Nat} (h : ¬ m_ow isI we br ma sf i) : m_duN ln cn se isI we br ma sf (i + 1) = m_duN ln cn se isI we br ma sf i := by
  show (if m_ow isI we br ma sf i then _ else _) = _
  rw [if_neg h]
def m_uUN (ln cn : Int32) (se isI we br ma sf : Nat → Int32) (uU : Nat → Int64) : Nat → (Nat → Int64)
  | 0 => uU
  | i + 1 => vp_updL (m_uUN ln cn se isI we br ma sf uU i) i (iL (m_dU ln cn se isI we br ma sf i).num)
def m_uLN (ln cn : Int32) (se isI we br ma sf : Nat → Int32) (uL : Nat → Int64) : Nat → (Nat → Int64)
  | 0 => uL
  | i + 1 => vp_updL (m_uLN ln cn se isI we br ma sf uL i) i (iL ((m_dU ln cn se isI we br ma sf i).den : Int))
theorem m_uUN_s (ln cn : Int32) (se isI we br ma sf : Nat → Int32) (uU : Nat → Int64) (i : Nat) : m_uUN ln cn se isI we br ma sf uU (i + 1) = vp_updL (m_uUN ln cn se isI we br ma sf uU i) i (iL (m_dU ln cn se isI we br ma sf i).num) := rfl
theorem m_uLN_s (ln cn : Int32) (se isI we br ma sf : Nat → Int32) (uL : Nat → Int64) (i : Nat) : m_uLN ln cn se isI we br ma sf uL (i + 1) = vp_updL (m_uLN ln cn se isI we br ma sf uL i) i (iL ((m_dU ln cn se isI we br ma sf i).den : Int)) := rfl
theorem m_dU_p {ln cn : Int32} {se isI we br ma sf : Nat → Int32} {i : Nat} (h : m_ow isI we br ma sf i) : m_dU ln cn se isI we br ma sf i = m_re ln cn se isI we ma sf * m_x (m_uw we ma i) (m_opN 1 isI we br ma sf 6) (m_opN 1 isI we br ma sf 6 - m_opN 0 isI we br ma sf 6) (m_am se cn (m_opN 0 isI we br ma sf 6)) := by
  unfold m_dU; rw [if_pos h]
theorem m_dU_n {ln cn : Int32} {se isI we br ma sf : Nat → Int32} {i : Nat} (h : ¬ m_ow isI we br ma sf i) : m_dU ln cn se isI we br ma sf i = 0 := by
  unfold m_dU; rw [if_neg h]
theorem m_xin {ln cn : Int32} {se isI we br ma sf : Nat → Int32} (h : m_ok ln cn isI we br ma sf) {i : Nat} (hi : i < 6) (ho : m_ow isI we br ma sf i) : x_in (m_uw we ma i) (m_opN 1 isI we br ma sf 6) (m_opN 1 isI we br ma sf 6 - m_opN 0 isI we br ma sf 6) (m_am se cn (m_opN 0 isI we br ma sf 6)) := by
  obtain ⟨-, -, h3, h4, -, h6, h7⟩ := h
  have h4 := h4 i hi
  have h7 := h7 i hi ho.1 ho.2.1 ho.2.2.1
  have hp := le0_of ho.2.2.2
  have e : (m_opN 1 isI we br ma sf 6 - m_opN 0 isI we br ma sf 6).toInt = (m_opN 1 isI we br ma sf 6).toInt - (m_opN 0 isI we br ma sf 6).toInt := i32_sub (by omega) (by omega)
  refine ⟨by omega, by omega, ?_⟩
  unfold m_am
  split
  · exact Or.inr ⟨h7, by omega⟩
  · split
    · have e2 : (m_opN 0 isI we br ma sf 6 + cn).toInt = (m_opN 0 isI we br ma sf 6).toInt + cn.toInt := i32_add (by omega) (by omega)
      exact Or.inr ⟨by omega, by omega⟩
    · exact Or.inl (by decide)
def m_DD (cn : Int32) (se isI we br ma sf : Nat → Int32) : Nat := if m_opN 1 isI we br ma sf 6 ≤ 0 then m_D cn isI we else m_D cn isI we * x_D (m_opN 1 isI we br ma sf 6) (m_am se cn (m_opN 0 isI we br ma sf 6))
theorem m_DD_bd {ln cn : Int32} {se isI we br ma sf : Nat → Int32} (h : m_ok ln cn isI we br ma sf) : 0 < m_DD cn se isI we br ma sf ∧ m_DD cn se isI we br ma sf ≤ 294000000 ∧ m_D cn isI we ∣ m_DD cn se isI we br ma sf := by
  have hD := m_D_bd h
  unfold m_DD
  split
  · exact ⟨hD.1, by omega, Nat.dvd_refl _⟩
  · rename_i hz
    have hz2 := le0_of hz
    obtain ⟨-, -, h3, -, -, h6, -⟩ := h
    have e : 1 ≤ (if m_am se cn (m_opN 0 isI we br ma sf 6) ≤ 0 then 1 else (m_am se cn (m_opN 0 isI we br ma sf 6)).toInt.natAbs) ∧ (if m_am se cn (m_opN 0 isI we br ma sf 6) ≤ 0 then 1 else (m_am se cn (m_opN 0 isI we br ma sf 6)).toInt.natAbs) ≤ 700 := by
      have e2 : (m_opN 0 isI we br ma sf 6 + cn).toInt = (m_opN 0 isI we br ma sf 6).toInt + cn.toInt := i32_add (by omega) (by omega)
      have e3 : (m_am se cn (m_opN 0 isI we br ma sf 6)).toInt ≤ 700 := by
        unfold m_am
        split
        · omega
        · split
          · omega
          · decide
      split
      · omega
      · rename_i hq
        have := le0_of hq
        omega
    have hx : 0 < x_D (m_opN 1 isI we br ma sf 6) (m_am se cn (m_opN 0 isI we br ma sf 6)) ∧ x_D (m_opN 1 isI we br ma sf 6) (m_am se cn (m_opN 0 isI we br ma sf 6)) ≤ 600 * 700 := by
      unfold x_D
      exact ⟨Nat.mul_pos (by omega) (by omega), Nat.mul_le_mul (by omega) e.2⟩
    exact ⟨Nat.mul_pos hD.1 hx.1, (Nat.mul_le_mul hD.2 hx.2 : _ ≤ 700 * (600 * 700)), Nat.dvd_mul_right _ _⟩
theorem m_dU_bd {ln cn : Int32} {se isI we br ma sf : Nat → Int32} (h : m_ok ln cn isI we br ma sf) {i : Nat} (hi : i < 6) : bd (m_dU ln cn se isI we br ma sf i) (m_DD cn se isI we br ma sf) 2000000 ∧ 0 ≤ m_dU ln cn se isI we br ma sf i := by
  by_cases ho : m_ow isI we br ma sf i
  · rw [m_dU_p ho]
    have hx := m_xin (se := se) h hi ho
    have hb := m_x_bd hx
    have hr := m_re_bd (se := se) h
    have hm := bd_mul hr.1 hb.1 (m_D_bd h).1 (x_D_bd hx).1
    refine ⟨?_, Rat.mul_nonneg hr.2 hb.2⟩
    unfold m_DD
    rw [if_neg ho.2.2.2]
    exact hm
  · rw [m_dU_n ho]
    exact ⟨bd_zero _ _, Rat.le_refl⟩
theorem m_duN_bd {ln cn : Int32} {se isI we br ma sf : Nat → Int32} (h : m_ok ln cn isI we br ma sf) : ∀ i, i ≤ 6 → bd (m_duN ln cn se isI we br ma sf i) (m_DD cn se isI we br ma sf) (i * 2000000) ∧ 0 ≤ m_duN ln cn se isI we br ma sf i := by
  intro i
  induction i with
  | zero => intro _; exact ⟨bd_zero _ _, Rat.le_refl⟩
  | succ i ih =>
    intro hi
    have h1 := ih (by omega)
    have h2 := m_dU_bd (se := se) h (i := i) (by omega)
    by_cases hu : m_ow isI we br ma sf i
    · rw [m_duN_p hu, Nat.succ_mul]
      exact ⟨bd_add h1.1 h2.1, Rat.add_nonneg h1.2 h2.2⟩
    · rw [m_duN_n hu]
      exact ⟨bd_mono h1.1 (by omega), h1.2⟩
set_option maxHeartbeats 4000000 in
set_option maxRecDepth 100000 in
theorem c_X4_findDues (sz : Nat) (hok : m_ok ln cn isI we br ma sf) : Met l yX4_findDues (wT yX4_findDues cX4_findDues 6 none) ({ frames := 4, cells := 0, slots := 0, locals := 111 }) (pM (dC, dI) (ty3 cI cJ cZ) ((mQ cI cZ k r ln cn tm se isI we br ma sf pa) ++ (mS cJ k aU aL uU uL)) [.ref (k 0)] sz) (va_Qv (S := Unit) (fun _ => True) (fun u t9 => bM (dC, dI) (ty3 cI cJ cZ) (va_A ((mQ cI cZ k r ln cn tm se isI we br ma sf pa) ++ (mS cJ k aU aL uU uL)) sz) ((mQ cI cZ k ((m_re ln cn se isI we ma sf) - (m_duN ln cn se isI we br ma sf 6)) ln cn tm se isI we br ma sf pa) ++ (mS cJ k (vp_updL (vp_updL (vp_updL (vp_updL (vp_updL aU 0 (iL (m_ent ln cn se isI we).num)) 1 (iL (m_crN ln cn se isI we ma sf 6).num)) 2 (iL (m_re ln cn se isI we ma sf).num)) 4 (iL (m_duN ln cn se isI we br ma sf 6).num)) 3 (iL ((m_re ln cn se isI we ma sf) - (m_duN ln cn se isI we br ma sf 6)).num)) (vp_updL (vp_updL (vp_updL (vp_updL (vp_updL aL 0 (iL ((m_ent ln cn se isI we).den : Int))) 1 (iL ((m_crN ln cn se isI we ma sf 6).den : Int))) 2 (iL ((m_re ln cn se isI we ma sf).den : Int))) 4 (iL ((m_duN ln cn se isI we br ma sf 6).den : Int))) 3 (iL (((m_re ln cn se isI we ma sf) - (m_duN ln cn se isI we br ma sf 6)).den : Int))) (m_uUN ln cn se isI we br ma sf uU 6) (m_uLN ln cn se isI we br ma sf uL 6))) t9) (va_A ((mQ cI cZ k r ln cn tm se isI we br ma sf pa) ++ (mS cJ k aU aL uU uL)) sz)) 0 0 (va_A ((mQ cI cZ k r ln cn tm se isI we br ma sf pa) ++ (mS cJ k aU aL uU uL)) sz) := by
  refine Met.ofW (cc := cX4_findDues) (maxL := 6) (ret := none) (by decide) rfl ?_
  intro p e s m args below meth c s₁ B hml hv
  obtain ⟨rfl, hsz, hP, hK, hD0⟩ := hv
  have hx := B.exec
  have hb := B.bytes
  have hr := B.returns
  have hts := atoms_spec (ws := wT yX4_findDues cX4_findDues 6 none) B.pre
  have hT := wT_T hts
  have hown : s.vm.findClass RX4 = some m.cls := findClass_of_methodNamed B.named
  have hlocks := B.notSynchronized
  subst hsz
  have hD := hD0.self (sz := s.heap.size)
  generalize hAe : va_A ((mQ cI cZ k r ln cn tm se isI we br ma sf pa) ++ (mS cJ k aU aL uU uL)) s.heap.size = A at hD ⊢
  have hA : ∀ q : Nat, s.heap.size ≤ q → A q := fun q h => by rw [← hAe]; exact Or.inr h
  have hS : va_S A s.heap s.heap [] := va_S.rf
  have hl := lv_entry ([.ref (k 0)]) (n := 6) (Nat.le_of_ble_eq_true rfl)
  rw [lg_entry_eq]
  generalize (lg_sl ([.ref (k 0)]) ++ List.replicate (6 - (lg_sl ([.ref (k 0)])).length) Slot.unset).toArray = ls at hl ⊢
  have hl : lv_has ls 6 [(0, .ref (k 0))] := hl
  have hm := hok.1
  have hDb := m_DD_bd (se := se) hok
  have hR := m_re_bd (se := se) hok
  have hR2 := bd_dvd hR.1 hDb.1 hDb.2.2
  have hRn := bd_nd hDb.1 hR2
  refine lv_aload_n hx hb dX4_findDues_0 rfl (lv_at hl 0 rfl) ?_
  refine fM_v (wc := (mQ cI cZ k r ln cn tm se isI we br ma sf pa) ++ (mS cJ k aU aL uU uL)) (wr := []) (rMV (wc := (mQ cI cZ k r ln cn tm se isI we br ma sf pa) ++ (mS cJ k aU aL uU uL)) (As := []) (rest := []) ⟨hx, hb, hml, hown, hT⟩ (c_X4_findRest (l := l) s.heap.size hok) (cwTV 0 hT kc_X4_findRest km_X4_134 ki_X4_findRest ks_X4_findRest kn_X4 rfl rfl md_X4_findRest ⟨Nat.le_of_ble_eq_true rfl, Nat.le_of_ble_eq_true rfl⟩) hP hD hK (va_recv hK hP (ci := 4) (q0 := 0) rfl rfl) rfl hl.1 rfl (Nat.le_of_ble_eq_true rfl) dX4_findDues_1 ⟨Nat.le_of_ble_eq_true rfl, Nat.le_of_ble_eq_true rfl⟩) hP hD hS hA (fun u_1 H locs hw_1 hP hD hS => ?_)
  have hP : va_P (dC, dI) vwCl ((mQ cI cZ k (m_re ln cn se isI we ma sf) ln cn tm se isI we br ma sf pa) ++ (mS cJ k (vp_updL (vp_updL (vp_updL aU 0 (iL (m_ent ln cn se isI we).num)) 1 (iL (m_crN ln cn se isI we ma sf 6).num)) 2 (iL (m_re ln cn se isI we ma sf).num)) (vp_updL (vp_updL (vp_updL aL 0 (iL ((m_ent ln cn se isI we).den : Int))) 1 (iL ((m_crN ln cn se isI we ma sf 6).den : Int))) 2 (iL ((m_re ln cn se isI we ma sf).den : Int))) uU uL)) H := hP
  have hD : va_D A ((mQ cI cZ k (m_re ln cn se isI we ma sf) ln cn tm se isI we br ma sf pa) ++ (mS cJ k (vp_updL (vp_updL (vp_updL aU 0 (iL (m_ent ln cn se isI we).num)) 1 (iL (m_crN ln cn se isI we ma sf 6).num)) 2 (iL (m_re ln cn se isI we ma sf).num)) (vp_updL (vp_updL (vp_updL aL 0 (iL ((m_ent ln cn se isI we).den : Int))) 1 (iL ((m_crN ln cn se isI we ma sf 6).den : Int))) 2 (iL ((m_re ln cn se isI we ma sf).den : Int))) uU uL)) := hD
  refine lv_aload_n hx hb dX4_findDues_4 rfl (lv_at hl 0 rfl) ?_
  refine lv_iconst (v := 1) hx hb dX4_findDues_5 (by decide) ?_
  refine vp_callSi (rRV (As := [.int 1]) (rest := []) ⟨hx, hb, hml, hown, hT⟩ (c_X4_openWeight (l := l) 1 hm) (cwTV 1 hT kc_X4_openWeight km_X4_137 ki_X4_openWeight ks_X4_openWeight kn_X4 rfl rfl md_X4_openWeight ⟨Nat.le_of_ble_eq_true rfl, Nat.le_of_ble_eq_true rfl⟩) (va_P.sub (ws' := mW cI cZ k (iL ((m_re ln cn se isI we ma sf)).num) (iL (((m_re ln cn se isI we ma sf)).den : Int)) ln cn tm se isI we br ma sf pa) hP [0, 1, 2, 3, 4, 5, 6, 7] rfl) hK (va_recv hK hP (ci := 4) (q0 := 0) rfl rfl) rfl hl.1 rfl (Nat.le_of_ble_eq_true rfl) dX4_findDues_6 ⟨Nat.le_of_ble_eq_true rfl, Nat.le_of_ble_eq_true rfl⟩) (fun r_6 hw_6 => ?_)
  subst hw_6
  refine lv_istore_n (lv' := [(1, .int (m_opN 1 isI we br ma sf 6)), (0, .ref (k 0))]) hx hb dX4_findDues_9 rfl hl (by decide) rfl (fun ls hl => ?_)
  refine lv_aload_n hx hb dX4_findDues_10 rfl (lv_at hl 1 rfl) ?_
  refine lv_iconst (v := 0) hx hb dX4_findDues_11 (by decide) ?_
  refine vp_callSi (rRV (As := [.int 0]) (rest := []) ⟨hx, hb, hml, hown, hT⟩ (c_X4_openWeight (l := l) 0 hm) (cwTV 1 hT kc_X4_openWeight km_X4_137 ki_X4_openWeight ks_X4_openWeight kn_X4 rfl rfl md_X4_openWeight ⟨Nat.le_of_ble_eq_true rfl, Nat.le_of_ble_eq_true rfl⟩) (va_P.sub (ws' := mW cI cZ k (iL ((m_re ln cn se isI we ma sf)).num) (iL (((m_re ln cn se isI we ma sf)).den : Int)) ln cn tm se isI we br ma sf pa) hP [0, 1, 2, 3, 4, 5, 6, 7] rfl) hK (va_recv hK hP (ci := 4) (q0 := 0) rfl rfl) rfl hl.1 rfl (Nat.le_of_ble_eq_true rfl) dX4_findDues_12 ⟨Nat.le_of_ble_eq_true rfl, Nat.le_of_ble_eq_true rfl⟩) (fun r_12 hw_12 => ?_)
  subst hw_12
  refine lv_istore_n (lv' := [(2, .int (m_opN 0 isI we br ma sf 6)), (1, .int (m_opN 1 isI we br ma sf 6)), (0, .ref (k 0))]) hx hb dX4_findDues_15 rfl hl (by decide) rfl (fun ls hl => ?_)
  refine cutI (pc2 := 49) (st := []) (fun x => x = (m_am se cn (m_opN 0 isI we br ma sf 6))) (fun xc2 hxc2 => ?_) (fun hJ1 => ?_)
  · subst hxc2
    refine lv_istore_n (lv' := [(3, .int (m_am se cn (m_opN 0 isI we br ma sf 6))), (2, .int (m_opN 0 isI we br ma sf 6)), (1, .int (m_opN 1 isI we br ma sf 6)), (0, .ref (k 0))]) hx hb dX4_findDues_49 rfl hl (by decide) rfl (fun ls hl => ?_)
    refine lv_aload_n hx hb dX4_findDues_50 rfl (lv_at hl 3 rfl) ?_
    refine va_get (D := (dC, dI)) (ci := 4) (v := .ref (k 8)) (C := RX4) (T := TX4) (N := 22) hx hb hT hiX4 hown hK hP 0 rfl rfl 11 (by decide) (hT _ kf_X4_36) (fun _ h9 => h9) rfl dX4_findDues_51 ?_
    refine lv_iconst (v := 4) hx hb dX4_findDues_54 (by decide) ?_
    refine lv_lconst (v := iL 0) hx hb dX4_findDues_55 rfl ?_
    refine ast_l hx hb hK hP hD hS 8 1 rfl rfl (by decide) (w := 4) rfl (by decide) dX4_findDues_56 (fun H locs hP hD hS => ?_)
    have hP : va_P (dC, dI) vwCl ((mQ cI cZ k (m_re ln cn se isI we ma sf) ln cn tm se isI we br ma sf pa) ++ (mS cJ k (vp_updL (vp_updL (vp_updL (vp_updL aU 0 (iL (m_ent ln cn se isI we).num)) 1 (iL (m_crN ln cn se isI we ma sf 6).num)) 2 (iL (m_re ln cn se isI we ma sf).num)) 4 (iL 0)) (vp_updL (vp_updL (vp_updL aL 0 (iL ((m_ent ln cn se isI we).den : Int))) 1 (iL ((m_crN ln cn se isI we ma sf 6).den : Int))) 2 (iL ((m_re ln cn se isI we ma sf).den : Int))) uU uL)) H := hP
    have hD : va_D A ((mQ cI cZ k (m_re ln cn se isI we ma sf) ln cn tm se isI we br ma sf pa) ++ (mS cJ k (vp_updL (vp_updL (vp_updL (vp_updL aU 0 (iL (m_ent ln cn se isI we).num)) 1 (iL (m_crN ln cn se isI we ma sf 6).num)) 2 (iL (m_re ln cn se isI we ma sf).num)) 4 (iL 0)) (vp_updL (vp_updL (vp_updL aL 0 (iL ((m_ent ln cn se isI we).den : Int))) 1 (iL ((m_crN ln cn se isI we ma sf 6).den : Int))) 2 (iL ((m_re ln cn se isI we ma sf).den : Int))) uU uL)) := hD
    refine lv_aload_n hx hb dX4_findDues_57 rfl (lv_at hl 3 rfl) ?_
    refine va_get (D := (dC, dI)) (ci := 4) (v := .ref (k 9)) (C := RX4) (T := TX4) (N := 22) hx hb hT hiX4 hown hK hP 0 rfl rfl 12 (by decide) (hT _ kf_X4_40) (fun _ h9 => h9) rfl dX4_findDues_58 ?_
    refine lv_iconst (v := 4) hx hb dX4_findDues_61 (by decide) ?_
    refine lv_lconst (v := iL 1) hx hb dX4_findDues_62 rfl ?_
    refine ast_l hx hb hK hP hD hS 9 1 rfl rfl (by decide) (w := 4) rfl (by decide) dX4_findDues_63 (fun H locs hP hD hS => ?_)
    have hP : va_P (dC, dI) vwCl ((mQ cI cZ k (m_re ln cn se isI we ma sf) ln cn tm se isI we br ma sf pa) ++ (mS cJ k (vp_updL (vp_updL (vp_updL (vp_updL aU 0 (iL (m_ent ln cn se isI we).num)) 1 (iL (m_crN ln cn se isI we ma sf 6).num)) 2 (iL (m_re ln cn se isI we ma sf).num)) 4 (iL 0)) (vp_updL (vp_updL (vp_updL (vp_updL aL 0 (iL ((m_ent ln cn se isI we).den : Int))) 1 (iL ((m_crN ln cn se isI we ma sf 6).den : Int))) 2 (iL ((m_re ln cn se isI we ma sf).den : Int))) 4 (iL 1)) uU uL)) H := hP
    have hD : va_D A ((mQ cI cZ k (m_re ln cn se isI we ma sf) ln cn tm se isI we br ma sf pa) ++ (mS cJ k (vp_updL (vp_updL (vp_updL (vp_updL aU 0 (iL (m_ent ln cn se isI we).num)) 1 (iL (m_crN ln cn se isI we ma sf 6).num)) 2 (iL (m_re ln cn se isI we ma sf).num)) 4 (iL 0)) (vp_updL (vp_updL (vp_updL (vp_updL aL 0 (iL ((m_ent ln cn se isI we).den : Int))) 1 (iL ((m_crN ln cn se isI we ma sf 6).den : Int))) 2 (iL ((m_re ln cn se isI we ma sf).den : Int))) 4 (iL 1)) uU uL)) := hD
    refine lv_iconst (v := 0) hx hb dX4_findDues_64 (by decide) ?_
    refine lv_istore (lv' := [(4, .int 0), (3, .int (m_am se cn (m_opN 0 isI we br ma sf 6))), (2, .int (m_opN 0 isI we br ma sf 6)), (1, .int (m_opN 1 isI we br ma sf 6)), (0, .ref (k 0))]) hx hb dX4_findDues_65 hl (by decide) rfl (fun ls hl => ?_)
    refine loopM (fun nn ls H locs => ∃ i : Nat, ∃ (r1 : Rat), i ≤ 6 ∧ nn = 6 - i ∧ True ∧ lv_has ls 6 [(4, .int (nI i)), (3, .int (m_am se cn (m_opN 0 isI we br ma sf 6))), (2, .int (m_opN 0 isI we br ma sf 6)), (1, .int (m_opN 1 isI we br ma sf 6)), (0, .ref (k 0))] ∧ va_P (dC, dI) vwCl ((mQ cI cZ k r1 ln cn tm se isI we br ma sf pa) ++ (mS cJ k (vp_updL (vp_updL (vp_updL (vp_updL aU 0 (iL (m_ent ln cn se isI we).num)) 1 (iL (m_crN ln cn se isI we ma sf 6).num)) 2 (iL (m_re ln cn se isI we ma sf).num)) 4 (iL (m_duN ln cn se isI we br ma sf i).num)) (vp_updL (vp_updL (vp_updL (vp_updL aL 0 (iL ((m_ent ln cn se isI we).den : Int))) 1 (iL ((m_crN ln cn se isI we ma sf 6).den : Int))) 2 (iL ((m_re ln cn se isI we ma sf).den : Int))) 4 (iL ((m_duN ln cn se isI we br ma sf i).den : Int))) (m_uUN ln cn se isI we br ma sf uU i) (m_uLN ln cn se isI we br ma sf uL i))) H ∧ va_D A ((mQ cI cZ k r1 ln cn tm se isI we br ma sf pa) ++ (mS cJ k (vp_updL (vp_updL (vp_updL (vp_updL aU 0 (iL (m_ent ln cn se isI we).num)) 1 (iL (m_crN ln cn se isI we ma sf 6).num)) 2 (iL (m_re ln cn se isI we ma sf).num)) 4 (iL (m_duN ln cn se isI we br ma sf i).num)) (vp_updL (vp_updL (vp_updL (vp_updL aL 0 (iL ((m_ent ln cn se isI we).den : Int))) 1 (iL ((m_crN ln cn se isI we ma sf 6).den : Int))) 2 (iL ((m_re ln cn se isI we ma sf).den : Int))) 4 (iL ((m_duN ln cn se isI we br ma sf i).den : Int))) (m_uUN ln cn se isI we br ma sf uU i) (m_uLN ln cn se isI we br ma sf uL i))) ∧ va_S A s.heap H locs) (n0 := 6) ⟨0, (m_re ln cn se isI we ma sf), Nat.zero_le _, rfl, trivial, lv_sub hl [0, 1, 2, 3, 4] rfl, hP, hD, hS⟩ (fun nn ls H locs hI ih => ?_)
    obtain ⟨i, r1, hle, hn9, hf, hl, hP, hD, hS⟩ := hI
    rcases Nat.lt_or_ge i 6 with hi | hge
    · refine lv_iload hx hb dX4_findDues_67 (lv_at hl 0 rfl) ?_
      refine lv_bipush (v := 6) hx hb dX4_findDues_69 (by decide) ?_
      refine lv_icmp_ge (tgt := 209) hx hb dX4_findDues_71 (by decide) (fun h => absurd h (nI_ge (b := 6) hi (by decide))) (fun c_71 => ?_)
      refine cutI (pc2 := 113) (st := []) (fun x => bp x (m_ow isI we br ma sf i)) (fun xc4 hxc4 => ?_) (fun hJ3 => ?_)
      · refine lv_istore (lv' := [(5, .int xc4), (4, .int (nI i)), (3, .int (m_am se cn (m_opN 0 isI we br ma sf 6))), (2, .int (m_opN 0 isI we br ma sf 6)), (1, .int (m_opN 1 isI we br ma sf 6)), (0, .ref (k 0))]) hx hb dX4_findDues_113 hl (by decide) rfl (fun ls hl => ?_)
        refine lv_aload_n hx hb dX4_findDues_115 rfl (lv_at hl 5 rfl) ?_
        refine va_get (D := (dC, dI)) (ci := 4) (v := .ref (k 10)) (C := RX4) (T := TX4) (N := 22) hx hb hT hiX4 hown hK hP 0 rfl rfl 13 (by decide) (hT _ kf_X4_43) (fun _ h9 => h9) rfl dX4_findDues_116 ?_
        refine lv_iload hx hb dX4_findDues_119 (lv_at hl 1 rfl) ?_
        refine lv_lconst (v := iL 0) hx hb dX4_findDues_121 rfl ?_
        refine ast_l hx hb hK hP hD hS 10 1 rfl rfl (by decide) (w := i) rfl (by omega) dX4_findDues_122 (fun H locs hP hD hS => ?_)
        have hP : va_P (dC, dI) vwCl ((mQ cI cZ k r1 ln cn tm se isI we br ma sf pa) ++ (mS cJ k (vp_updL (vp_updL (vp_updL (vp_updL aU 0 (iL (m_ent ln cn se isI we).num)) 1 (iL (m_crN ln cn se isI we ma sf 6).num)) 2 (iL (m_re ln cn se isI we ma sf).num)) 4 (iL (m_duN ln cn se isI we br ma sf i).num)) (vp_updL (vp_updL (vp_updL (vp_updL aL 0 (iL ((m_ent ln cn se isI we).den : Int))) 1 (iL ((m_crN ln cn se isI we ma sf 6).den : Int))) 2 (iL ((m_re ln cn se isI we ma sf).den : Int))) 4 (iL ((m_duN ln cn se isI we br ma sf i).den : Int))) (vp_updL (m_uUN ln cn se isI we br ma sf uU i) i (iL 0)) (m_uLN ln cn se isI we br ma sf uL i))) H := hP
        have hD : va_D A ((mQ cI cZ k r1 ln cn tm se isI we br ma sf pa) ++ (mS cJ k (vp_updL (vp_updL (vp_updL (vp_updL aU 0 (iL (m_ent ln cn se isI we).num)) 1 (iL (m_crN ln cn se isI we ma sf 6).num)) 2 (iL (m_re ln cn se isI we ma sf).num)) 4 (iL (m_duN ln cn se isI we br ma sf i).num)) (vp_updL (vp_updL (vp_updL (vp_updL aL 0 (iL ((m_ent ln cn se isI we).den : Int))) 1 (iL ((m_crN ln cn se isI we ma sf 6).den : Int))) 2 (iL ((m_re ln cn se isI we ma sf).den : Int))) 4 (iL ((m_duN ln cn se isI we br ma sf i).den : Int))) (vp_updL (m_uUN ln cn se isI we br ma sf uU i) i (iL 0)) (m_uLN ln cn se isI we br ma sf uL i))) := hD
        refine lv_aload_n hx hb dX4_findDues_123 rfl (lv_at hl 5 rfl) ?_
        refine va_get (D := (dC, dI)) (ci := 4) (v := .ref (k 11)) (C := RX4) (T := TX4) (N := 22) hx hb hT hiX4 hown hK hP 0 rfl rfl 14 (by decide) (hT _ kf_X4_46) (fun _ h9 => h9) rfl dX4_findDues_124 ?_
        refine lv_iload hx hb dX4_findDues_127 (lv_at hl 1 rfl) ?_
        refine lv_lconst (v := iL 1) hx hb dX4_findDues_129 rfl ?_
        refine ast_l hx hb hK hP hD hS 11 1 rfl rfl (by decide) (w := i) rfl (by omega) dX4_findDues_130 (fun H locs hP hD hS => ?_)
        have hP : va_P (dC, dI) vwCl ((mQ cI cZ k r1 ln cn tm se isI we br ma sf pa) ++ (mS cJ k (vp_updL (vp_updL (vp_updL (vp_updL aU 0 (iL (m_ent ln cn se isI we).num)) 1 (iL (m_crN ln cn se isI we ma sf 6).num)) 2 (iL (m_re ln cn se isI we ma sf).num)) 4 (iL (m_duN ln cn se isI we br ma sf i).num)) (vp_updL (vp_updL (vp_updL (vp_updL aL 0 (iL ((m_ent ln cn se isI we).den : Int))) 1 (iL ((m_crN ln cn se isI we ma sf 6).den : Int))) 2 (iL ((m_re ln cn se isI we ma sf).den : Int))) 4 (iL ((m_duN ln cn se isI we br ma sf i).den : Int))) (vp_updL (m_uUN ln cn se isI we br ma sf uU i) i (iL 0)) (vp_updL (m_uLN ln cn se isI we br ma sf uL i) i (iL 1)))) H := hP
        have hD : va_D A ((mQ cI cZ k r1 ln cn tm se isI we br ma sf pa) ++ (mS cJ k (vp_updL (vp_updL (vp_updL (vp_updL aU 0 (iL (m_ent ln cn se isI we).num)) 1 (iL (m_crN ln cn se isI we ma sf 6).num)) 2 (iL (m_re ln cn se isI we ma sf).num)) 4 (iL (m_duN ln cn se isI we br ma sf i).num)) (vp_updL (vp_updL (vp_updL (vp_updL aL 0 (iL ((m_ent ln cn se isI we).den : Int))) 1 (iL ((m_crN ln cn se isI we ma sf 6).den : Int))) 2 (iL ((m_re ln cn se isI we ma sf).den : Int))) 4 (iL ((m_duN ln cn se isI we br ma sf i).den : Int))) (vp_updL (m_uUN ln cn se isI we br ma sf uU i) i (iL 0)) (vp_updL (m_uLN ln cn se isI we br ma sf uL i) i (iL 1)))) := hD
        refine lv_iload hx hb dX4_findDues_131 (lv_at hl 0 rfl) ?_
        refine lv_if_eq (tgt := 203) hx hb dX4_findDues_133 (by decide) (fun c_133 => ?_) (fun c_133 => ?_)
        · have hwo := bp_0 hxc4 c_133
          refine lv_iinc (v := (nI (i + 1))) (lv' := [(4, .int (nI (i + 1))), (5, .int xc4), (3, .int (m_am se cn (m_opN 0 isI we br ma sf 6))), (2, .int (m_opN 0 isI we br ma sf 6)), (1, .int (m_opN 1 isI we br ma sf 6)), (0, .ref (k 0))]) hx hb dX4_findDues_203 hl (k := 1) rfl (nI_1 i) (by decide) rfl (fun ls hl => ?_)
          refine lv_goto (tgt := 67) hx hb dX4_findDues_206 (by decide) ?_
          have ew0 : vp_updL (vp_updL (vp_updL (vp_updL aU 0 (iL (m_ent ln cn se isI we).num)) 1 (iL (m_crN ln cn se isI we ma sf 6).num)) 2 (iL (m_re ln cn se isI we ma sf).num)) 4 (iL (m_duN ln cn se isI we br ma sf i).num) = (vp_updL (vp_updL (vp_updL (vp_updL aU 0 (iL (m_ent ln cn se isI we).num)) 1 (iL (m_crN ln cn se isI we ma sf 6).num)) 2 (iL (m_re ln cn se isI we ma sf).num)) 4 (iL (m_duN ln cn se isI we br ma sf (i + 1)).num)) := (by first | rw [updL_uu] | rw [m_duN_n hwo])
          rw [ew0] at hP hD
          have ew1 : vp_updL (vp_updL (vp_updL (vp_updL aL 0 (iL ((m_ent ln cn se isI we).den : Int))) 1 (iL ((m_crN ln cn se isI we ma sf 6).den : Int))) 2 (iL ((m_re ln cn se isI we ma sf).den : Int))) 4 (iL ((m_duN ln cn se isI we br ma sf i).den : Int)) = (vp_updL (vp_updL (vp_updL (vp_updL aL 0 (iL ((m_ent ln cn se isI we).den : Int))) 1 (iL ((m_crN ln cn se isI we ma sf 6).den : Int))) 2 (iL ((m_re ln cn se isI we ma sf).den : Int))) 4 (iL ((m_duN ln cn se isI we br ma sf (i + 1)).den : Int))) := (by first | rw [updL_uu] | rw [m_duN_n hwo])
          rw [ew1] at hP hD
          have ew2 : vp_updL (m_uUN ln cn se isI we br ma sf uU i) i (iL 0) = (m_uUN ln cn se isI we br ma sf uU (i + 1)) := (by first | rw [updL_uu, m_uUN_s, m_dU_p hwo] | (rw [m_uUN_s, m_dU_n hwo]; rfl))
          rw [ew2] at hP hD
          have ew3 : vp_updL (m_uLN ln cn se isI we br ma sf uL i) i (iL 1) = (m_uLN ln cn se isI we br ma sf uL (i + 1)) := (by first | rw [updL_uu, m_uLN_s, m_dU_p hwo] | (rw [m_uLN_s, m_dU_n hwo]; rfl))
          rw [ew3] at hP hD
          refine ih (6 - (i + 1)) ls H locs (by omega) ⟨(i + 1), r1, by omega, rfl, trivial, ?_, hP, hD, hS⟩
          exact lv_sub hl [0, 2, 3, 4, 5] rfl
        · have hwo := bp_1 hxc4 c_133
          refine lv_aload_n hx hb dX4_findDues_136 rfl (lv_at hl 5 rfl) ?_
          refine lv_aload_n hx hb dX4_findDues_137 rfl (lv_at hl 5 rfl) ?_
          refine lv_iload hx hb dX4_findDues_138 (lv_at hl 1 rfl) ?_
          refine vp_callSi (rRV (As := [.int (nI i)]) (rest := [.ref (k 0)]) ⟨hx, hb, hml, hown, hT⟩ (c_X4_unitWeight (l := l) i (by first | assumption | omega) hm) (cwTV 1 hT kc_X4_unitWeight km_X4_109 ki_X4_unitWeight ks_X4_unitWeight kn_X4 rfl rfl md_X4_unitWeight ⟨Nat.le_of_ble_eq_true rfl, Nat.le_of_ble_eq_true rfl⟩) (va_P.sub (ws' := mW cI cZ k (iL (r1).num) (iL ((r1).den : Int)) ln cn tm se isI we br ma sf pa) hP [0, 1, 2, 3, 4, 5, 6, 7] rfl) hK (va_recv hK hP (ci := 4) (q0 := 0) rfl rfl) rfl hl.1 rfl (Nat.le_of_ble_eq_true rfl) dX4_findDues_140 ⟨Nat.le_of_ble_eq_true rfl, Nat.le_of_ble_eq_true rfl⟩) (fun r_140 hw_140 => ?_)
          subst hw_140
          refine lv_iload_n hx hb dX4_findDues_143 rfl (lv_at hl 4 rfl) ?_
          refine lv_iload_n hx hb dX4_findDues_144 rfl (lv_at hl 4 rfl) ?_
          refine lv_iload_n hx hb dX4_findDues_145 rfl (lv_at hl 3 rfl) ?_
          refine lv_isub hx hb dX4_findDues_146 ?_
          refine lv_iload_n hx hb dX4_findDues_147 rfl (lv_at hl 2 rfl) ?_
          refine fM_v (wc := (mQ cI cZ k r1 ln cn tm se isI we br ma sf pa) ++ (mS cJ k (vp_updL (vp_updL (vp_updL (vp_updL aU 0 (iL (m_ent ln cn se isI we).num)) 1 (iL (m_crN ln cn se isI we ma sf 6).num)) 2 (iL (m_re ln cn se isI we ma sf).num)) 4 (iL (m_duN ln cn se isI we br ma sf i).num)) (vp_updL (vp_updL (vp_updL (vp_updL aL 0 (iL ((m_ent ln cn se isI we).den : Int))) 1 (iL ((m_crN ln cn se isI we ma sf 6).den : Int))) 2 (iL ((m_re ln cn se isI we ma sf).den : Int))) 4 (iL ((m_duN ln cn se isI we br ma sf i).den : Int))) (vp_updL (m_uUN ln cn se isI we br ma sf uU i) i (iL 0)) (vp_updL (m_uLN ln cn se isI we br ma sf uL i) i (iL 1)))) (wr := []) (rMV (wc := (mQ cI cZ k r1 ln cn tm se isI we br ma sf pa) ++ (mS cJ k (vp_updL (vp_updL (vp_updL (vp_updL aU 0 (iL (m_ent ln cn se isI we).num)) 1 (iL (m_crN ln cn se isI we ma sf 6).num)) 2 (iL (m_re ln cn se isI we ma sf).num)) 4 (iL (m_duN ln cn se isI we br ma sf i).num)) (vp_updL (vp_updL (vp_updL (vp_updL aL 0 (iL ((m_ent ln cn se isI we).den : Int))) 1 (iL ((m_crN ln cn se isI we ma sf 6).den : Int))) 2 (iL ((m_re ln cn se isI we ma sf).den : Int))) 4 (iL ((m_duN ln cn se isI we br ma sf i).den : Int))) (vp_updL (m_uUN ln cn se isI we br ma sf uU i) i (iL 0)) (vp_updL (m_uLN ln cn se isI we br ma sf uL i) i (iL 1)))) (As := [.int (m_uw we ma i), .int (m_opN 1 isI we br ma sf 6), .int ((m_opN 1 isI we br ma sf 6) - (m_opN 0 isI we br ma sf 6)), .int (m_am se cn (m_opN 0 isI we br ma sf 6))]) (rest := []) ⟨hx, hb, hml, hown, hT⟩ (c_X4_findUnit (l := l) H.size (m_uw we ma i) (m_opN 1 isI we br ma sf 6) ((m_opN 1 isI we br ma sf 6) - (m_opN 0 isI we br ma sf 6)) (m_am se cn (m_opN 0 isI we br ma sf 6)) (m_re ln cn se isI we ma sf) (m_D cn isI we) rfl rfl (m_D_bd hok) hR.1 (m_xin hok hi hwo)) (cwTV 4 hT kc_X4_findUnit km_X4_141 ki_X4_findUnit ks_X4_findUnit kn_X4 rfl rfl md_X4_findUnit ⟨Nat.le_of_ble_eq_true rfl, Nat.le_of_ble_eq_true rfl⟩) hP hD hK (va_recv hK hP (ci := 4) (q0 := 0) rfl rfl) rfl hl.1 rfl (Nat.le_of_ble_eq_true rfl) dX4_findDues_148 ⟨Nat.le_of_ble_eq_true rfl, Nat.le_of_ble_eq_true rfl⟩) hP hD hS hA (fun u_148 H locs hw_148 hP hD hS => ?_)
          have hP : va_P (dC, dI) vwCl ((mQ cI cZ k ((m_re ln cn se isI we ma sf) * m_x (m_uw we ma i) (m_opN 1 isI we br ma sf 6) ((m_opN 1 isI we br ma sf 6) - (m_opN 0 isI we br ma sf 6)) (m_am se cn (m_opN 0 isI we br ma sf 6))) ln cn tm se isI we br ma sf pa) ++ (mS cJ k (vp_updL (vp_updL (vp_updL (vp_updL aU 0 (iL (m_ent ln cn se isI we).num)) 1 (iL (m_crN ln cn se isI we ma sf 6).num)) 2 (iL (m_re ln cn se isI we ma sf).num)) 4 (iL (m_duN ln cn se isI we br ma sf i).num)) (vp_updL (vp_updL (vp_updL (vp_updL aL 0 (iL ((m_ent ln cn se isI we).den : Int))) 1 (iL ((m_crN ln cn se isI we ma sf 6).den : Int))) 2 (iL ((m_re ln cn se isI we ma sf).den : Int))) 4 (iL ((m_duN ln cn se isI we br ma sf i).den : Int))) (vp_updL (m_uUN ln cn se isI we br ma sf uU i) i (iL 0)) (vp_updL (m_uLN ln cn se isI we br ma sf uL i) i (iL 1)))) H := hP
          have hD : va_D A ((mQ cI cZ k ((m_re ln cn se isI we ma sf) * m_x (m_uw we ma i) (m_opN 1 isI we br ma sf 6) ((m_opN 1 isI we br ma sf 6) - (m_opN 0 isI we br ma sf 6)) (m_am se cn (m_opN 0 isI we br ma sf 6))) ln cn tm se isI we br ma sf pa) ++ (mS cJ k (vp_updL (vp_updL (vp_updL (vp_updL aU 0 (iL (m_ent ln cn se isI we).num)) 1 (iL (m_crN ln cn se isI we ma sf 6).num)) 2 (iL (m_re ln cn se isI we ma sf).num)) 4 (iL (m_duN ln cn se isI we br ma sf i).num)) (vp_updL (vp_updL (vp_updL (vp_updL aL 0 (iL ((m_ent ln cn se isI we).den : Int))) 1 (iL ((m_crN ln cn se isI we ma sf 6).den : Int))) 2 (iL ((m_re ln cn se isI we ma sf).den : Int))) 4 (iL ((m_duN ln cn se isI we br ma sf i).den : Int))) (vp_updL (m_uUN ln cn se isI we br ma sf uU i) i (iL 0)) (vp_updL (m_uLN ln cn se isI we br ma sf uL i) i (iL 1)))) := hD
          rw [show ((m_re ln cn se isI we ma sf) * m_x (m_uw we ma i) (m_opN 1 isI we br ma sf 6) ((m_opN 1 isI we br ma sf 6) - (m_opN 0 isI we br ma sf 6)) (m_am se cn (m_opN 0 isI we br ma sf 6))) = (m_dU ln cn se isI we br ma sf i) from (m_dU_p hwo).symm] at hP hD
          have hP : va_P (dC, dI) vwCl ((mQ cI cZ k (m_dU ln cn se isI we br ma sf i) ln cn tm se isI we br ma sf pa) ++ (mS cJ k (vp_updL (vp_updL (vp_updL (vp_updL aU 0 (iL (m_ent ln cn se isI we).num)) 1 (iL (m_crN ln cn se isI we ma sf 6).num)) 2 (iL (m_re ln cn se isI we ma sf).num)) 4 (iL (m_duN ln cn se isI we br ma sf i).num)) (vp_updL (vp_updL (vp_updL (vp_updL aL 0 (iL ((m_ent ln cn se isI we).den : Int))) 1 (iL ((m_crN ln cn se isI we ma sf 6).den : Int))) 2 (iL ((m_re ln cn se isI we ma sf).den : Int))) 4 (iL ((m_duN ln cn se isI we br ma sf i).den : Int))) (vp_updL (m_uUN ln cn se isI we br ma sf uU i) i (iL 0)) (vp_updL (m_uLN ln cn se isI we br ma sf uL i) i (iL 1)))) H := hP
          have hD : va_D A ((mQ cI cZ k (m_dU ln cn se isI we br ma sf i) ln cn tm se isI we br ma sf pa) ++ (mS cJ k (vp_updL (vp_updL (vp_updL (vp_updL aU 0 (iL (m_ent ln cn se isI we).num)) 1 (iL (m_crN ln cn se isI we ma sf 6).num)) 2 (iL (m_re ln cn se isI we ma sf).num)) 4 (iL (m_duN ln cn se isI we br ma sf i).num)) (vp_updL (vp_updL (vp_updL (vp_updL aL 0 (iL ((m_ent ln cn se isI we).den : Int))) 1 (iL ((m_crN ln cn se isI we ma sf 6).den : Int))) 2 (iL ((m_re ln cn se isI we ma sf).den : Int))) 4 (iL ((m_duN ln cn se isI we br ma sf i).den : Int))) (vp_updL (m_uUN ln cn se isI we br ma sf uU i) i (iL 0)) (vp_updL (m_uLN ln cn se isI we br ma sf uL i) i (iL 1)))) := hD
          refine lv_aload_n hx hb dX4_findDues_151 rfl (lv_at hl 5 rfl) ?_
          refine va_get (D := (dC, dI)) (ci := 4) (v := .ref (k 10)) (C := RX4) (T := TX4) (N := 22) hx hb hT hiX4 hown hK hP 0 rfl rfl 13 (by decide) (hT _ kf_X4_43) (fun _ h9 => h9) rfl dX4_findDues_152 ?_
          refine lv_iload hx hb dX4_findDues_155 (lv_at hl 1 rfl) ?_
          refine lv_aload_n hx hb dX4_findDues_157 rfl (lv_at hl 5 rfl) ?_
          refine va_get (D := (dC, dI)) (ci := 4) (v := .long (iL ((m_dU ln cn se isI we br ma sf i)).num)) (C := RX4) (T := TX4) (N := 22) hx hb hT hiX4 hown hK hP 0 rfl rfl 0 (by decide) (hT _ kf_X4_75) (fun _ h9 => h9) rfl dX4_findDues_158 ?_
          refine ast_l hx hb hK hP hD hS 10 1 rfl rfl (by decide) (w := i) rfl (by omega) dX4_findDues_161 (fun H locs hP hD hS => ?_)
          have hP : va_P (dC, dI) vwCl ((mQ cI cZ k (m_dU ln cn se isI we br ma sf i) ln cn tm se isI we br ma sf pa) ++ (mS cJ k (vp_updL (vp_updL (vp_updL (vp_updL aU 0 (iL (m_ent ln cn se isI we).num)) 1 (iL (m_crN ln cn se isI we ma sf 6).num)) 2 (iL (m_re ln cn se isI we ma sf).num)) 4 (iL (m_duN ln cn se isI we br ma sf i).num)) (vp_updL (vp_updL (vp_updL (vp_updL aL 0 (iL ((m_ent ln cn se isI we).den : Int))) 1 (iL ((m_crN ln cn se isI we ma sf 6).den : Int))) 2 (iL ((m_re ln cn se isI we ma sf).den : Int))) 4 (iL ((m_duN ln cn se isI we br ma sf i).den : Int))) (vp_updL (vp_updL (m_uUN ln cn se isI we br ma sf uU i) i (iL 0)) i (iL ((m_dU ln cn se isI we br ma sf i)).num)) (vp_updL (m_uLN ln cn se isI we br ma sf uL i) i (iL 1)))) H := hP
          have hD : va_D A ((mQ cI cZ k (m_dU ln cn se isI we br ma sf i) ln cn tm se isI we br ma sf pa) ++ (mS cJ k (vp_updL (vp_updL (vp_updL (vp_updL aU 0 (iL (m_ent ln cn se isI we).num)) 1 (iL (m_crN ln cn se isI we ma sf 6).num)) 2 (iL (m_re ln cn se isI we ma sf).num)) 4 (iL (m_duN ln cn se isI we br ma sf i).num)) (vp_updL (vp_updL (vp_updL (vp_updL aL 0 (iL ((m_ent ln cn se isI we).den : Int))) 1 (iL ((m_crN ln cn se isI we ma sf 6).den : Int))) 2 (iL ((m_re ln cn se isI we ma sf).den : Int))) 4 (iL ((m_duN ln cn se isI we br ma sf i).den : Int))) (vp_updL (vp_updL (m_uUN ln cn se isI we br ma sf uU i) i (iL 0)) i (iL ((m_dU ln cn se isI we br ma sf i)).num)) (vp_updL (m_uLN ln cn se isI we br ma sf uL i) i (iL 1)))) := hD
          refine lv_aload_n hx hb dX4_findDues_162 rfl (lv_at hl 5 rfl) ?_
          refine va_get (D := (dC, dI)) (ci := 4) (v := .ref (k 11)) (C := RX4) (T := TX4) (N := 22) hx hb hT hiX4 hown hK hP 0 rfl rfl 14 (by decide) (hT _ kf_X4_46) (fun _ h9 => h9) rfl dX4_findDues_163 ?_
          refine lv_iload hx hb dX4_findDues_166 (lv_at hl 1 rfl) ?_
          refine lv_aload_n hx hb dX4_findDues_168 rfl (lv_at hl 5 rfl) ?_
          refine va_get (D := (dC, dI)) (ci := 4) (v := .long (iL (((m_dU ln cn se isI we br ma sf i)).den : Int))) (C := RX4) (T := TX4) (N := 22) hx hb hT hiX4 hown hK hP 0 rfl rfl 1 (by decide) (hT _ kf_X4_7) (fun _ h9 => h9) rfl dX4_findDues_169 ?_
          refine ast_l hx hb hK hP hD hS 11 1 rfl rfl (by decide) (w := i) rfl (by omega) dX4_findDues_172 (fun H locs hP hD hS => ?_)
          have hP : va_P (dC, dI) vwCl ((mQ cI cZ k (m_dU ln cn se isI we br ma sf i) ln cn tm se isI we br ma sf pa) ++ (mS cJ k (vp_updL (vp_updL (vp_updL (vp_updL aU 0 (iL (m_ent ln cn se isI we).num)) 1 (iL (m_crN ln cn se isI we ma sf 6).num)) 2 (iL (m_re ln cn se isI we ma sf).num)) 4 (iL (m_duN ln cn se isI we br ma sf i).num)) (vp_updL (vp_updL (vp_updL (vp_updL aL 0 (iL ((m_ent ln cn se isI we).den : Int))) 1 (iL ((m_crN ln cn se isI we ma sf 6).den : Int))) 2 (iL ((m_re ln cn se isI we ma sf).den : Int))) 4 (iL ((m_duN ln cn se isI we br ma sf i).den : Int))) (vp_updL (vp_updL (m_uUN ln cn se isI we br ma sf uU i) i (iL 0)) i (iL ((m_dU ln cn se isI we br ma sf i)).num)) (vp_updL (vp_updL (m_uLN ln cn se isI we br ma sf uL i) i (iL 1)) i (iL (((m_dU ln cn se isI we br ma sf i)).den : Int))))) H := hP
          have hD : va_D A ((mQ cI cZ k (m_dU ln cn se isI we br ma sf i) ln cn tm se isI we br ma sf pa) ++ (mS cJ k (vp_updL (vp_updL (vp_updL (vp_updL aU 0 (iL (m_ent ln cn se isI we).num)) 1 (iL (m_crN ln cn se isI we ma sf 6).num)) 2 (iL (m_re ln cn se isI we ma sf).num)) 4 (iL (m_duN ln cn se isI we br ma sf i).num)) (vp_updL (vp_updL (vp_updL (vp_updL aL 0 (iL ((m_ent ln cn se isI we).den : Int))) 1 (iL ((m_crN ln cn se isI we ma sf 6).den : Int))) 2 (iL ((m_re ln cn se isI we ma sf).den : Int))) 4 (iL ((m_duN ln cn se isI we br ma sf i).den : Int))) (vp_updL (vp_updL (m_uUN ln cn se isI we br ma sf uU i) i (iL 0)) i (iL ((m_dU ln cn se isI we br ma sf i)).num)) (vp_updL (vp_updL (m_uLN ln cn se isI we br ma sf uL i) i (iL 1)) i (iL (((m_dU ln cn se isI we br ma sf i)).den : Int))))) := hD
          refine lv_aload_n hx hb dX4_findDues_173 rfl (lv_at hl 5 rfl) ?_
          refine lv_aload_n hx hb dX4_findDues_174 rfl (lv_at hl 5 rfl) ?_
          refine va_get (D := (dC, dI)) (ci := 4) (v := .ref (k 8)) (C := RX4) (T := TX4) (N := 22) hx hb hT hiX4 hown hK hP 0 rfl rfl 11 (by decide) (hT _ kf_X4_36) (fun _ h9 => h9) rfl dX4_findDues_175 ?_
          refine lv_iconst (v := 4) hx hb dX4_findDues_178 (by decide) ?_
          refine ald_l hx hb hK hP 8 1 rfl rfl (by decide) (w := 4) rfl (by decide) dX4_findDues_179 ?_
          refine topl_eq (y := (iL (m_duN ln cn se isI we br ma sf i).num)) rfl ?_
          refine lv_aload_n hx hb dX4_findDues_180 rfl (lv_at hl 5 rfl) ?_
          refine va_get (D := (dC, dI)) (ci := 4) (v := .ref (k 9)) (C := RX4) (T := TX4) (N := 22) hx hb hT hiX4 hown hK hP 0 rfl rfl 12 (by decide) (hT _ kf_X4_40) (fun _ h9 => h9) rfl dX4_findDues_181 ?_
          refine lv_iconst (v := 4) hx hb dX4_findDues_184 (by decide) ?_
          refine ald_l hx hb hK hP 9 1 rfl rfl (by decide) (w := 4) rfl (by decide) dX4_findDues_185 ?_
          refine topl_eq (y := (iL ((m_duN ln cn se isI we br ma sf i).den : Int))) rfl ?_
          refine lv_aload_n hx hb dX4_findDues_186 rfl (lv_at hl 5 rfl) ?_
          refine va_get (D := (dC, dI)) (ci := 4) (v := .long (iL ((m_dU ln cn se isI we br ma sf i)).num)) (C := RX4) (T := TX4) (N := 22) hx hb hT hiX4 hown hK hP 0 rfl rfl 0 (by decide) (hT _ kf_X4_75) (fun _ h9 => h9) rfl dX4_findDues_187 ?_
          refine lv_aload_n hx hb dX4_findDues_190 rfl (lv_at hl 5 rfl) ?_
          refine va_get (D := (dC, dI)) (ci := 4) (v := .long (iL (((m_dU ln cn se isI we br ma sf i)).den : Int))) (C := RX4) (T := TX4) (N := 22) hx hb hT hiX4 hown hK hP 0 rfl rfl 1 (by decide) (hT _ kf_X4_7) (fun _ h9 => h9) rfl dX4_findDues_191 ?_
          refine lv_lconst (v := iL 1) hx hb dX4_findDues_194 rfl ?_
          have hC := m_duN_bd (se := se) hok i (by omega)
          have hCn := bd_nd hDb.1 hC.1
          have hc := m_dU_bd (se := se) hok hi
          have hcn := bd_nd hDb.1 hc.1
          refine fM_v (wc := mQ cI cZ k (m_dU ln cn se isI we br ma sf i) ln cn tm se isI we br ma sf pa) (wr := mS cJ k (vp_updL (vp_updL (vp_updL (vp_updL aU 0 (iL (m_ent ln cn se isI we).num)) 1 (iL (m_crN ln cn se isI we ma sf 6).num)) 2 (iL (m_re ln cn se isI we ma sf).num)) 4 (iL (m_duN ln cn se isI we br ma sf i).num)) (vp_updL (vp_updL (vp_updL (vp_updL aL 0 (iL ((m_ent ln cn se isI we).den : Int))) 1 (iL ((m_crN ln cn se isI we ma sf 6).den : Int))) 2 (iL ((m_re ln cn se isI we ma sf).den : Int))) 4 (iL ((m_duN ln cn se isI we br ma sf i).den : Int))) (vp_updL (vp_updL (m_uUN ln cn se isI we br ma sf uU i) i (iL 0)) i (iL ((m_dU ln cn se isI we br ma sf i)).num)) (vp_updL (vp_updL (m_uLN ln cn se isI we br ma sf uL i) i (iL 1)) i (iL (((m_dU ln cn se isI we br ma sf i)).den : Int)))) (rMV (wc := mQ cI cZ k (m_dU ln cn se isI we br ma sf i) ln cn tm se isI we br ma sf pa) (As := [.long (iL (m_duN ln cn se isI we br ma sf i).num), .long (iL ((m_duN ln cn se isI we br ma sf i).den : Int)), .long (iL ((m_dU ln cn se isI we br ma sf i)).num), .long (iL (((m_dU ln cn se isI we br ma sf i)).den : Int)), .long (iL 1)]) (rest := []) ⟨hx, hb, hml, hown, hT⟩ (c_X4_adds (l := l) H.size ((m_duN ln cn se isI we br ma sf i).num) ((m_duN ln cn se isI we br ma sf i).den) (((m_dU ln cn se isI we br ma sf i)).num) (((m_dU ln cn se isI we br ma sf i)).den) 1 (m_DD cn se isI we br ma sf) (i * 2000000) 2000000 (Rat.den_pos _) (Rat.den_pos _) hDb.1 hCn.1 hcn.1 hCn.2 hcn.2 (by have := Nat.mul_le_mul (show i * 2000000 + 2000000 ≤ 12000000 by omega) hDb.2.1; omega) (by omega) (Or.inl rfl)) (cwTV 5 hT kc_X4_adds km_X4_128 ki_X4_adds ks_X4_adds kn_X4 rfl rfl md_X4_adds ⟨Nat.le_of_ble_eq_true rfl, Nat.le_of_ble_eq_true rfl⟩) (va_P.sub (ws' := mQ cI cZ k (m_dU ln cn se isI we br ma sf i) ln cn tm se isI we br ma sf pa) hP [0, 1, 2, 3, 4, 5, 6, 7] rfl) (va_D.sub (ws' := mQ cI cZ k (m_dU ln cn se isI we br ma sf i) ln cn tm se isI we br ma sf pa) hD [0, 1, 2, 3, 4, 5, 6, 7] (by decide) rfl) hK (va_recv hK hP (ci := 4) (q0 := 0) rfl rfl) rfl hl.1 rfl (Nat.le_of_ble_eq_true rfl) dX4_findDues_195 ⟨Nat.le_of_ble_eq_true rfl, Nat.le_of_ble_eq_true rfl⟩) hP hD hS hA (fun u_195 H locs hw_195 hP hD hS => ?_)
          have hP : va_P (dC, dI) vwCl ((mQ cI cZ k (adQ ((m_duN ln cn se isI we br ma sf i).num) ((m_duN ln cn se isI we br ma sf i).den) (((m_dU ln cn se isI we br ma sf i)).num) (((m_dU ln cn se isI we br ma sf i)).den) 1) ln cn tm se isI we br ma sf pa) ++ (mS cJ k (vp_updL (vp_updL (vp_updL (vp_updL aU 0 (iL (m_ent ln cn se isI we).num)) 1 (iL (m_crN ln cn se isI we ma sf 6).num)) 2 (iL (m_re ln cn se isI we ma sf).num)) 4 (iL (m_duN ln cn se isI we br ma sf i).num)) (vp_updL (vp_updL (vp_updL (vp_updL aL 0 (iL ((m_ent ln cn se isI we).den : Int))) 1 (iL ((m_crN ln cn se isI we ma sf 6).den : Int))) 2 (iL ((m_re ln cn se isI we ma sf).den : Int))) 4 (iL ((m_duN ln cn se isI we br ma sf i).den : Int))) (vp_updL (vp_updL (m_uUN ln cn se isI we br ma sf uU i) i (iL 0)) i (iL ((m_dU ln cn se isI we br ma sf i)).num)) (vp_updL (vp_updL (m_uLN ln cn se isI we br ma sf uL i) i (iL 1)) i (iL (((m_dU ln cn se isI we br ma sf i)).den : Int))))) H := hP
          have hD : va_D A ((mQ cI cZ k (adQ ((m_duN ln cn se isI we br ma sf i).num) ((m_duN ln cn se isI we br ma sf i).den) (((m_dU ln cn se isI we br ma sf i)).num) (((m_dU ln cn se isI we br ma sf i)).den) 1) ln cn tm se isI we br ma sf pa) ++ (mS cJ k (vp_updL (vp_updL (vp_updL (vp_updL aU 0 (iL (m_ent ln cn se isI we).num)) 1 (iL (m_crN ln cn se isI we ma sf 6).num)) 2 (iL (m_re ln cn se isI we ma sf).num)) 4 (iL (m_duN ln cn se isI we br ma sf i).num)) (vp_updL (vp_updL (vp_updL (vp_updL aL 0 (iL ((m_ent ln cn se isI we).den : Int))) 1 (iL ((m_crN ln cn se isI we ma sf 6).den : Int))) 2 (iL ((m_re ln cn se isI we ma sf).den : Int))) 4 (iL ((m_duN ln cn se isI we br ma sf i).den : Int))) (vp_updL (vp_updL (m_uUN ln cn se isI we br ma sf uU i) i (iL 0)) i (iL ((m_dU ln cn se isI we br ma sf i)).num)) (vp_updL (vp_updL (m_uLN ln cn se isI we br ma sf uL i) i (iL 1)) i (iL (((m_dU ln cn se isI we br ma sf i)).den : Int))))) := hD
          rw [show (adQ ((m_duN ln cn se isI we br ma sf i).num) ((m_duN ln cn se isI we br ma sf i).den) (((m_dU ln cn se isI we br ma sf i)).num) (((m_dU ln cn se isI we br ma sf i)).den) 1) = (m_duN ln cn se isI we br ma sf (i + 1)) from (by rw [adQ_1, m_duN_p hwo])] at hP hD
          have hP : va_P (dC, dI) vwCl ((mQ cI cZ k (m_duN ln cn se isI we br ma sf (i + 1)) ln cn tm se isI we br ma sf pa) ++ (mS cJ k (vp_updL (vp_updL (vp_updL (vp_updL aU 0 (iL (m_ent ln cn se isI we).num)) 1 (iL (m_crN ln cn se isI we ma sf 6).num)) 2 (iL (m_re ln cn se isI we ma sf).num)) 4 (iL (m_duN ln cn se isI we br ma sf i).num)) (vp_updL (vp_updL (vp_updL (vp_updL aL 0 (iL ((m_ent ln cn se isI we).den : Int))) 1 (iL ((m_crN ln cn se isI we ma sf 6).den : Int))) 2 (iL ((m_re ln cn se isI we ma sf).den : Int))) 4 (iL ((m_duN ln cn se isI we br ma sf i).den : Int))) (vp_updL (vp_updL (m_uUN ln cn se isI we br ma sf uU i) i (iL 0)) i (iL ((m_dU ln cn se isI we br ma sf i)).num)) (vp_updL (vp_updL (m_uLN ln cn se isI we br ma sf uL i) i (iL 1)) i (iL (((m_dU ln cn se isI we br ma sf i)).den : Int))))) H := hP
          have hD : va_D A ((mQ cI cZ k (m_duN ln cn se isI we br ma sf (i + 1)) ln cn tm se isI we br ma sf pa) ++ (mS cJ k (vp_updL (vp_updL (vp_updL (vp_updL aU 0 (iL (m_ent ln cn se isI we).num)) 1 (iL (m_crN ln cn se isI we ma sf 6).num)) 2 (iL (m_re ln cn se isI we ma sf).num)) 4 (iL (m_duN ln cn se isI we br ma sf i).num)) (vp_updL (vp_updL (vp_updL (vp_updL aL 0 (iL ((m_ent ln cn se isI we).den : Int))) 1 (iL ((m_crN ln cn se isI we ma sf 6).den : Int))) 2 (iL ((m_re ln cn se isI we ma sf).den : Int))) 4 (iL ((m_duN ln cn se isI we br ma sf i).den : Int))) (vp_updL (vp_updL (m_uUN ln cn se isI we br ma sf uU i) i (iL 0)) i (iL ((m_dU ln cn se isI we br ma sf i)).num)) (vp_updL (vp_updL (m_uLN ln cn se isI we br ma sf uL i) i (iL 1)) i (iL (((m_dU ln cn se isI we br ma sf i)).den : Int))))) := hD
          refine lv_aload_n hx hb dX4_findDues_198 rfl (lv_at hl 5 rfl) ?_
          refine lv_iconst (v := 4) hx hb dX4_findDues_199 (by decide) ?_
          refine fM_v (wc := (mQ cI cZ k (m_duN ln cn se isI we br ma sf (i + 1)) ln cn tm se isI we br ma sf pa) ++ (mS cJ k (vp_updL (vp_updL (vp_updL (vp_updL aU 0 (iL (m_ent ln cn se isI we).num)) 1 (iL (m_crN ln cn se isI we ma sf 6).num)) 2 (iL (m_re ln cn se isI we ma sf).num)) 4 (iL (m_duN ln cn se isI we br ma sf i).num)) (vp_updL (vp_updL (vp_updL (vp_updL aL 0 (iL ((m_ent ln cn se isI we).den : Int))) 1 (iL ((m_crN ln cn se isI we ma sf 6).den : Int))) 2 (iL ((m_re ln cn se isI we ma sf).den : Int))) 4 (iL ((m_duN ln cn se isI we br ma sf i).den : Int))) (vp_updL (vp_updL (m_uUN ln cn se isI we br ma sf uU i) i (iL 0)) i (iL ((m_dU ln cn se isI we br ma sf i)).num)) (vp_updL (vp_updL (m_uLN ln cn se isI we br ma sf uL i) i (iL 1)) i (iL (((m_dU ln cn se isI we br ma sf i)).den : Int))))) (wr := []) (rMV (wc := (mQ cI cZ k (m_duN ln cn se isI we br ma sf (i + 1)) ln cn tm se isI we br ma sf pa) ++ (mS cJ k (vp_updL (vp_updL (vp_updL (vp_updL aU 0 (iL (m_ent ln cn se isI we).num)) 1 (iL (m_crN ln cn se isI we ma sf 6).num)) 2 (iL (m_re ln cn se isI we ma sf).num)) 4 (iL (m_duN ln cn se isI we br ma sf i).num)) (vp_updL (vp_updL (vp_updL (vp_updL aL 0 (iL ((m_ent ln cn se isI we).den : Int))) 1 (iL ((m_crN ln cn se isI we ma sf 6).den : Int))) 2 (iL ((m_re ln cn se isI we ma sf).den : Int))) 4 (iL ((m_duN ln cn se isI we br ma sf i).den : Int))) (vp_updL (vp_updL (m_uUN ln cn se isI we br ma sf uU i) i (iL 0)) i (iL ((m_dU ln cn se isI we br ma sf i)).num)) (vp_updL (vp_updL (m_uLN ln cn se isI we br ma sf uL i) i (iL 1)) i (iL (((m_dU ln cn se isI we br ma sf i)).den : Int))))) (As := [.int 4]) (rest := []) ⟨hx, hb, hml, hown, hT⟩ (c_X4_keeps (l := l) H.size 4 (by decide)) (cwTV 1 hT kc_X4_keeps km_X4_122 ki_X4_keeps ks_X4_keeps kn_X4 rfl rfl md_X4_keeps ⟨Nat.le_of_ble_eq_true rfl, Nat.le_of_ble_eq_true rfl⟩) hP hD hK (va_recv hK hP (ci := 4) (q0 := 0) rfl rfl) rfl hl.1 rfl (Nat.le_of_ble_eq_true rfl) dX4_findDues_200 ⟨Nat.le_of_ble_eq_true rfl, Nat.le_of_ble_eq_true rfl⟩) hP hD hS hA (fun u_200 H locs hw_200 hP hD hS => ?_)
          have hP : va_P (dC, dI) vwCl ((mQ cI cZ k (m_duN ln cn se isI we br ma sf (i + 1)) ln cn tm se isI we br ma sf pa) ++ (mS cJ k (vp_updL (vp_updL (vp_updL (vp_updL (vp_updL aU 0 (iL (m_ent ln cn se isI we).num)) 1 (iL (m_crN ln cn se isI we ma sf 6).num)) 2 (iL (m_re ln cn se isI we ma sf).num)) 4 (iL (m_duN ln cn se isI we br ma sf i).num)) 4 (iL ((m_duN ln cn se isI we br ma sf (i + 1))).num)) (vp_updL (vp_updL (vp_updL (vp_updL (vp_updL aL 0 (iL ((m_ent ln cn se isI we).den : Int))) 1 (iL ((m_crN ln cn se isI we ma sf 6).den : Int))) 2 (iL ((m_re ln cn se isI we ma sf).den : Int))) 4 (iL ((m_duN ln cn se isI we br ma sf i).den : Int))) 4 (iL (((m_duN ln cn se isI we br ma sf (i + 1))).den : Int))) (vp_updL (vp_updL (m_uUN ln cn se isI we br ma sf uU i) i (iL 0)) i (iL ((m_dU ln cn se isI we br ma sf i)).num)) (vp_updL (vp_updL (m_uLN ln cn se isI we br ma sf uL i) i (iL 1)) i (iL (((m_dU ln cn se isI we br ma sf i)).den : Int))))) H := hP
          have hD : va_D A ((mQ cI cZ k (m_duN ln cn se isI we br ma sf (i + 1)) ln cn tm se isI we br ma sf pa) ++ (mS cJ k (vp_updL (vp_updL (vp_updL (vp_updL (vp_updL aU 0 (iL (m_ent ln cn se isI we).num)) 1 (iL (m_crN ln cn se isI we ma sf 6).num)) 2 (iL (m_re ln cn se isI we ma sf).num)) 4 (iL (m_duN ln cn se isI we br ma sf i).num)) 4 (iL ((m_duN ln cn se isI we br ma sf (i + 1))).num)) (vp_updL (vp_updL (vp_updL (vp_updL (vp_updL aL 0 (iL ((m_ent ln cn se isI we).den : Int))) 1 (iL ((m_crN ln cn se isI we ma sf 6).den : Int))) 2 (iL ((m_re ln cn se isI we ma sf).den : Int))) 4 (iL ((m_duN ln cn se isI we br ma sf i).den : Int))) 4 (iL (((m_duN ln cn se isI we br ma sf (i + 1))).den : Int))) (vp_updL (vp_updL (m_uUN ln cn se isI we br ma sf uU i) i (iL 0)) i (iL ((m_dU ln cn se isI we br ma sf i)).num)) (vp_updL (vp_updL (m_uLN ln cn se isI we br ma sf uL i) i (iL 1)) i (iL (((m_dU ln cn se isI we br ma sf i)).den : Int))))) := hD
          refine lv_iinc (v := (nI (i + 1))) (lv' := [(4, .int (nI (i + 1))), (5, .int xc4), (3, .int (m_am se cn (m_opN 0 isI we br ma sf 6))), (2, .int (m_opN 0 isI we br ma sf 6)), (1, .int (m_opN 1 isI we br ma sf 6)), (0, .ref (k 0))]) hx hb dX4_findDues_203 hl (k := 1) rfl (nI_1 i) (by decide) rfl (fun ls hl => ?_)
          refine lv_goto (tgt := 67) hx hb dX4_findDues_206 (by decide) ?_
          have ew0 : vp_updL (vp_updL (vp_updL (vp_updL (vp_updL aU 0 (iL (m_ent ln cn se isI we).num)) 1 (iL (m_crN ln cn se isI we ma sf 6).num)) 2 (iL (m_re ln cn se isI we ma sf).num)) 4 (iL (m_duN ln cn se isI we br ma sf i).num)) 4 (iL ((m_duN ln cn se isI we br ma sf (i + 1))).num) = (vp_updL (vp_updL (vp_updL (vp_updL aU 0 (iL (m_ent ln cn se isI we).num)) 1 (iL (m_crN ln cn se isI we ma sf 6).num)) 2 (iL (m_re ln cn se isI we ma sf).num)) 4 (iL (m_duN ln cn se isI we br ma sf (i + 1)).num)) := (by first | rw [updL_uu] | rw [m_duN_n hwo])
          rw [ew0] at hP hD
          have ew1 : vp_updL (vp_updL (vp_updL (vp_updL (vp_updL aL 0 (iL ((m_ent ln cn se isI we).den : Int))) 1 (iL ((m_crN ln cn se isI we ma sf 6).den : Int))) 2 (iL ((m_re ln cn se isI we ma sf).den : Int))) 4 (iL ((m_duN ln cn se isI we br ma sf i).den : Int))) 4 (iL (((m_duN ln cn se isI we br ma sf (i + 1))).den : Int)) = (vp_updL (vp_updL (vp_updL (vp_updL aL 0 (iL ((m_ent ln cn se isI we).den : Int))) 1 (iL ((m_crN ln cn se isI we ma sf 6).den : Int))) 2 (iL ((m_re ln cn se isI we ma sf).den : Int))) 4 (iL ((m_duN ln cn se isI we br ma sf (i + 1)).den : Int))) := (by first | rw [updL_uu] | rw [m_duN_n hwo])
          rw [ew1] at hP hD
          have ew2 : vp_updL (vp_updL (m_uUN ln cn se isI we br ma sf uU i) i (iL 0)) i (iL ((m_dU ln cn se isI we br ma sf i)).num) = (m_uUN ln cn se isI we br ma sf uU (i + 1)) := (by first | rw [updL_uu, m_uUN_s, m_dU_p hwo] | (rw [m_uUN_s, m_dU_n hwo]; rfl))
          rw [ew2] at hP hD
          have ew3 : vp_updL (vp_updL (m_uLN ln cn se isI we br ma sf uL i) i (iL 1)) i (iL (((m_dU ln cn se isI we br ma sf i)).den : Int)) = (m_uLN ln cn se isI we br ma sf uL (i + 1)) := (by first | rw [updL_uu, m_uLN_s, m_dU_p hwo] | (rw [m_uLN_s, m_dU_n hwo]; rfl))
          rw [ew3] at hP hD
          refine ih (6 - (i + 1)) ls H locs (by omega) ⟨(i + 1), (m_duN ln cn se isI we br ma sf (i + 1)), by omega, rfl, trivial, ?_, hP, hD, hS⟩
          exact lv_sub hl [0, 2, 3, 4, 5] rfl
      · refine lv_aload_n hx hb dX4_findDues_74 rfl (lv_at hl 4 rfl) ?_
        refine lv_iload hx hb dX4_findDues_75 (lv_at hl 0 rfl) ?_
        refine vp_callSi (rRV (As := [.int (nI i)]) (rest := []) ⟨hx, hb, hml, hown, hT⟩ (c_X4_isUnit (l := l) i (by first | assumption | omega)) (cwTV 1 hT kc_X4_isUnit km_X4_113 ki_X4_isUnit ks_X4_isUnit kn_X4 rfl rfl md_X4_isUnit ⟨Nat.le_of_ble_eq_true rfl, Nat.le_of_ble_eq_true rfl⟩) (va_P.sub (ws' := mW cI cZ k (iL (r1).num) (iL ((r1).den : Int)) ln cn tm se isI we br ma sf pa) hP [0, 1, 2, 3, 4, 5, 6, 7] rfl) hK (va_recv hK hP (ci := 4) (q0 := 0) rfl rfl) rfl hl.1 rfl (Nat.le_of_ble_eq_true rfl) dX4_findDues_77 ⟨Nat.le_of_ble_eq_true rfl, Nat.le_of_ble_eq_true rfl⟩) (fun r_77 hw_77 => ?_)
        rcases hw_77 with ⟨rfl, hw_77⟩ | ⟨rfl, hw_77⟩
        · refine lv_if_eq (tgt := 112) hx hb dX4_findDues_80 (by decide) (fun h => absurd h (by decide)) (fun c_80 => ?_)
          refine lv_aload_n hx hb dX4_findDues_83 rfl (lv_at hl 4 rfl) ?_
          refine va_get (D := (dC, dI)) (ci := 4) (v := .ref (k 6)) (C := RX4) (T := TX4) (N := 22) hx hb hT hiX4 hown hK hP 0 rfl rfl 9 (by decide) (hT _ kf_X4_30) (fun _ h9 => h9) rfl dX4_findDues_84 ?_
          refine lv_iload hx hb dX4_findDues_87 (lv_at hl 0 rfl) ?_
          refine ald_i hx hb hK hP 6 0 rfl rfl (by decide) (w := i) rfl (by omega) dX4_findDues_89 ?_
          refine lv_bipush (v := (-9)) hx hb dX4_findDues_90 (by decide) ?_
          refine lv_icmp_ne (tgt := 112) hx hb dX4_findDues_92 (by decide) (fun c_92 => ?_) (fun c_92 => ?_)
          · refine lv_iconst (v := 0) hx hb dX4_findDues_112 (by decide) ?_
            exact hJ3 0 (by first | exact Or.inr ⟨rfl, fun h => hw_77 h.1⟩ | exact Or.inr ⟨rfl, fun h => c_92 h.2.1⟩ | exact Or.inr ⟨rfl, fun h => h.2.2.1 hw_98⟩ | exact Or.inr ⟨rfl, fun h => h.2.2.2 c_105⟩ | exact Or.inl ⟨rfl, hw_77, c_92, hw_98, c_105⟩)
          · refine lv_aload_n hx hb dX4_findDues_95 rfl (lv_at hl 4 rfl) ?_
            refine lv_iload hx hb dX4_findDues_96 (lv_at hl 0 rfl) ?_
            refine vp_callSi (rRV (As := [.int (nI i)]) (rest := []) ⟨hx, hb, hml, hown, hT⟩ (c_X4_isUnitBroke (l := l) i (by first | assumption | omega) hm) (cwTV 1 hT kc_X4_isUnitBroke km_X4_116 ki_X4_isUnitBroke ks_X4_isUnitBroke kn_X4 rfl rfl md_X4_isUnitBroke ⟨Nat.le_of_ble_eq_true rfl, Nat.le_of_ble_eq_true rfl⟩) (va_P.sub (ws' := mW cI cZ k (iL (r1).num) (iL ((r1).den : Int)) ln cn tm se isI we br ma sf pa) hP [0, 1, 2, 3, 4, 5, 6, 7] rfl) hK (va_recv hK hP (ci := 4) (q0 := 0) rfl rfl) rfl hl.1 rfl (Nat.le_of_ble_eq_true rfl) dX4_findDues_98 ⟨Nat.le_of_ble_eq_true rfl, Nat.le_of_ble_eq_true rfl⟩) (fun r_98 hw_98 => ?_)
            rcases hw_98 with ⟨rfl, hw_98⟩ | ⟨rfl, hw_98⟩
            · refine lv_if_ne (tgt := 112) hx hb dX4_findDues_101 (by decide) (fun c_101 => ?_) (fun h => absurd h (by decide))
              refine lv_iconst (v := 0) hx hb dX4_findDues_112 (by decide) ?_
              exact hJ3 0 (by first | exact Or.inr ⟨rfl, fun h => hw_77 h.1⟩ | exact Or.inr ⟨rfl, fun h => c_92 h.2.1⟩ | exact Or.inr ⟨rfl, fun h => h.2.2.1 hw_98⟩ | exact Or.inr ⟨rfl, fun h => h.2.2.2 c_105⟩ | exact Or.inl ⟨rfl, hw_77, c_92, hw_98, c_105⟩)
            · refine lv_if_ne (tgt := 112) hx hb dX4_findDues_101 (by decide) (fun h => absurd h (by decide)) (fun c_101 => ?_)
              refine lv_iload_n hx hb dX4_findDues_104 rfl (lv_at hl 3 rfl) ?_
              refine lv_if_le (tgt := 112) hx hb dX4_findDues_105 (by decide) (fun c_105 => ?_) (fun c_105 => ?_)
              · refine lv_iconst (v := 0) hx hb dX4_findDues_112 (by decide) ?_
                exact hJ3 0 (by first | exact Or.inr ⟨rfl, fun h => hw_77 h.1⟩ | exact Or.inr ⟨rfl, fun h => c_92 h.2.1⟩ | exact Or.inr ⟨rfl, fun h => h.2.2.1 hw_98⟩ | exact Or.inr ⟨rfl, fun h => h.2.2.2 c_105⟩ | exact Or.inl ⟨rfl, hw_77, c_92, hw_98, c_105⟩)
              · refine lv_iconst (v := 1) hx hb dX4_findDues_108 (by decide) ?_
                refine lv_goto (tgt := 113) hx hb dX4_findDues_109 (by decide) ?_
                exact hJ3 1 (by first | exact Or.inr ⟨rfl, fun h => hw_77 h.1⟩ | exact Or.inr ⟨rfl, fun h => c_92 h.2.1⟩ | exact Or.inr ⟨rfl, fun h => h.2.2.1 hw_98⟩ | exact Or.inr ⟨rfl, fun h => h.2.2.2 c_105⟩ | exact Or.inl ⟨rfl, hw_77, c_92, hw_98, c_105⟩)
        · refine lv_if_eq (tgt := 112) hx hb dX4_findDues_80 (by decide) (fun c_80 => ?_) (fun h => absurd h (by decide))
          refine lv_iconst (v := 0) hx hb dX4_findDues_112 (by decide) ?_
          exact hJ3 0 (by first | exact Or.inr ⟨rfl, fun h => hw_77 h.1⟩ | exact Or.inr ⟨rfl, fun h => c_92 h.2.1⟩ | exact Or.inr ⟨rfl, fun h => h.2.2.1 hw_98⟩ | exact Or.inr ⟨rfl, fun h => h.2.2.2 c_105⟩ | exact Or.inl ⟨rfl, hw_77, c_92, hw_98, c_105⟩)
    · have hE : i = 6 := by omega
      subst hE
      refine lv_iload hx hb dX4_findDues_67 (lv_at hl 0 rfl) ?_
      refine lv_bipush (v := 6) hx hb dX4_findDues_69 (by decide) ?_
      refine lv_icmp_ge (tgt := 209) hx hb dX4_findDues_71 (by decide) (fun c_71 => ?_) (fun h => absurd h (by decide))
      refine lv_aload_n hx hb dX4_findDues_209 rfl (lv_at hl 4 rfl) ?_
      refine lv_aload_n hx hb dX4_findDues_210 rfl (lv_at hl 4 rfl) ?_
      refine va_get (D := (dC, dI)) (ci := 4) (v := .ref (k 8)) (C := RX4) (T := TX4) (N := 22) hx hb hT hiX4 hown hK hP 0 rfl rfl 11 (by decide) (hT _ kf_X4_36) (fun _ h9 => h9) rfl dX4_findDues_211 ?_
      refine lv_iconst (v := 2) hx hb dX4_findDues_214 (by decide) ?_
      refine ald_l hx hb hK hP 8 1 rfl rfl (by decide) (w := 2) rfl (by decide) dX4_findDues_215 ?_
      refine topl_eq (y := (iL (m_re ln cn se isI we ma sf).num)) rfl ?_
      refine lv_aload_n hx hb dX4_findDues_216 rfl (lv_at hl 4 rfl) ?_
      refine va_get (D := (dC, dI)) (ci := 4) (v := .ref (k 9)) (C := RX4) (T := TX4) (N := 22) hx hb hT hiX4 hown hK hP 0 rfl rfl 12 (by decide) (hT _ kf_X4_40) (fun _ h9 => h9) rfl dX4_findDues_217 ?_
      refine lv_iconst (v := 2) hx hb dX4_findDues_220 (by decide) ?_
      refine ald_l hx hb hK hP 9 1 rfl rfl (by decide) (w := 2) rfl (by decide) dX4_findDues_221 ?_
      refine topl_eq (y := (iL ((m_re ln cn se isI we ma sf).den : Int))) rfl ?_
      refine lv_aload_n hx hb dX4_findDues_222 rfl (lv_at hl 4 rfl) ?_
      refine va_get (D := (dC, dI)) (ci := 4) (v := .ref (k 8)) (C := RX4) (T := TX4) (N := 22) hx hb hT hiX4 hown hK hP 0 rfl rfl 11 (by decide) (hT _ kf_X4_36) (fun _ h9 => h9) rfl dX4_findDues_223 ?_
      refine lv_iconst (v := 4) hx hb dX4_findDues_226 (by decide) ?_
      refine ald_l hx hb hK hP 8 1 rfl rfl (by decide) (w := 4) rfl (by decide) dX4_findDues_227 ?_
      refine topl_eq (y := (iL (m_duN ln cn se isI we br ma sf 6).num)) rfl ?_
      refine lv_aload_n hx hb dX4_findDues_228 rfl (lv_at hl 4 rfl) ?_
      refine va_get (D := (dC, dI)) (ci := 4) (v := .ref (k 9)) (C := RX4) (T := TX4) (N := 22) hx hb hT hiX4 hown hK hP 0 rfl rfl 12 (by decide) (hT _ kf_X4_40) (fun _ h9 => h9) rfl dX4_findDues_229 ?_
      refine lv_iconst (v := 4) hx hb dX4_findDues_232 (by decide) ?_
      refine ald_l hx hb hK hP 9 1 rfl rfl (by decide) (w := 4) rfl (by decide) dX4_findDues_233 ?_
      refine topl_eq (y := (iL ((m_duN ln cn se isI we br ma sf 6).den : Int))) rfl ?_
      refine lv_ldc2 hx hb hown (hT _ kj_X4_132) dX4_findDues_234 ?_
      refine topl_eq (y := (iL (-1))) rfl ?_
      have hC := m_duN_bd (se := se) hok 6 (Nat.le_refl _)
      have hCn := bd_nd hDb.1 hC.1
      refine fM_v (wc := mQ cI cZ k r1 ln cn tm se isI we br ma sf pa) (wr := mS cJ k (vp_updL (vp_updL (vp_updL (vp_updL aU 0 (iL (m_ent ln cn se isI we).num)) 1 (iL (m_crN ln cn se isI we ma sf 6).num)) 2 (iL (m_re ln cn se isI we ma sf).num)) 4 (iL (m_duN ln cn se isI we br ma sf 6).num)) (vp_updL (vp_updL (vp_updL (vp_updL aL 0 (iL ((m_ent ln cn se isI we).den : Int))) 1 (iL ((m_crN ln cn se isI we ma sf 6).den : Int))) 2 (iL ((m_re ln cn se isI we ma sf).den : Int))) 4 (iL ((m_duN ln cn se isI we br ma sf 6).den : Int))) (m_uUN ln cn se isI we br ma sf uU 6) (m_uLN ln cn se isI we br ma sf uL 6)) (rMV (wc := mQ cI cZ k r1 ln cn tm se isI we br ma sf pa) (As := [.long (iL (m_re ln cn se isI we ma sf).num), .long (iL ((m_re ln cn se isI we ma sf).den : Int)), .long (iL (m_duN ln cn se isI we br ma sf 6).num), .long (iL ((m_duN ln cn se isI we br ma sf 6).den : Int)), .long (iL (-1))]) (rest := []) ⟨hx, hb, hml, hown, hT⟩ (c_X4_adds (l := l) H.size ((m_re ln cn se isI we ma sf).num) ((m_re ln cn se isI we ma sf).den) ((m_duN ln cn se isI we br ma sf 6).num) ((m_duN ln cn se isI we br ma sf 6).den) (-1) (m_DD cn se isI we br ma sf) 1000000 (6 * 2000000) (Rat.den_pos _) (Rat.den_pos _) hDb.1 hRn.1 hCn.1 hRn.2 hCn.2 (by omega) (by omega) (Or.inr rfl)) (cwTV 5 hT kc_X4_adds km_X4_128 ki_X4_adds ks_X4_adds kn_X4 rfl rfl md_X4_adds ⟨Nat.le_of_ble_eq_true rfl, Nat.le_of_ble_eq_true rfl⟩) (va_P.sub (ws' := mQ cI cZ k r1 ln cn tm se isI we br ma sf pa) hP [0, 1, 2, 3, 4, 5, 6, 7] rfl) (va_D.sub (ws' := mQ cI cZ k r1 ln cn tm se isI we br ma sf pa) hD [0, 1, 2, 3, 4, 5, 6, 7] (by decide) rfl) hK (va_recv hK hP (ci := 4) (q0 := 0) rfl rfl) rfl hl.1 rfl (Nat.le_of_ble_eq_true rfl) dX4_findDues_237 ⟨Nat.le_of_ble_eq_true rfl, Nat.le_of_ble_eq_true rfl⟩) hP hD hS hA (fun u_237 H locs hw_237 hP hD hS => ?_)
      have hP : va_P (dC, dI) vwCl ((mQ cI cZ k (adQ ((m_re ln cn se isI we ma sf).num) ((m_re ln cn se isI we ma sf).den) ((m_duN ln cn se isI we br ma sf 6).num) ((m_duN ln cn se isI we br ma sf 6).den) (-1)) ln cn tm se isI we br ma sf pa) ++ (mS cJ k (vp_updL (vp_updL (vp_updL (vp_updL aU 0 (iL (m_ent ln cn se isI we).num)) 1 (iL (m_crN ln cn se isI we ma sf 6).num)) 2 (iL (m_re ln cn se isI we ma sf).num)) 4 (iL (m_duN ln cn se isI we br ma sf 6).num)) (vp_updL (vp_updL (vp_updL (vp_updL aL 0 (iL ((m_ent ln cn se isI we).den : Int))) 1 (iL ((m_crN ln cn se isI we ma sf 6).den : Int))) 2 (iL ((m_re ln cn se isI we ma sf).den : Int))) 4 (iL ((m_duN ln cn se isI we br ma sf 6).den : Int))) (m_uUN ln cn se isI we br ma sf uU 6) (m_uLN ln cn se isI we br ma sf uL 6))) H := hP
      have hD : va_D A ((mQ cI cZ k (adQ ((m_re ln cn se isI we ma sf).num) ((m_re ln cn se isI we ma sf).den) ((m_duN ln cn se isI we br ma sf 6).num) ((m_duN ln cn se isI we br ma sf 6).den) (-1)) ln cn tm se isI we br ma sf pa) ++ (mS cJ k (vp_updL (vp_updL (vp_updL (vp_updL aU 0 (iL (m_ent ln cn se isI we).num)) 1 (iL (m_crN ln cn se isI we ma sf 6).num)) 2 (iL (m_re ln cn se isI we ma sf).num)) 4 (iL (m_duN ln cn se isI we br ma sf 6).num)) (vp_updL (vp_updL (vp_updL (vp_updL aL 0 (iL ((m_ent ln cn se isI we).den : Int))) 1 (iL ((m_crN ln cn se isI we ma sf 6).den : Int))) 2 (iL ((m_re ln cn se isI we ma sf).den : Int))) 4 (iL ((m_duN ln cn se isI we br ma sf 6).den : Int))) (m_uUN ln cn se isI we br ma sf uU 6) (m_uLN ln cn se isI we br ma sf uL 6))) := hD
      rw [show (adQ ((m_re ln cn se isI we ma sf).num) ((m_re ln cn se isI we ma sf).den) ((m_duN ln cn se isI we br ma sf 6).num) ((m_duN ln cn se isI we br ma sf 6).den) (-1)) = ((m_re ln cn se isI we ma sf) - (m_duN ln cn se isI we br ma sf 6)) from (adQ_m1 _ _)] at hP hD
      have hP : va_P (dC, dI) vwCl ((mQ cI cZ k ((m_re ln cn se isI we ma sf) - (m_duN ln cn se isI we br ma sf 6)) ln cn tm se isI we br ma sf pa) ++ (mS cJ k (vp_updL (vp_updL (vp_updL (vp_updL aU 0 (iL (m_ent ln cn se isI we).num)) 1 (iL (m_crN ln cn se isI we ma sf 6).num)) 2 (iL (m_re ln cn se isI we ma sf).num)) 4 (iL (m_duN ln cn se isI we br ma sf 6).num)) (vp_updL (vp_updL (vp_updL (vp_updL aL 0 (iL ((m_ent ln cn se isI we).den : Int))) 1 (iL ((m_crN ln cn se isI we ma sf 6).den : Int))) 2 (iL ((m_re ln cn se isI we ma sf).den : Int))) 4 (iL ((m_duN ln cn se isI we br ma sf 6).den : Int))) (m_uUN ln cn se isI we br ma sf uU 6) (m_uLN ln cn se isI we br ma sf uL 6))) H := hP
      have hD : va_D A ((mQ cI cZ k ((m_re ln cn se isI we ma sf) - (m_duN ln cn se isI we br ma sf 6)) ln cn tm se isI we br ma sf pa) ++ (mS cJ k (vp_updL (vp_updL (vp_updL (vp_updL aU 0 (iL (m_ent ln cn se isI we).num)) 1 (iL (m_crN ln cn se isI we ma sf 6).num)) 2 (iL (m_re ln cn se isI we ma sf).num)) 4 (iL (m_duN ln cn se isI we br ma sf 6).num)) (vp_updL (vp_updL (vp_updL (vp_updL aL 0 (iL ((m_ent ln cn se isI we).den : Int))) 1 (iL ((m_crN ln cn se isI we ma sf 6).den : Int))) 2 (iL ((m_re ln cn se isI we ma sf).den : Int))) 4 (iL ((m_duN ln cn se isI we br ma sf 6).den : Int))) (m_uUN ln cn se isI we br ma sf uU 6) (m_uLN ln cn se isI we br ma sf uL 6))) := hD
      refine lv_aload_n hx hb dX4_findDues_240 rfl (lv_at hl 4 rfl) ?_
      refine lv_iconst (v := 3) hx hb dX4_findDues_241 (by decide) ?_
      refine fM_v (wc := (mQ cI cZ k ((m_re ln cn se isI we ma sf) - (m_duN ln cn se isI we br ma sf 6)) ln cn tm se isI we br ma sf pa) ++ (mS cJ k (vp_updL (vp_updL (vp_updL (vp_updL aU 0 (iL (m_ent ln cn se isI we).num)) 1 (iL (m_crN ln cn se isI we ma sf 6).num)) 2 (iL (m_re ln cn se isI we ma sf).num)) 4 (iL (m_duN ln cn se isI we br ma sf 6).num)) (vp_updL (vp_updL (vp_updL (vp_updL aL 0 (iL ((m_ent ln cn se isI we).den : Int))) 1 (iL ((m_crN ln cn se isI we ma sf 6).den : Int))) 2 (iL ((m_re ln cn se isI we ma sf).den : Int))) 4 (iL ((m_duN ln cn se isI we br ma sf 6).den : Int))) (m_uUN ln cn se isI we br ma sf uU 6) (m_uLN ln cn se isI we br ma sf uL 6))) (wr := []) (rMV (wc := (mQ cI cZ k ((m_re ln cn se isI we ma sf) - (m_duN ln cn se isI we br ma sf 6)) ln cn tm se isI we br ma sf pa) ++ (mS cJ k (vp_updL (vp_updL (vp_updL (vp_updL aU 0 (iL (m_ent ln cn se isI we).num)) 1 (iL (m_crN ln cn se isI we ma sf 6).num)) 2 (iL (m_re ln cn se isI we ma sf).num)) 4 (iL (m_duN ln cn se isI we br ma sf 6).num)) (vp_updL (vp_updL (vp_updL (vp_updL aL 0 (iL ((m_ent ln cn se isI we).den : Int))) 1 (iL ((m_crN ln cn se isI we ma sf 6).den : Int))) 2 (iL ((m_re ln cn se isI we ma sf).den : Int))) 4 (iL ((m_duN ln cn se isI we br ma sf 6).den : Int))) (m_uUN ln cn se isI we br ma sf uU 6) (m_uLN ln cn se isI we br ma sf uL 6))) (As := [.int 3]) (rest := []) ⟨hx, hb, hml, hown, hT⟩ (c_X4_keeps (l := l) H.size 3 (by decide)) (cwTV 1 hT kc_X4_keeps km_X4_122 ki_X4_keeps ks_X4_keeps kn_X4 rfl rfl md_X4_keeps ⟨Nat.le_of_ble_eq_true rfl, Nat.le_of_ble_eq_true rfl⟩) hP hD hK (va_recv hK hP (ci := 4) (q0 := 0) rfl rfl) rfl hl.1 rfl (Nat.le_of_ble_eq_true rfl) dX4_findDues_242 ⟨Nat.le_of_ble_eq_true rfl, Nat.le_of_ble_eq_true rfl⟩) hP hD hS hA (fun u_242 H locs hw_242 hP hD hS => ?_)
      have hP : va_P (dC, dI) vwCl ((mQ cI cZ k ((m_re ln cn se isI we ma sf) - (m_duN ln cn se isI we br ma sf 6)) ln cn tm se isI we br ma sf pa) ++ (mS cJ k (vp_updL (vp_updL (vp_updL (vp_updL (vp_updL aU 0 (iL (m_ent ln cn se isI we).num)) 1 (iL (m_crN ln cn se isI we ma sf 6).num)) 2 (iL (m_re ln cn se isI we ma sf).num)) 4 (iL (m_duN ln cn se isI we br ma sf 6).num)) 3 (iL (((m_re ln cn se isI we ma sf) - (m_duN ln cn se isI we br ma sf 6))).num)) (vp_updL (vp_updL (vp_updL (vp_updL (vp_updL aL 0 (iL ((m_ent ln cn se isI we).den : Int))) 1 (iL ((m_crN ln cn se isI we ma sf 6).den : Int))) 2 (iL ((m_re ln cn se isI we ma sf).den : Int))) 4 (iL ((m_duN ln cn se isI we br ma sf 6).den : Int))) 3 (iL ((((m_re ln cn se isI we ma sf) - (m_duN ln cn se isI we br ma sf 6))).den : Int))) (m_uUN ln cn se isI we br ma sf uU 6) (m_uLN ln cn se isI we br ma sf uL 6))) H := hP
      have hD : va_D A ((mQ cI cZ k ((m_re ln cn se isI we ma sf) - (m_duN ln cn se isI we br ma sf 6)) ln cn tm se isI we br ma sf pa) ++ (mS cJ k (vp_updL (vp_updL (vp_updL (vp_updL (vp_updL aU 0 (iL (m_ent ln cn se isI we).num)) 1 (iL (m_crN ln cn se isI we ma sf 6).num)) 2 (iL (m_re ln cn se isI we ma sf).num)) 4 (iL (m_duN ln cn se isI we br ma sf 6).num)) 3 (iL (((m_re ln cn se isI we ma sf) - (m_duN ln cn se isI we br ma sf 6))).num)) (vp_updL (vp_updL (vp_updL (vp_updL (vp_updL aL 0 (iL ((m_ent ln cn se isI we).den : Int))) 1 (iL ((m_crN ln cn se isI we ma sf 6).den : Int))) 2 (iL ((m_re ln cn se isI we ma sf).den : Int))) 4 (iL ((m_duN ln cn se isI we br ma sf 6).den : Int))) 3 (iL ((((m_re ln cn se isI we ma sf) - (m_duN ln cn se isI we br ma sf 6))).den : Int))) (m_uUN ln cn se isI we br ma sf uU 6) (m_uLN ln cn se isI we br ma sf uL 6))) := hD
      exact retM_v (S := Unit) (post := fun _ => True) (w2 := fun u => (mQ cI cZ k ((m_re ln cn se isI we ma sf) - (m_duN ln cn se isI we br ma sf 6)) ln cn tm se isI we br ma sf pa) ++ (mS cJ k (vp_updL (vp_updL (vp_updL (vp_updL (vp_updL aU 0 (iL (m_ent ln cn se isI we).num)) 1 (iL (m_crN ln cn se isI we ma sf 6).num)) 2 (iL (m_re ln cn se isI we ma sf).num)) 4 (iL (m_duN ln cn se isI we br ma sf 6).num)) 3 (iL ((m_re ln cn se isI we ma sf) - (m_duN ln cn se isI we br ma sf 6)).num)) (vp_updL (vp_updL (vp_updL (vp_updL (vp_updL aL 0 (iL ((m_ent ln cn se isI we).den : Int))) 1 (iL ((m_crN ln cn se isI we ma sf 6).den : Int))) 2 (iL ((m_re ln cn se isI we ma sf).den : Int))) 4 (iL ((m_duN ln cn se isI we br ma sf 6).den : Int))) 3 (iL (((m_re ln cn se isI we ma sf) - (m_duN ln cn se isI we br ma sf 6)).den : Int))) (m_uUN ln cn se isI we br ma sf uU 6) (m_uLN ln cn se isI we br ma sf uL 6))) () hx hb hr hlocks trivial hP hK hD hS dX4_findDues_245
  · refine lv_aload_n hx hb dX4_findDues_16 rfl (lv_at hl 2 rfl) ?_
    refine va_get (D := (dC, dI)) (ci := 4) (v := .ref (k 1)) (C := RX4) (T := TX4) (N := 22) hx hb hT hiX4 hown hK hP 0 rfl rfl 4 (by decide) (hT _ kf_X4_13) (fun _ h9 => h9) rfl dX4_findDues_17 ?_
    refine lv_iconst (v := 1) hx hb dX4_findDues_20 (by decide) ?_
    refine ald_i hx hb hK hP 1 0 rfl rfl (by decide) (w := 1) rfl (by decide) dX4_findDues_21 ?_
    refine lv_if_ne (tgt := 29) hx hb dX4_findDues_22 (by decide) (fun c_22 => ?_) (fun c_22 => ?_)
    · refine lv_aload_n hx hb dX4_findDues_29 rfl (lv_at hl 2 rfl) ?_
      refine va_get (D := (dC, dI)) (ci := 4) (v := .ref (k 1)) (C := RX4) (T := TX4) (N := 22) hx hb hT hiX4 hown hK hP 0 rfl rfl 4 (by decide) (hT _ kf_X4_13) (fun _ h9 => h9) rfl dX4_findDues_30 ?_
      refine lv_iconst (v := 1) hx hb dX4_findDues_33 (by decide) ?_
      refine ald_i hx hb hK hP 1 0 rfl rfl (by decide) (w := 1) rfl (by decide) dX4_findDues_34 ?_
      refine lv_iconst (v := 1) hx hb dX4_findDues_35 (by decide) ?_
      refine lv_icmp_ne (tgt := 48) hx hb dX4_findDues_36 (by decide) (fun c_36 => ?_) (fun c_36 => ?_)
      · refine lv_iconst (v := 0) hx hb dX4_findDues_48 (by decide) ?_
        exact hJ1 0 (by simp only [m_am, c_22, c_36, ↓reduceIte, Bool.false_eq_true, i10])
      · refine lv_iload_n hx hb dX4_findDues_39 rfl (lv_at hl 0 rfl) ?_
        refine lv_aload_n hx hb dX4_findDues_40 rfl (lv_at hl 2 rfl) ?_
        refine va_get (D := (dC, dI)) (ci := 4) (v := .int cn) (C := RX4) (T := TX4) (N := 22) hx hb hT hiX4 hown hK hP 0 rfl rfl 3 (by decide) (hT _ kf_X4_91) (fun _ h9 => h9) rfl dX4_findDues_41 ?_
        refine lv_iadd hx hb dX4_findDues_44 ?_
        refine lv_goto (tgt := 49) hx hb dX4_findDues_45 (by decide) ?_
        exact hJ1 ((m_opN 0 isI we br ma sf 6) + cn) (by simp only [m_am, c_22, c_36, ↓reduceIte, Bool.false_eq_true, i10])
    · refine lv_iload_n hx hb dX4_findDues_25 rfl (lv_at hl 0 rfl) ?_
      refine lv_goto (tgt := 49) hx hb dX4_findDues_26 (by decide) ?_
      exact hJ1 (m_opN 0 isI we br ma sf 6) (by simp only [m_am, c_22, ↓reduceIte, Bool.false_eq_true, i10])
