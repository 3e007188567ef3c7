variable {l : Launch} {dC : Nat → ClassId} {dI : Nat → Nat → Nat} {cI cJ cZ : ClassId}
variable {q : Nat → Nat} {ln cw ic bs ss : Int32} {se we un sf pa : Nat → Int32}
variable {ct : Int32} {ov gf : Nat → Int64} {gi ta : Nat → Int32}
variable {k : Nat → Nat} {r : Rat} {up lo : Int64} {cn tm : Int32} {isI br ma : Nat → Int32} {aU aL uU uL oU oL gU gL : Nat → Int64}

def m_crN (ln cn : Int32) (se isI we ma sf : Nat → Int32) : Nat → Rat
  | 0 => 0
  | i + 1 => if m_isU isI ma i then m_crN ln cn se isI we ma sf i + m_cr ln cn se isI we ma sf i else m_crN ln cn se isI we ma sf i
theorem m_crN_p {ln cn : Int32} {se isI we ma sf : Nat → Int32} {i : Nat} (h : m_isU isI ma i) : m_crN ln cn se isI we ma sf (i + 1) = m_crN ln cn se isI we ma sf i + m_cr ln cn se isI we ma sf i := by
  show (if m_isU isI ma i then _ else _) = _
  rw [if_pos h]
theorem m_crN_n {ln cn : Int32} {se isI we ma sf : Nat → Int32} {i : Nat} (h : ¬ m_isU isI ma i) : m_crN ln cn se isI we ma sf (i + 1) = m_crN ln cn se isI we ma sf i := by
  show (if m_isU isI ma i then _ else _) = _
  rw [if_neg h]
theorem updL_uu (f : Nat → Int64) (i : Nat) (x y : Int64) : vp_updL (vp_updL f i x) i y = vp_updL f i y := by
  funext j
  unfold vp_updL
  split <;> rfl
theorem adQ_1 (x y : Rat) : adQ x.num x.den y.num y.den 1 = x + y := by rw [adQ_rr]; show x + (1 : Rat) * y = _; rw [Rat.one_mul]
theorem adQ_m1 (x y : Rat) : adQ x.num x.den y.num y.den (-1) = x - y := by rw [adQ_rr, Rat.intCast_neg]; show x + (-(1 : Rat)) * y = _; grind
/-- the lower number of the case -/
def m_D (cn : Int32) (isI we : Nat → Int32) : Nat := if (m_blN cn isI we 6).toInt ≤ 0 then 1 else (m_blN cn isI we 6).toInt.natAbs
theorem m_D_bd {ln cn : Int32} {isI we br ma sf : Nat → Int32} (h : m_ok ln cn isI we br ma sf) : 0 < m_D cn isI we ∧ m_D cn isI we ≤ 700 := by
  have := h.2.2.1
  unfold m_D
  split <;> omega
theorem bd_di (D V : Nat) (hD : 0 < D) : bd (Rat.divInt 0 1) D V := by
  have e : Rat.divInt 0 1 = 0 := by decide
  rw [e]; exact bd_zero _ _
theorem m_ent_bd {ln cn : Int32} {se isI we br ma sf : Nat → Int32} (h : m_ok ln cn isI we br ma sf) : bd (m_ent ln cn se isI we) (m_D cn isI we) 1000000 ∧ 0 ≤ m_ent ln cn se isI we := by
  have hD := m_D_bd h
  have h1 := h.2.1
  have h2 := h.2.2.1
  have e0 : (0 : Rat) ≤ Rat.divInt 0 1 := by decide
  unfold m_ent
  split
  · exact ⟨bd_di _ _ hD.1, e0⟩
  · rename_i hb
    split
    · have hb2 : (m_blN cn isI we 6).toInt ≠ 0 := fun h => hb (i32_0.mpr h)
      have e1 : (m_blN cn isI we 6 - cn).toInt = (m_blN cn isI we 6).toInt - cn.toInt := i32_sub (by omega) (by omega)
      rw [e1]
      have g := mul_bd h1.1 h1.2 (b := (m_blN cn isI we 6).toInt - cn.toInt) (y := (m_blN cn isI we 6).toInt) (by omega) (by omega)
      refine ⟨?_, Rat.divInt_nonneg g.1 (by omega)⟩
      rw [rq_eq]
      refine bd_q (by omega) hD.1 ?_ (by omega)
      unfold m_D
      rw [if_neg (by omega)]
      exact Nat.dvd_refl _
    · exact ⟨bd_di _ _ hD.1, e0⟩
theorem m_sv_q {sf : Nat → Int32} {u : Nat} {D : Nat} (hD : 0 < D) (h : 0 ≤ m_sv sf u ∧ m_sv sf u ≤ 1000000) : bd (Rat.divInt (m_sv sf u) 1) D 200000000 ∧ 0 ≤ Rat.divInt (m_sv sf u) 1 := by
  refine ⟨?_, Rat.divInt_nonneg h.1 (by decide)⟩
  rw [rq_eq]
  exact bd_q (by decide) hD (Nat.one_dvd _) (by omega)
theorem m_cr_bd {ln cn : Int32} {se isI we br ma sf : Nat → Int32} (h : m_ok ln cn isI we br ma sf) {u : Nat} (hu : u < 6) : bd (m_cr ln cn se isI we ma sf u) (m_D cn isI we) 200000000 ∧ 0 ≤ m_cr ln cn se isI we ma sf u := by
  have hD := m_D_bd h
  have hs := m_sv_q (D := m_D cn isI we) hD.1 (m_sv_bd (h.2.2.2.2.1 u hu))
  have hb : bd (m_cb ln cn isI we ma sf u) (m_D cn isI we) 200000000 ∧ 0 ≤ m_cb ln cn isI we ma sf u := by
    have h1 := h.2.1
    have h2 := h.2.2.1
    have h3 := h.2.2.2.1 u hu
    have e0 : (0 : Rat) ≤ Rat.divInt 0 1 := by decide
    unfold m_cb
    split
    · exact ⟨bd_di _ _ hD.1, e0⟩
    · split
      · exact ⟨bd_di _ _ hD.1, e0⟩
      · rename_i hb
        have hb2 := le0_of hb
        have g := mul_bd h1.1 h1.2 h3.1 h3.2
        refine ⟨?_, Rat.divInt_nonneg g.1 (by omega)⟩
        rw [rq_eq]
        refine bd_q (by omega) hD.1 ?_ (by omega)
        unfold m_D
        rw [if_neg (by omega)]
        exact Nat.dvd_refl _
  unfold m_cr
  split
  · exact hs
  · split
    · split
      · exact hb
      · exact hs
    · exact hb
theorem m_crN_bd {ln cn : Int32} {se isI we br ma sf : Nat → Int32} (h : m_ok ln cn isI we br ma sf) : ∀ i, i ≤ 6 → bd (m_crN ln cn se isI we ma sf i) (m_D cn isI we) (i * 200000000) ∧ 0 ≤ m_crN ln cn se isI we ma sf i := by
  intro i
  induction i with
  | zero => intro _; exact ⟨bd_zero _ _, Rat.le_refl⟩
  | succ i ih =>
    intro hi
    have h1 := ih (by omega)
    have h2 := m_cr_bd (se := se) h (u := i) (by omega)
    by_cases hu : m_isU isI ma i
    · rw [m_crN_p hu, Nat.succ_mul]
      exact ⟨bd_add h1.1 h2.1, Rat.add_nonneg h1.2 h2.2⟩
    · rw [m_crN_n hu]
      exact ⟨bd_mono h1.1 (by omega), h1.2⟩
def m_re (ln cn : Int32) (se isI we ma sf : Nat → Int32) : Rat := if 0 ≤ (m_ent ln cn se isI we - m_crN ln cn se isI we ma sf 6).num then m_ent ln cn se isI we - m_crN ln cn se isI we ma sf 6 else Rat.divInt 0 1
/-- at least 0, over D, at most V -/
theorem bd_le {r t : Rat} {D V U : Nat} (hD : 0 < D) (h1 : bd r D V) (h2 : bd t D U) (ht : 0 ≤ t) (h : 0 ≤ r - t) : bd (r - t) D V := by
  obtain ⟨a, rfl, ha⟩ := h1
  obtain ⟨b, rfl, hb⟩ := h2
  have hp : (0 : Int) < (D : Int) := by omega
  have e : ((a : Rat) / ((D : Int) : Rat)) - ((b : Rat) / ((D : Int) : Rat)) = ((a - b : Int) : Rat) / ((D : Int) : Rat) := by rw [Rat.intCast_sub]; grind
  rw [e, ← rq_eq] at h
  rw [← rq_eq] at ht
  have k1 := (Rat.divInt_nonneg_iff_of_pos_right hp).mp h
  have k2 := (Rat.divInt_nonneg_iff_of_pos_right hp).mp ht
  exact ⟨a - b, e, by omega⟩
theorem m_re_bd {ln cn : Int32} {se isI we br ma sf : Nat → Int32} (h : m_ok ln cn isI we br ma sf) : bd (m_re ln cn se isI we ma sf) (m_D cn isI we) 1000000 ∧ 0 ≤ m_re ln cn se isI we ma sf := by
  have hD := m_D_bd h
  have h1 := m_ent_bd (se := se) h
  have h2 := m_crN_bd (se := se) h 6 (Nat.le_refl _)
  unfold m_re
  split
  · rename_i hz
    have hz2 := Rat.num_nonneg.mp hz
    exact ⟨bd_le hD.1 h1.1 h2.1 h2.2 hz2, hz2⟩
  · exact ⟨bd_di _ _ hD.1, by decide⟩
set_option maxHeartbeats 4000000 in
set_option maxRecDepth 100000 in
theorem c_X4_findRest (sz : Nat) (hok : m_ok ln cn isI we br ma sf) : Met l yX4_findRest (wT yX4_findRest cX4_findRest 2 none) ({ frames := 3, cells := 0, slots := 0, locals := 87 }) (pM (dC, dI) (ty3 cI cJ cZ) ((mQ cI cZ k r ln cn tm se isI we br ma sf pa) ++ (mS cJ k aU aL uU uL)) [.ref (k 0)] sz) (va_Qv (S := Unit) (fun _ => True) (fun u t9 => bM (dC, dI) (ty3 cI cJ cZ) (va_A ((mQ cI cZ k r ln cn tm se isI we br ma sf pa) ++ (mS cJ k aU aL uU uL)) sz) ((mQ cI cZ k (m_re ln cn se isI we ma sf) ln cn tm se isI we br ma sf pa) ++ (mS cJ k (vp_updL (vp_updL (vp_updL aU 0 (iL (m_ent ln cn se isI we).num)) 1 (iL (m_crN ln cn se isI we ma sf 6).num)) 2 (iL (m_re ln cn se isI we ma sf).num)) (vp_updL (vp_updL (vp_updL aL 0 (iL ((m_ent ln cn se isI we).den : Int))) 1 (iL ((m_crN ln cn se isI we ma sf 6).den : Int))) 2 (iL ((m_re ln cn se isI we ma sf).den : Int))) uU uL)) t9) (va_A ((mQ cI cZ k r ln cn tm se isI we br ma sf pa) ++ (mS cJ k aU aL uU uL)) sz)) 0 0 (va_A ((mQ cI cZ k r ln cn tm se isI we br ma sf pa) ++ (mS cJ k aU aL uU uL)) sz) := by
  refine Met.ofW (cc := cX4_findRest) (maxL := 2) (ret := none) (by decide) rfl ?_
  intro p e s m args below meth c s₁ B hml hv
  obtain ⟨rfl, hsz, hP, hK, hD0⟩ := hv
  have hx := B.exec
  have hb := B.bytes
  have hr := B.returns
  have hts := atoms_spec (ws := wT yX4_findRest cX4_findRest 2 none) B.pre
  have hT := wT_T hts
  have hown : s.vm.findClass RX4 = some m.cls := findClass_of_methodNamed B.named
  have hlocks := B.notSynchronized
  subst hsz
  have hD := hD0.self (sz := s.heap.size)
  generalize hAe : va_A ((mQ cI cZ k r ln cn tm se isI we br ma sf pa) ++ (mS cJ k aU aL uU uL)) s.heap.size = A at hD ⊢
  have hA : ∀ q : Nat, s.heap.size ≤ q → A q := fun q h => by rw [← hAe]; exact Or.inr h
  have hS : va_S A s.heap s.heap [] := va_S.rf
  have hl := lv_entry ([.ref (k 0)]) (n := 2) (Nat.le_of_ble_eq_true rfl)
  rw [lg_entry_eq]
  generalize (lg_sl ([.ref (k 0)]) ++ List.replicate (2 - (lg_sl ([.ref (k 0)])).length) Slot.unset).toArray = ls at hl ⊢
  have hl : lv_has ls 2 [(0, .ref (k 0))] := hl
  have hDb := m_D_bd hok
  have hE := m_ent_bd (se := se) hok
  have hEn := bd_nd hDb.1 hE.1
  refine lv_aload_n hx hb dX4_findRest_0 rfl (lv_at hl 0 rfl) ?_
  refine fM_v (wc := mQ cI cZ k r ln cn tm se isI we br ma sf pa) (wr := mS cJ k aU aL uU uL) (rMV (wc := mQ cI cZ k r ln cn tm se isI we br ma sf pa) (As := []) (rest := []) ⟨hx, hb, hml, hown, hT⟩ (c_X4_findEntitled (l := l) s.heap.size hok.2.1 ⟨hok.2.2.1.1, hok.2.2.1.2.2.1, hok.2.2.1.2.2.2⟩) (cwTV 0 hT kc_X4_findEntitled km_X4_119 ki_X4_findEntitled ks_X4_findEntitled kn_X4 rfl rfl md_X4_findEntitled ⟨Nat.le_of_ble_eq_true rfl, Nat.le_of_ble_eq_true rfl⟩) (va_P.sub (ws' := mQ cI cZ k r ln cn tm se isI we br ma sf pa) hP [0, 1, 2, 3, 4, 5, 6, 7] rfl) (va_D.sub (ws' := mQ cI cZ k r ln cn tm se isI we br ma sf pa) hD [0, 1, 2, 3, 4, 5, 6, 7] (by decide) rfl) hK (va_recv hK hP (ci := 4) (q0 := 0) rfl rfl) rfl hl.1 rfl (Nat.le_of_ble_eq_true rfl) dX4_findRest_1 ⟨Nat.le_of_ble_eq_true rfl, Nat.le_of_ble_eq_true rfl⟩) hP hD hS hA (fun u_1 H locs hw_1 hP hD hS => ?_)
  have hP : va_P (dC, dI) vwCl ((mQ cI cZ k (m_ent ln cn se isI we) ln cn tm se isI we br ma sf pa) ++ (mS cJ k aU aL uU uL)) H := hP
  have hD : va_D A ((mQ cI cZ k (m_ent ln cn se isI we) ln cn tm se isI we br ma sf pa) ++ (mS cJ k aU aL uU uL)) := hD
  refine lv_aload_n hx hb dX4_findRest_4 rfl (lv_at hl 0 rfl) ?_
  refine lv_iconst (v := 0) hx hb dX4_findRest_5 (by decide) ?_
  refine fM_v (wc := (mQ cI cZ k (m_ent ln cn se isI we) ln cn tm se isI we br ma sf pa) ++ (mS cJ k aU aL uU uL)) (wr := []) (rMV (wc := (mQ cI cZ k (m_ent ln cn se isI we) ln cn tm se isI we br ma sf pa) ++ (mS cJ k aU aL uU uL)) (As := [.int 0]) (rest := []) ⟨hx, hb, hml, hown, hT⟩ (c_X4_keeps (l := l) H.size 0 (by decide)) (cwTV 1 hT kc_X4_keeps km_X4_122 ki_X4_keeps ks_X4_keeps kn_X4 rfl rfl md_X4_keeps ⟨Nat.le_of_ble_eq_true rfl, Nat.le_of_ble_eq_true rfl⟩) hP hD hK (va_recv hK hP (ci := 4) (q0 := 0) rfl rfl) rfl hl.1 rfl (Nat.le_of_ble_eq_true rfl) dX4_findRest_6 ⟨Nat.le_of_ble_eq_true rfl, Nat.le_of_ble_eq_true rfl⟩) hP hD hS hA (fun u_6 H locs hw_6 hP hD hS => ?_)
  have hP : va_P (dC, dI) vwCl ((mQ cI cZ k (m_ent ln cn se isI we) ln cn tm se isI we br ma sf pa) ++ (mS cJ k (vp_updL aU 0 (iL ((m_ent ln cn se isI we)).num)) (vp_updL aL 0 (iL (((m_ent ln cn se isI we)).den : Int))) uU uL)) H := hP
  have hD : va_D A ((mQ cI cZ k (m_ent ln cn se isI we) ln cn tm se isI we br ma sf pa) ++ (mS cJ k (vp_updL aU 0 (iL ((m_ent ln cn se isI we)).num)) (vp_updL aL 0 (iL (((m_ent ln cn se isI we)).den : Int))) uU uL)) := hD
  refine lv_aload_n hx hb dX4_findRest_9 rfl (lv_at hl 0 rfl) ?_
  refine va_get (D := (dC, dI)) (ci := 4) (v := .ref (k 8)) (C := RX4) (T := TX4) (N := 22) hx hb hT hiX4 hown hK hP 0 rfl rfl 11 (by decide) (hT _ kf_X4_36) (fun _ h9 => h9) rfl dX4_findRest_10 ?_
  refine lv_iconst (v := 1) hx hb dX4_findRest_13 (by decide) ?_
  refine lv_lconst (v := iL 0) hx hb dX4_findRest_14 rfl ?_
  refine ast_l hx hb hK hP hD hS 8 1 rfl rfl (by decide) (w := 1) rfl (by decide) dX4_findRest_15 (fun H locs hP hD hS => ?_)
  have hP : va_P (dC, dI) vwCl ((mQ cI cZ k (m_ent ln cn se isI we) ln cn tm se isI we br ma sf pa) ++ (mS cJ k (vp_updL (vp_updL aU 0 (iL ((m_ent ln cn se isI we)).num)) 1 (iL 0)) (vp_updL aL 0 (iL (((m_ent ln cn se isI we)).den : Int))) uU uL)) H := hP
  have hD : va_D A ((mQ cI cZ k (m_ent ln cn se isI we) ln cn tm se isI we br ma sf pa) ++ (mS cJ k (vp_updL (vp_updL aU 0 (iL ((m_ent ln cn se isI we)).num)) 1 (iL 0)) (vp_updL aL 0 (iL (((m_ent ln cn se isI we)).den : Int))) uU uL)) := hD
  refine lv_aload_n hx hb dX4_findRest_16 rfl (lv_at hl 0 rfl) ?_
  refine va_get (D := (dC, dI)) (ci := 4) (v := .ref (k 9)) (C := RX4) (T := TX4) (N := 22) hx hb hT hiX4 hown hK hP 0 rfl rfl 12 (by decide) (hT _ kf_X4_40) (fun _ h9 => h9) rfl dX4_findRest_17 ?_
  refine lv_iconst (v := 1) hx hb dX4_findRest_20 (by decide) ?_
  refine lv_lconst (v := iL 1) hx hb dX4_findRest_21 rfl ?_
  refine ast_l hx hb hK hP hD hS 9 1 rfl rfl (by decide) (w := 1) rfl (by decide) dX4_findRest_22 (fun H locs hP hD hS => ?_)
  have hP : va_P (dC, dI) vwCl ((mQ cI cZ k (m_ent ln cn se isI we) ln cn tm se isI we br ma sf pa) ++ (mS cJ k (vp_updL (vp_updL aU 0 (iL ((m_ent ln cn se isI we)).num)) 1 (iL 0)) (vp_updL (vp_updL aL 0 (iL (((m_ent ln cn se isI we)).den : Int))) 1 (iL 1)) uU uL)) H := hP
  have hD : va_D A ((mQ cI cZ k (m_ent ln cn se isI we) ln cn tm se isI we br ma sf pa) ++ (mS cJ k (vp_updL (vp_updL aU 0 (iL ((m_ent ln cn se isI we)).num)) 1 (iL 0)) (vp_updL (vp_updL aL 0 (iL (((m_ent ln cn se isI we)).den : Int))) 1 (iL 1)) uU uL)) := hD
  refine lv_iconst (v := 0) hx hb dX4_findRest_23 (by decide) ?_
  refine lv_istore_n (lv' := [(1, .int 0), (0, .ref (k 0))]) hx hb dX4_findRest_24 rfl hl (by decide) rfl (fun ls hl => ?_)
  refine loopM (fun nn ls H locs => ∃ i : Nat, ∃ (r1 : Rat), i ≤ 6 ∧ nn = 6 - i ∧ True ∧ lv_has ls 2 [(1, .int (nI i)), (0, .ref (k 0))] ∧ va_P (dC, dI) vwCl ((mQ cI cZ k r1 ln cn tm se isI we br ma sf pa) ++ (mS cJ k (vp_updL (vp_updL aU 0 (iL (m_ent ln cn se isI we).num)) 1 (iL (m_crN ln cn se isI we ma sf i).num)) (vp_updL (vp_updL aL 0 (iL ((m_ent ln cn se isI we).den : Int))) 1 (iL ((m_crN ln cn se isI we ma sf i).den : Int))) uU uL)) H ∧ va_D A ((mQ cI cZ k r1 ln cn tm se isI we br ma sf pa) ++ (mS cJ k (vp_updL (vp_updL aU 0 (iL (m_ent ln cn se isI we).num)) 1 (iL (m_crN ln cn se isI we ma sf i).num)) (vp_updL (vp_updL aL 0 (iL ((m_ent ln cn se isI we).den : Int))) 1 (iL ((m_crN ln cn se isI we ma sf i).den : Int))) uU uL)) ∧ va_S A s.heap H locs) (n0 := 6) ⟨0, (m_ent ln cn se isI we), Nat.zero_le _, rfl, trivial, lv_sub hl [0, 1] rfl, hP, hD, hS⟩ (fun nn ls H locs hI ih => ?_)
  obtain ⟨i, r1, hle, hn9, hf, hl, hP, hD, hS⟩ := hI
  rcases Nat.lt_or_ge i 6 with hi | hge
  · refine lv_iload_n hx hb dX4_findRest_25 rfl (lv_at hl 0 rfl) ?_
    refine lv_bipush (v := 6) hx hb dX4_findRest_26 (by decide) ?_
    refine lv_icmp_ge (tgt := 80) hx hb dX4_findRest_28 (by decide) (fun h => absurd h (nI_ge (b := 6) hi (by decide))) (fun c_28 => ?_)
    refine lv_aload_n hx hb dX4_findRest_31 rfl (lv_at hl 1 rfl) ?_
    refine lv_iload_n hx hb dX4_findRest_32 rfl (lv_at hl 0 rfl) ?_
    refine vp_callSi (rRV (As := [.int (nI i)]) (rest := []) ⟨hx, hb, hml, hown, hT⟩ (c_X4_isUnit (l := l) i (by first | assumption | omega)) (cwTV 1 hT kc_X4_isUnit km_X4_113 ki_X4_isUnit ks_X4_isUnit kn_X4 rfl rfl md_X4_isUnit ⟨Nat.le_of_ble_eq_true rfl, Nat.le_of_ble_eq_true rfl⟩) (va_P.sub (ws' := mW cI cZ k (iL (r1).num) (iL ((r1).den : Int)) ln cn tm se isI we br ma sf pa) hP [0, 1, 2, 3, 4, 5, 6, 7] rfl) hK (va_recv hK hP (ci := 4) (q0 := 0) rfl rfl) rfl hl.1 rfl (Nat.le_of_ble_eq_true rfl) dX4_findRest_33 ⟨Nat.le_of_ble_eq_true rfl, Nat.le_of_ble_eq_true rfl⟩) (fun r_33 hw_33 => ?_)
    rcases hw_33 with ⟨rfl, hw_33⟩ | ⟨rfl, hw_33⟩
    · refine lv_if_eq (tgt := 74) hx hb dX4_findRest_36 (by decide) (fun h => absurd h (by decide)) (fun c_36 => ?_)
      refine lv_aload_n hx hb dX4_findRest_39 rfl (lv_at hl 1 rfl) ?_
      refine lv_iload_n hx hb dX4_findRest_40 rfl (lv_at hl 0 rfl) ?_
      refine fM_v (wc := mQ cI cZ k r1 ln cn tm se isI we br ma sf pa) (wr := mS cJ k (vp_updL (vp_updL aU 0 (iL (m_ent ln cn se isI we).num)) 1 (iL (m_crN ln cn se isI we ma sf i).num)) (vp_updL (vp_updL aL 0 (iL ((m_ent ln cn se isI we).den : Int))) 1 (iL ((m_crN ln cn se isI we ma sf i).den : Int))) uU uL) (rMV (wc := mQ cI cZ k r1 ln cn tm se isI we br ma sf pa) (As := [.int (nI i)]) (rest := []) ⟨hx, hb, hml, hown, hT⟩ (c_X4_findCredit (l := l) H.size i (by first | assumption | omega) hok) (cwTV 1 hT kc_X4_findCredit km_X4_125 ki_X4_findCredit ks_X4_findCredit kn_X4 rfl rfl md_X4_findCredit ⟨Nat.le_of_ble_eq_true rfl, Nat.le_of_ble_eq_true rfl⟩) (va_P.sub (ws' := mQ cI cZ k r1 ln cn tm se isI we br ma sf pa) hP [0, 1, 2, 3, 4, 5, 6, 7] rfl) (va_D.sub (ws' := mQ cI cZ k r1 ln cn tm se isI we br ma sf pa) hD [0, 1, 2, 3, 4, 5, 6, 7] (by decide) rfl) hK (va_recv hK hP (ci := 4) (q0 := 0) rfl rfl) rfl hl.1 rfl (Nat.le_of_ble_eq_true rfl) dX4_findRest_41 ⟨Nat.le_of_ble_eq_true rfl, Nat.le_of_ble_eq_true rfl⟩) hP hD hS hA (fun u_41 H locs hw_41 hP hD hS => ?_)
      have hP : va_P (dC, dI) vwCl ((mQ cI cZ k u_41 ln cn tm se isI we br ma sf pa) ++ (mS cJ k (vp_updL (vp_updL aU 0 (iL (m_ent ln cn se isI we).num)) 1 (iL (m_crN ln cn se isI we ma sf i).num)) (vp_updL (vp_updL aL 0 (iL ((m_ent ln cn se isI we).den : Int))) 1 (iL ((m_crN ln cn se isI we ma sf i).den : Int))) uU uL)) H := hP
      have hD : va_D A ((mQ cI cZ k u_41 ln cn tm se isI we br ma sf pa) ++ (mS cJ k (vp_updL (vp_updL aU 0 (iL (m_ent ln cn se isI we).num)) 1 (iL (m_crN ln cn se isI we ma sf i).num)) (vp_updL (vp_updL aL 0 (iL ((m_ent ln cn se isI we).den : Int))) 1 (iL ((m_crN ln cn se isI we ma sf i).den : Int))) uU uL)) := hD
      subst hw_41
      have hP : va_P (dC, dI) vwCl ((mQ cI cZ k (m_cr ln cn se isI we ma sf i) ln cn tm se isI we br ma sf pa) ++ (mS cJ k (vp_updL (vp_updL aU 0 (iL (m_ent ln cn se isI we).num)) 1 (iL (m_crN ln cn se isI we ma sf i).num)) (vp_updL (vp_updL aL 0 (iL ((m_ent ln cn se isI we).den : Int))) 1 (iL ((m_crN ln cn se isI we ma sf i).den : Int))) uU uL)) H := hP
      have hD : va_D A ((mQ cI cZ k (m_cr ln cn se isI we ma sf i) ln cn tm se isI we br ma sf pa) ++ (mS cJ k (vp_updL (vp_updL aU 0 (iL (m_ent ln cn se isI we).num)) 1 (iL (m_crN ln cn se isI we ma sf i).num)) (vp_updL (vp_updL aL 0 (iL ((m_ent ln cn se isI we).den : Int))) 1 (iL ((m_crN ln cn se isI we ma sf i).den : Int))) uU uL)) := hD
      refine lv_aload_n hx hb dX4_findRest_44 rfl (lv_at hl 1 rfl) ?_
      refine lv_aload_n hx hb dX4_findRest_45 rfl (lv_at hl 1 rfl) ?_
      refine va_get (D := (dC, dI)) (ci := 4) (v := .ref (k 8)) (C := RX4) (T := TX4) (N := 22) hx hb hT hiX4 hown hK hP 0 rfl rfl 11 (by decide) (hT _ kf_X4_36) (fun _ h9 => h9) rfl dX4_findRest_46 ?_
      refine lv_iconst (v := 1) hx hb dX4_findRest_49 (by decide) ?_
      refine ald_l hx hb hK hP 8 1 rfl rfl (by decide) (w := 1) rfl (by decide) dX4_findRest_50 ?_
      refine topl_eq (y := (iL (m_crN ln cn se isI we ma sf i).num)) rfl ?_
      refine lv_aload_n hx hb dX4_findRest_51 rfl (lv_at hl 1 rfl) ?_
      refine va_get (D := (dC, dI)) (ci := 4) (v := .ref (k 9)) (C := RX4) (T := TX4) (N := 22) hx hb hT hiX4 hown hK hP 0 rfl rfl 12 (by decide) (hT _ kf_X4_40) (fun _ h9 => h9) rfl dX4_findRest_52 ?_
      refine lv_iconst (v := 1) hx hb dX4_findRest_55 (by decide) ?_
      refine ald_l hx hb hK hP 9 1 rfl rfl (by decide) (w := 1) rfl (by decide) dX4_findRest_56 ?_
      refine topl_eq (y := (iL ((m_crN ln cn se isI we ma sf i).den : Int))) rfl ?_
      refine lv_aload_n hx hb dX4_findRest_57 rfl (lv_at hl 1 rfl) ?_
      refine va_get (D := (dC, dI)) (ci := 4) (v := .long (iL ((m_cr ln cn se isI we ma sf i)).num)) (C := RX4) (T := TX4) (N := 22) hx hb hT hiX4 hown hK hP 0 rfl rfl 0 (by decide) (hT _ kf_X4_75) (fun _ h9 => h9) rfl dX4_findRest_58 ?_
      refine lv_aload_n hx hb dX4_findRest_61 rfl (lv_at hl 1 rfl) ?_
      refine va_get (D := (dC, dI)) (ci := 4) (v := .long (iL (((m_cr ln cn se isI we ma sf i)).den : Int))) (C := RX4) (T := TX4) (N := 22) hx hb hT hiX4 hown hK hP 0 rfl rfl 1 (by decide) (hT _ kf_X4_7) (fun _ h9 => h9) rfl dX4_findRest_62 ?_
      refine lv_lconst (v := iL 1) hx hb dX4_findRest_65 rfl ?_
      have hC := m_crN_bd (se := se) hok i (by omega)
      have hCn := bd_nd hDb.1 hC.1
      have hc := m_cr_bd (se := se) hok hi
      have hcn := bd_nd hDb.1 hc.1
      refine fM_v (wc := mQ cI cZ k (m_cr ln cn se isI we ma sf i) ln cn tm se isI we br ma sf pa) (wr := mS cJ k (vp_updL (vp_updL aU 0 (iL (m_ent ln cn se isI we).num)) 1 (iL (m_crN ln cn se isI we ma sf i).num)) (vp_updL (vp_updL aL 0 (iL ((m_ent ln cn se isI we).den : Int))) 1 (iL ((m_crN ln cn se isI we ma sf i).den : Int))) uU uL) (rMV (wc := mQ cI cZ k (m_cr ln cn se isI we ma sf i) ln cn tm se isI we br ma sf pa) (As := [.long (iL (m_crN ln cn se isI we ma sf i).num), .long (iL ((m_crN ln cn se isI we ma sf i).den : Int)), .long (iL ((m_cr ln cn se isI we ma sf i)).num), .long (iL (((m_cr ln cn se isI we ma sf i)).den : Int)), .long (iL 1)]) (rest := []) ⟨hx, hb, hml, hown, hT⟩ (c_X4_adds (l := l) H.size ((m_crN ln cn se isI we ma sf i).num) ((m_crN ln cn se isI we ma sf i).den) (((m_cr ln cn se isI we ma sf i)).num) (((m_cr ln cn se isI we ma sf i)).den) 1 (m_D cn isI we) (i * 200000000) 200000000 (Rat.den_pos _) (Rat.den_pos _) hDb.1 hCn.1 hcn.1 hCn.2 hcn.2 (by have := Nat.mul_le_mul (show i * 200000000 + 200000000 ≤ 1200000000 by omega) hDb.2; omega) (by omega) (Or.inl rfl)) (cwTV 5 hT kc_X4_adds km_X4_128 ki_X4_adds ks_X4_adds kn_X4 rfl rfl md_X4_adds ⟨Nat.le_of_ble_eq_true rfl, Nat.le_of_ble_eq_true rfl⟩) (va_P.sub (ws' := mQ cI cZ k (m_cr ln cn se isI we ma sf i) ln cn tm se isI we br ma sf pa) hP [0, 1, 2, 3, 4, 5, 6, 7] rfl) (va_D.sub (ws' := mQ cI cZ k (m_cr ln cn se isI we ma sf i) ln cn tm se isI we br ma sf pa) hD [0, 1, 2, 3, 4, 5, 6, 7] (by decide) rfl) hK (va_recv hK hP (ci := 4) (q0 := 0) rfl rfl) rfl hl.1 rfl (Nat.le_of_ble_eq_true rfl) dX4_findRest_66 ⟨Nat.le_of_ble_eq_true rfl, Nat.le_of_ble_eq_true rfl⟩) hP hD hS hA (fun u_66 H locs hw_66 hP hD hS => ?_)
      have hP : va_P (dC, dI) vwCl ((mQ cI cZ k (adQ ((m_crN ln cn se isI we ma sf i).num) ((m_crN ln cn se isI we ma sf i).den) (((m_cr ln cn se isI we ma sf i)).num) (((m_cr ln cn se isI we ma sf i)).den) 1) ln cn tm se isI we br ma sf pa) ++ (mS cJ k (vp_updL (vp_updL aU 0 (iL (m_ent ln cn se isI we).num)) 1 (iL (m_crN ln cn se isI we ma sf i).num)) (vp_updL (vp_updL aL 0 (iL ((m_ent ln cn se isI we).den : Int))) 1 (iL ((m_crN ln cn se isI we ma sf i).den : Int))) uU uL)) H := hP
      have hD : va_D A ((mQ cI cZ k (adQ ((m_crN ln cn se isI we ma sf i).num) ((m_crN ln cn se isI we ma sf i).den) (((m_cr ln cn se isI we ma sf i)).num) (((m_cr ln cn se isI we ma sf i)).den) 1) ln cn tm se isI we br ma sf pa) ++ (mS cJ k (vp_updL (vp_updL aU 0 (iL (m_ent ln cn se isI we).num)) 1 (iL (m_crN ln cn se isI we ma sf i).num)) (vp_updL (vp_updL aL 0 (iL ((m_ent ln cn se isI we).den : Int))) 1 (iL ((m_crN ln cn se isI we ma sf i).den : Int))) uU uL)) := hD
      rw [show (adQ ((m_crN ln cn se isI we ma sf i).num) ((m_crN ln cn se isI we ma sf i).den) (((m_cr ln cn se isI we ma sf i)).num) (((m_cr ln cn se isI we ma sf i)).den) 1) = (m_crN ln cn se isI we ma sf (i + 1)) from (by rw [adQ_1, m_crN_p hw_33])] at hP hD
      have hP : va_P (dC, dI) vwCl ((mQ cI cZ k (m_crN ln cn se isI we ma sf (i + 1)) ln cn tm se isI we br ma sf pa) ++ (mS cJ k (vp_updL (vp_updL aU 0 (iL (m_ent ln cn se isI we).num)) 1 (iL (m_crN ln cn se isI we ma sf i).num)) (vp_updL (vp_updL aL 0 (iL ((m_ent ln cn se isI we).den : Int))) 1 (iL ((m_crN ln cn se isI we ma sf i).den : Int))) uU uL)) H := hP
      have hD : va_D A ((mQ cI cZ k (m_crN ln cn se isI we ma sf (i + 1)) ln cn tm se isI we br ma sf pa) ++ (mS cJ k (vp_updL (vp_updL aU 0 (iL (m_ent ln cn se isI we).num)) 1 (iL (m_crN ln cn se isI we ma sf i).num)) (vp_updL (vp_updL aL 0 (iL ((m_ent ln cn se isI we).den : Int))) 1 (iL ((m_crN ln cn se isI we ma sf i).den : Int))) uU uL)) := hD
      refine lv_aload_n hx hb dX4_findRest_69 rfl (lv_at hl 1 rfl) ?_
      refine lv_iconst (v := 1) hx hb dX4_findRest_70 (by decide) ?_
      refine fM_v (wc := (mQ cI cZ k (m_crN ln cn se isI we ma sf (i + 1)) ln cn tm se isI we br ma sf pa) ++ (mS cJ k (vp_updL (vp_updL aU 0 (iL (m_ent ln cn se isI we).num)) 1 (iL (m_crN ln cn se isI we ma sf i).num)) (vp_updL (vp_updL aL 0 (iL ((m_ent ln cn se isI we).den : Int))) 1 (iL ((m_crN ln cn se isI we ma sf i).den : Int))) uU uL)) (wr := []) (rMV (wc := (mQ cI cZ k (m_crN ln cn se isI we ma sf (i + 1)) ln cn tm se isI we br ma sf pa) ++ (mS cJ k (vp_updL (vp_updL aU 0 (iL (m_ent ln cn se isI we).num)) 1 (iL (m_crN ln cn se isI we ma sf i).num)) (vp_updL (vp_updL aL 0 (iL ((m_ent ln cn se isI we).den : Int))) 1 (iL ((m_crN ln cn se isI we ma sf i).den : Int))) uU uL)) (As := [.int 1]) (rest := []) ⟨hx, hb, hml, hown, hT⟩ (c_X4_keeps (l := l) H.size 1 (by decide)) (cwTV 1 hT kc_X4_keeps km_X4_122 ki_X4_keeps ks_X4_keeps kn_X4 rfl rfl md_X4_keeps ⟨Nat.le_of_ble_eq_true rfl, Nat.le_of_ble_eq_true rfl⟩) hP hD hK (va_recv hK hP (ci := 4) (q0 := 0) rfl rfl) rfl hl.1 rfl (Nat.le_of_ble_eq_true rfl) dX4_findRest_71 ⟨Nat.le_of_ble_eq_true rfl, Nat.le_of_ble_eq_true rfl⟩) hP hD hS hA (fun u_71 H locs hw_71 hP hD hS => ?_)
      have hP : va_P (dC, dI) vwCl ((mQ cI cZ k (m_crN ln cn se isI we ma sf (i + 1)) ln cn tm se isI we br ma sf pa) ++ (mS cJ k (vp_updL (vp_updL (vp_updL aU 0 (iL (m_ent ln cn se isI we).num)) 1 (iL (m_crN ln cn se isI we ma sf i).num)) 1 (iL ((m_crN ln cn se isI we ma sf (i + 1))).num)) (vp_updL (vp_updL (vp_updL aL 0 (iL ((m_ent ln cn se isI we).den : Int))) 1 (iL ((m_crN ln cn se isI we ma sf i).den : Int))) 1 (iL (((m_crN ln cn se isI we ma sf (i + 1))).den : Int))) uU uL)) H := hP
      have hD : va_D A ((mQ cI cZ k (m_crN ln cn se isI we ma sf (i + 1)) ln cn tm se isI we br ma sf pa) ++ (mS cJ k (vp_updL (vp_updL (vp_updL aU 0 (iL (m_ent ln cn se isI we).num)) 1 (iL (m_crN ln cn se isI we ma sf i).num)) 1 (iL ((m_crN ln cn se isI we ma sf (i + 1))).num)) (vp_updL (vp_updL (vp_updL aL 0 (iL ((m_ent ln cn se isI we).den : Int))) 1 (iL ((m_crN ln cn se isI we ma sf i).den : Int))) 1 (iL (((m_crN ln cn se isI we ma sf (i + 1))).den : Int))) uU uL)) := hD
      refine lv_iinc (v := (nI (i + 1))) (lv' := [(1, .int (nI (i + 1))), (0, .ref (k 0))]) hx hb dX4_findRest_74 hl (k := 0) rfl (nI_1 i) (by decide) rfl (fun ls hl => ?_)
      refine lv_goto (tgt := 25) hx hb dX4_findRest_77 (by decide) ?_
      have ew0 : vp_updL (vp_updL (vp_updL aU 0 (iL (m_ent ln cn se isI we).num)) 1 (iL (m_crN ln cn se isI we ma sf i).num)) 1 (iL ((m_crN ln cn se isI we ma sf (i + 1))).num) = (vp_updL (vp_updL aU 0 (iL (m_ent ln cn se isI we).num)) 1 (iL (m_crN ln cn se isI we ma sf (i + 1)).num)) := (by first | rw [updL_uu] | rw [m_crN_n hw_33])
      rw [ew0] at hP hD
      have ew1 : vp_updL (vp_updL (vp_updL aL 0 (iL ((m_ent ln cn se isI we).den : Int))) 1 (iL ((m_crN ln cn se isI we ma sf i).den : Int))) 1 (iL (((m_crN ln cn se isI we ma sf (i + 1))).den : Int)) = (vp_updL (vp_updL aL 0 (iL ((m_ent ln cn se isI we).den : Int))) 1 (iL ((m_crN ln cn se isI we ma sf (i + 1)).den : Int))) := (by first | rw [updL_uu] | rw [m_crN_n hw_33])
      rw [ew1] at hP hD
      refine ih (6 - (i + 1)) ls H locs (by omega) ⟨(i + 1), (m_crN ln cn se isI we ma sf (i + 1)), by omega, rfl, trivial, ?_, hP, hD, hS⟩
      exact lv_sub hl [0, 1] rfl
    · refine lv_if_eq (tgt := 74) hx hb dX4_findRest_36 (by decide) (fun c_36 => ?_) (fun h => absurd h (by decide))
      refine lv_iinc (v := (nI (i + 1))) (lv' := [(1, .int (nI (i + 1))), (0, .ref (k 0))]) hx hb dX4_findRest_74 hl (k := 0) rfl (nI_1 i) (by decide) rfl (fun ls hl => ?_)
      refine lv_goto (tgt := 25) hx hb dX4_findRest_77 (by decide) ?_
      have ew0 : vp_updL (vp_updL aU 0 (iL (m_ent ln cn se isI we).num)) 1 (iL (m_crN ln cn se isI we ma sf i).num) = (vp_updL (vp_updL aU 0 (iL (m_ent ln cn se isI we).num)) 1 (iL (m_crN ln cn se isI we ma sf (i + 1)).num)) := (by first | rw [updL_uu] | rw [m_crN_n hw_33])
      rw [ew0] at hP hD
      have ew1 : vp_updL (vp_updL aL 0 (iL ((m_ent ln cn se isI we).den : Int))) 1 (iL ((m_crN ln cn se isI we ma sf i).den : Int)) = (vp_updL (vp_updL aL 0 (iL ((m_ent ln cn se isI we).den : Int))) 1 (iL ((m_crN ln cn se isI we ma sf (i + 1)).den : Int))) := (by first | rw [updL_uu] | rw [m_crN_n hw_33])
      rw [ew1] at hP hD
      refine ih (6 - (i + 1)) ls H locs (by omega) ⟨(i + 1), r1, by omega, rfl, trivial, ?_, hP, hD, hS⟩
      exact lv_sub hl [0, 1] rfl
  · have hE : i = 6 := by omega
    subst hE
    refine lv_iload_n hx hb dX4_findRest_25 rfl (lv_at hl 0 rfl) ?_
    refine lv_bipush (v := 6) hx hb dX4_findRest_26 (by decide) ?_
    refine lv_icmp_ge (tgt := 80) hx hb dX4_findRest_28 (by decide) (fun c_28 => ?_) (fun h => absurd h (by decide))
    refine lv_aload_n hx hb dX4_findRest_80 rfl (lv_at hl 1 rfl) ?_
    refine lv_aload_n hx hb dX4_findRest_81 rfl (lv_at hl 1 rfl) ?_
    refine va_get (D := (dC, dI)) (ci := 4) (v := .ref (k 8)) (C := RX4) (T := TX4) (N := 22) hx hb hT hiX4 hown hK hP 0 rfl rfl 11 (by decide) (hT _ kf_X4_36) (fun _ h9 => h9) rfl dX4_findRest_82 ?_
    refine lv_iconst (v := 0) hx hb dX4_findRest_85 (by decide) ?_
    refine ald_l hx hb hK hP 8 1 rfl rfl (by decide) (w := 0) rfl (by decide) dX4_findRest_86 ?_
    refine topl_eq (y := (iL (m_ent ln cn se isI we).num)) rfl ?_
    refine lv_aload_n hx hb dX4_findRest_87 rfl (lv_at hl 1 rfl) ?_
    refine va_get (D := (dC, dI)) (ci := 4) (v := .ref (k 9)) (C := RX4) (T := TX4) (N := 22) hx hb hT hiX4 hown hK hP 0 rfl rfl 12 (by decide) (hT _ kf_X4_40) (fun _ h9 => h9) rfl dX4_findRest_88 ?_
    refine lv_iconst (v := 0) hx hb dX4_findRest_91 (by decide) ?_
    refine ald_l hx hb hK hP 9 1 rfl rfl (by decide) (w := 0) rfl (by decide) dX4_findRest_92 ?_
    refine topl_eq (y := (iL ((m_ent ln cn se isI we).den : Int))) rfl ?_
    refine lv_aload_n hx hb dX4_findRest_93 rfl (lv_at hl 1 rfl) ?_
    refine va_get (D := (dC, dI)) (ci := 4) (v := .ref (k 8)) (C := RX4) (T := TX4) (N := 22) hx hb hT hiX4 hown hK hP 0 rfl rfl 11 (by decide) (hT _ kf_X4_36) (fun _ h9 => h9) rfl dX4_findRest_94 ?_
    refine lv_iconst (v := 1) hx hb dX4_findRest_97 (by decide) ?_
    refine ald_l hx hb hK hP 8 1 rfl rfl (by decide) (w := 1) rfl (by decide) dX4_findRest_98 ?_
    refine topl_eq (y := (iL (m_crN ln cn se isI we ma sf 6).num)) rfl ?_
    refine lv_aload_n hx hb dX4_findRest_99 rfl (lv_at hl 1 rfl) ?_
    refine va_get (D := (dC, dI)) (ci := 4) (v := .ref (k 9)) (C := RX4) (T := TX4) (N := 22) hx hb hT hiX4 hown hK hP 0 rfl rfl 12 (by decide) (hT _ kf_X4_40) (fun _ h9 => h9) rfl dX4_findRest_100 ?_
    refine lv_iconst (v := 1) hx hb dX4_findRest_103 (by decide) ?_
    refine ald_l hx hb hK hP 9 1 rfl rfl (by decide) (w := 1) rfl (by decide) dX4_findRest_104 ?_
    refine topl_eq (y := (iL ((m_crN ln cn se isI we ma sf 6).den : Int))) rfl ?_
    refine lv_ldc2 hx hb hown (hT _ kj_X4_132) dX4_findRest_105 ?_
    refine topl_eq (y := (iL (-1))) rfl ?_
    have hC := m_crN_bd (se := se) hok 6 (Nat.le_refl _)
    have hCn := bd_nd hDb.1 hC.1
    refine fM_v (wc := mQ cI cZ k r1 ln cn tm se isI we br ma sf pa) (wr := mS cJ k (vp_updL (vp_updL aU 0 (iL (m_ent ln cn se isI we).num)) 1 (iL (m_crN ln cn se isI we ma sf 6).num)) (vp_updL (vp_updL aL 0 (iL ((m_ent ln cn se isI we).den : Int))) 1 (iL ((m_crN ln cn se isI we ma sf 6).den : Int))) uU uL) (rMV (wc := mQ cI cZ k r1 ln cn tm se isI we br ma sf pa) (As := [.long (iL (m_ent ln cn se isI we).num), .long (iL ((m_ent ln cn se isI we).den : Int)), .long (iL (m_crN ln cn se isI we ma sf 6).num), .long (iL ((m_crN ln cn se isI we ma sf 6).den : Int)), .long (iL (-1))]) (rest := []) ⟨hx, hb, hml, hown, hT⟩ (c_X4_adds (l := l) H.size ((m_ent ln cn se isI we).num) ((m_ent ln cn se isI we).den) ((m_crN ln cn se isI we ma sf 6).num) ((m_crN ln cn se isI we ma sf 6).den) (-1) (m_D cn isI we) 1000000 (6 * 200000000) (Rat.den_pos _) (Rat.den_pos _) hDb.1 hEn.1 hCn.1 hEn.2 hCn.2 (by omega) (by omega) (Or.inr rfl)) (cwTV 5 hT kc_X4_adds km_X4_128 ki_X4_adds ks_X4_adds kn_X4 rfl rfl md_X4_adds ⟨Nat.le_of_ble_eq_true rfl, Nat.le_of_ble_eq_true rfl⟩) (va_P.sub (ws' := mQ cI cZ k r1 ln cn tm se isI we br ma sf pa) hP [0, 1, 2, 3, 4, 5, 6, 7] rfl) (va_D.sub (ws' := mQ cI cZ k r1 ln cn tm se isI we br ma sf pa) hD [0, 1, 2, 3, 4, 5, 6, 7] (by decide) rfl) hK (va_recv hK hP (ci := 4) (q0 := 0) rfl rfl) rfl hl.1 rfl (Nat.le_of_ble_eq_true rfl) dX4_findRest_108 ⟨Nat.le_of_ble_eq_true rfl, Nat.le_of_ble_eq_true rfl⟩) hP hD hS hA (fun u_108 H locs hw_108 hP hD hS => ?_)
    have hP : va_P (dC, dI) vwCl ((mQ cI cZ k (adQ ((m_ent ln cn se isI we).num) ((m_ent ln cn se isI we).den) ((m_crN ln cn se isI we ma sf 6).num) ((m_crN ln cn se isI we ma sf 6).den) (-1)) ln cn tm se isI we br ma sf pa) ++ (mS cJ k (vp_updL (vp_updL aU 0 (iL (m_ent ln cn se isI we).num)) 1 (iL (m_crN ln cn se isI we ma sf 6).num)) (vp_updL (vp_updL aL 0 (iL ((m_ent ln cn se isI we).den : Int))) 1 (iL ((m_crN ln cn se isI we ma sf 6).den : Int))) uU uL)) H := hP
    have hD : va_D A ((mQ cI cZ k (adQ ((m_ent ln cn se isI we).num) ((m_ent ln cn se isI we).den) ((m_crN ln cn se isI we ma sf 6).num) ((m_crN ln cn se isI we ma sf 6).den) (-1)) ln cn tm se isI we br ma sf pa) ++ (mS cJ k (vp_updL (vp_updL aU 0 (iL (m_ent ln cn se isI we).num)) 1 (iL (m_crN ln cn se isI we ma sf 6).num)) (vp_updL (vp_updL aL 0 (iL ((m_ent ln cn se isI we).den : Int))) 1 (iL ((m_crN ln cn se isI we ma sf 6).den : Int))) uU uL)) := hD
    rw [show (adQ ((m_ent ln cn se isI we).num) ((m_ent ln cn se isI we).den) ((m_crN ln cn se isI we ma sf 6).num) ((m_crN ln cn se isI we ma sf 6).den) (-1)) = ((m_ent ln cn se isI we) - (m_crN ln cn se isI we ma sf 6)) from (adQ_m1 _ _)] at hP hD
    have hP : va_P (dC, dI) vwCl ((mQ cI cZ k ((m_ent ln cn se isI we) - (m_crN ln cn se isI we ma sf 6)) ln cn tm se isI we br ma sf pa) ++ (mS cJ k (vp_updL (vp_updL aU 0 (iL (m_ent ln cn se isI we).num)) 1 (iL (m_crN ln cn se isI we ma sf 6).num)) (vp_updL (vp_updL aL 0 (iL ((m_ent ln cn se isI we).den : Int))) 1 (iL ((m_crN ln cn se isI we ma sf 6).den : Int))) uU uL)) H := hP
    have hD : va_D A ((mQ cI cZ k ((m_ent ln cn se isI we) - (m_crN ln cn se isI we ma sf 6)) ln cn tm se isI we br ma sf pa) ++ (mS cJ k (vp_updL (vp_updL aU 0 (iL (m_ent ln cn se isI we).num)) 1 (iL (m_crN ln cn se isI we ma sf 6).num)) (vp_updL (vp_updL aL 0 (iL ((m_ent ln cn se isI we).den : Int))) 1 (iL ((m_crN ln cn se isI we ma sf 6).den : Int))) uU uL)) := hD
    have hdb := bd_sub hE.1 hC.1
    have hdn := bd_num_le hDb.1 hdb
    have hdd := bd_den_le hDb.1 hdb
    have hdr : rng ((m_ent ln cn se isI we) - (m_crN ln cn se isI we ma sf 6)).num := by unfold rng; omega
    have hde : rng (((m_ent ln cn se isI we) - (m_crN ln cn se isI we ma sf 6)).den : Int) := by unfold rng; omega
    have hdp := ((m_ent ln cn se isI we) - (m_crN ln cn se isI we ma sf 6)).den_pos
    refine lv_aload_n hx hb dX4_findRest_111 rfl (lv_at hl 1 rfl) ?_
    refine lv_aload_n hx hb dX4_findRest_112 rfl (lv_at hl 1 rfl) ?_
    refine va_get (D := (dC, dI)) (ci := 4) (v := .long (iL (((m_ent ln cn se isI we) - (m_crN ln cn se isI we ma sf 6))).num)) (C := RX4) (T := TX4) (N := 22) hx hb hT hiX4 hown hK hP 0 rfl rfl 0 (by decide) (hT _ kf_X4_75) (fun _ h9 => h9) rfl dX4_findRest_113 ?_
    refine lv_lconst (v := iL 0) hx hb dX4_findRest_116 rfl ?_
    refine lc_ge (tgt := 125) hx hb dX4_findRest_117 dX4_findRest_118 (by decide) (fun c_117 => ?_) (fun c_117 => ?_)
    · have hz : 0 ≤ ((m_ent ln cn se isI we) - (m_crN ln cn se isI we ma sf 6)).num := (iL_le rng_0 hdr).mp c_117
      refine lv_aload_n hx hb dX4_findRest_125 rfl (lv_at hl 1 rfl) ?_
      refine va_get (D := (dC, dI)) (ci := 4) (v := .long (iL (((m_ent ln cn se isI we) - (m_crN ln cn se isI we ma sf 6))).num)) (C := RX4) (T := TX4) (N := 22) hx hb hT hiX4 hown hK hP 0 rfl rfl 0 (by decide) (hT _ kf_X4_75) (fun _ h9 => h9) rfl dX4_findRest_126 ?_
      refine lv_aload_n hx hb dX4_findRest_129 rfl (lv_at hl 1 rfl) ?_
      refine va_get (D := (dC, dI)) (ci := 4) (v := .long (iL (((m_ent ln cn se isI we) - (m_crN ln cn se isI we ma sf 6))).num)) (C := RX4) (T := TX4) (N := 22) hx hb hT hiX4 hown hK hP 0 rfl rfl 0 (by decide) (hT _ kf_X4_75) (fun _ h9 => h9) rfl dX4_findRest_130 ?_
      refine lv_lconst (v := iL 0) hx hb dX4_findRest_133 rfl ?_
      refine lc_ge (tgt := 142) hx hb dX4_findRest_134 dX4_findRest_135 (by decide) (fun c_134 => ?_) (fun c_134 => ?_)
      · refine lv_aload_n hx hb dX4_findRest_142 rfl (lv_at hl 1 rfl) ?_
        refine va_get (D := (dC, dI)) (ci := 4) (v := .long (iL ((((m_ent ln cn se isI we) - (m_crN ln cn se isI we ma sf 6))).den : Int))) (C := RX4) (T := TX4) (N := 22) hx hb hT hiX4 hown hK hP 0 rfl rfl 1 (by decide) (hT _ kf_X4_7) (fun _ h9 => h9) rfl dX4_findRest_143 ?_
        refine fM_v (wc := mQ cI cZ k ((m_ent ln cn se isI we) - (m_crN ln cn se isI we ma sf 6)) ln cn tm se isI we br ma sf pa) (wr := mS cJ k (vp_updL (vp_updL aU 0 (iL (m_ent ln cn se isI we).num)) 1 (iL (m_crN ln cn se isI we ma sf 6).num)) (vp_updL (vp_updL aL 0 (iL ((m_ent ln cn se isI we).den : Int))) 1 (iL ((m_crN ln cn se isI we ma sf 6).den : Int))) uU uL) (rMV (wc := mQ cI cZ k ((m_ent ln cn se isI we) - (m_crN ln cn se isI we ma sf 6)) ln cn tm se isI we br ma sf pa) (As := [.long (iL (((m_ent ln cn se isI we) - (m_crN ln cn se isI we ma sf 6))).num), .long (iL ((((m_ent ln cn se isI we) - (m_crN ln cn se isI we ma sf 6))).den : Int))]) (rest := []) ⟨hx, hb, hml, hown, hT⟩ (c_X4_makes (l := l) H.size ((((m_ent ln cn se isI we) - (m_crN ln cn se isI we ma sf 6))).num) ((((m_ent ln cn se isI we) - (m_crN ln cn se isI we ma sf 6))).den : Int) (by first | exact rng_0 | exact hdr) (by first | decide | omega) (by first | exact rng_1 | exact hde)) (cwTV 2 hT kc_X4_makes km_X4_78 ki_X4_makes ks_X4_makes kn_X4 rfl rfl md_X4_makes ⟨Nat.le_of_ble_eq_true rfl, Nat.le_of_ble_eq_true rfl⟩) (va_P.sub (ws' := mQ cI cZ k ((m_ent ln cn se isI we) - (m_crN ln cn se isI we ma sf 6)) ln cn tm se isI we br ma sf pa) hP [0, 1, 2, 3, 4, 5, 6, 7] rfl) (va_D.sub (ws' := mQ cI cZ k ((m_ent ln cn se isI we) - (m_crN ln cn se isI we ma sf 6)) ln cn tm se isI we br ma sf pa) hD [0, 1, 2, 3, 4, 5, 6, 7] (by decide) rfl) hK (va_recv hK hP (ci := 4) (q0 := 0) rfl rfl) rfl hl.1 rfl (Nat.le_of_ble_eq_true rfl) dX4_findRest_146 ⟨Nat.le_of_ble_eq_true rfl, Nat.le_of_ble_eq_true rfl⟩) hP hD hS hA (fun u_146 H locs hw_146 hP hD hS => ?_)
        have hP : va_P (dC, dI) vwCl ((mQ cI cZ k (Rat.divInt ((((m_ent ln cn se isI we) - (m_crN ln cn se isI we ma sf 6))).num) ((((m_ent ln cn se isI we) - (m_crN ln cn se isI we ma sf 6))).den : Int)) ln cn tm se isI we br ma sf pa) ++ (mS cJ k (vp_updL (vp_updL aU 0 (iL (m_ent ln cn se isI we).num)) 1 (iL (m_crN ln cn se isI we ma sf 6).num)) (vp_updL (vp_updL aL 0 (iL ((m_ent ln cn se isI we).den : Int))) 1 (iL ((m_crN ln cn se isI we ma sf 6).den : Int))) uU uL)) H := hP
        have hD : va_D A ((mQ cI cZ k (Rat.divInt ((((m_ent ln cn se isI we) - (m_crN ln cn se isI we ma sf 6))).num) ((((m_ent ln cn se isI we) - (m_crN ln cn se isI we ma sf 6))).den : Int)) ln cn tm se isI we br ma sf pa) ++ (mS cJ k (vp_updL (vp_updL aU 0 (iL (m_ent ln cn se isI we).num)) 1 (iL (m_crN ln cn se isI we ma sf 6).num)) (vp_updL (vp_updL aL 0 (iL ((m_ent ln cn se isI we).den : Int))) 1 (iL ((m_crN ln cn se isI we ma sf 6).den : Int))) uU uL)) := hD
        rw [show (Rat.divInt ((((m_ent ln cn se isI we) - (m_crN ln cn se isI we ma sf 6))).num) ((((m_ent ln cn se isI we) - (m_crN ln cn se isI we ma sf 6))).den : Int)) = (m_re ln cn se isI we ma sf) from (by first | (unfold m_re; rw [if_pos hz]; exact Rat.num_divInt_den _) | (unfold m_re; rw [if_neg hz]))] at hP hD
        have hP : va_P (dC, dI) vwCl ((mQ cI cZ k (m_re ln cn se isI we ma sf) ln cn tm se isI we br ma sf pa) ++ (mS cJ k (vp_updL (vp_updL aU 0 (iL (m_ent ln cn se isI we).num)) 1 (iL (m_crN ln cn se isI we ma sf 6).num)) (vp_updL (vp_updL aL 0 (iL ((m_ent ln cn se isI we).den : Int))) 1 (iL ((m_crN ln cn se isI we ma sf 6).den : Int))) uU uL)) H := hP
        have hD : va_D A ((mQ cI cZ k (m_re ln cn se isI we ma sf) ln cn tm se isI we br ma sf pa) ++ (mS cJ k (vp_updL (vp_updL aU 0 (iL (m_ent ln cn se isI we).num)) 1 (iL (m_crN ln cn se isI we ma sf 6).num)) (vp_updL (vp_updL aL 0 (iL ((m_ent ln cn se isI we).den : Int))) 1 (iL ((m_crN ln cn se isI we ma sf 6).den : Int))) uU uL)) := hD
        refine lv_aload_n hx hb dX4_findRest_149 rfl (lv_at hl 1 rfl) ?_
        refine lv_iconst (v := 2) hx hb dX4_findRest_150 (by decide) ?_
        refine fM_v (wc := (mQ cI cZ k (m_re ln cn se isI we ma sf) ln cn tm se isI we br ma sf pa) ++ (mS cJ k (vp_updL (vp_updL aU 0 (iL (m_ent ln cn se isI we).num)) 1 (iL (m_crN ln cn se isI we ma sf 6).num)) (vp_updL (vp_updL aL 0 (iL ((m_ent ln cn se isI we).den : Int))) 1 (iL ((m_crN ln cn se isI we ma sf 6).den : Int))) uU uL)) (wr := []) (rMV (wc := (mQ cI cZ k (m_re ln cn se isI we ma sf) ln cn tm se isI we br ma sf pa) ++ (mS cJ k (vp_updL (vp_updL aU 0 (iL (m_ent ln cn se isI we).num)) 1 (iL (m_crN ln cn se isI we ma sf 6).num)) (vp_updL (vp_updL aL 0 (iL ((m_ent ln cn se isI we).den : Int))) 1 (iL ((m_crN ln cn se isI we ma sf 6).den : Int))) uU uL)) (As := [.int 2]) (rest := []) ⟨hx, hb, hml, hown, hT⟩ (c_X4_keeps (l := l) H.size 2 (by decide)) (cwTV 1 hT kc_X4_keeps km_X4_122 ki_X4_keeps ks_X4_keeps kn_X4 rfl rfl md_X4_keeps ⟨Nat.le_of_ble_eq_true rfl, Nat.le_of_ble_eq_true rfl⟩) hP hD hK (va_recv hK hP (ci := 4) (q0 := 0) rfl rfl) rfl hl.1 rfl (Nat.le_of_ble_eq_true rfl) dX4_findRest_151 ⟨Nat.le_of_ble_eq_true rfl, Nat.le_of_ble_eq_true rfl⟩) hP hD hS hA (fun u_151 H locs hw_151 hP hD hS => ?_)
        have hP : va_P (dC, dI) vwCl ((mQ cI cZ k (m_re ln cn se isI we ma sf) ln cn tm se isI we br ma sf pa) ++ (mS cJ k (vp_updL (vp_updL (vp_updL aU 0 (iL (m_ent ln cn se isI we).num)) 1 (iL (m_crN ln cn se isI we ma sf 6).num)) 2 (iL ((m_re ln cn se isI we ma sf)).num)) (vp_updL (vp_updL (vp_updL aL 0 (iL ((m_ent ln cn se isI we).den : Int))) 1 (iL ((m_crN ln cn se isI we ma sf 6).den : Int))) 2 (iL (((m_re ln cn se isI we ma sf)).den : Int))) uU uL)) H := hP
        have hD : va_D A ((mQ cI cZ k (m_re ln cn se isI we ma sf) ln cn tm se isI we br ma sf pa) ++ (mS cJ k (vp_updL (vp_updL (vp_updL aU 0 (iL (m_ent ln cn se isI we).num)) 1 (iL (m_crN ln cn se isI we ma sf 6).num)) 2 (iL ((m_re ln cn se isI we ma sf)).num)) (vp_updL (vp_updL (vp_updL aL 0 (iL ((m_ent ln cn se isI we).den : Int))) 1 (iL ((m_crN ln cn se isI we ma sf 6).den : Int))) 2 (iL (((m_re ln cn se isI we ma sf)).den : Int))) uU uL)) := hD
        exact retM_v (S := Unit) (post := fun _ => True) (w2 := fun u => (mQ cI cZ k (m_re ln cn se isI we ma sf) ln cn tm se isI we br ma sf pa) ++ (mS cJ k (vp_updL (vp_updL (vp_updL aU 0 (iL (m_ent ln cn se isI we).num)) 1 (iL (m_crN ln cn se isI we ma sf 6).num)) 2 (iL (m_re ln cn se isI we ma sf).num)) (vp_updL (vp_updL (vp_updL aL 0 (iL ((m_ent ln cn se isI we).den : Int))) 1 (iL ((m_crN ln cn se isI we ma sf 6).den : Int))) 2 (iL ((m_re ln cn se isI we ma sf).den : Int))) uU uL)) () hx hb hr hlocks trivial hP hK hD hS dX4_findRest_154
      · exact absurd c_117 c_134
    · have hz : ¬ 0 ≤ ((m_ent ln cn se isI we) - (m_crN ln cn se isI we ma sf 6)).num := fun h => c_117 ((iL_le rng_0 hdr).mpr h)
      refine lv_lconst (v := iL 0) hx hb dX4_findRest_121 rfl ?_
      refine lv_goto (tgt := 129) hx hb dX4_findRest_122 (by decide) ?_
      refine lv_aload_n hx hb dX4_findRest_129 rfl (lv_at hl 1 rfl) ?_
      refine va_get (D := (dC, dI)) (ci := 4) (v := .long (iL (((m_ent ln cn se isI we) - (m_crN ln cn se isI we ma sf 6))).num)) (C := RX4) (T := TX4) (N := 22) hx hb hT hiX4 hown hK hP 0 rfl rfl 0 (by decide) (hT _ kf_X4_75) (fun _ h9 => h9) rfl dX4_findRest_130 ?_
      refine lv_lconst (v := iL 0) hx hb dX4_findRest_133 rfl ?_
      refine lc_ge (tgt := 142) hx hb dX4_findRest_134 dX4_findRest_135 (by decide) (fun c_134 => ?_) (fun c_134 => ?_)
      · exact absurd c_134 c_117
      · refine lv_lconst (v := iL 1) hx hb dX4_findRest_138 rfl ?_
        refine lv_goto (tgt := 146) hx hb dX4_findRest_139 (by decide) ?_
        refine fM_v (wc := mQ cI cZ k ((m_ent ln cn se isI we) - (m_crN ln cn se isI we ma sf 6)) ln cn tm se isI we br ma sf pa) (wr := mS cJ k (vp_updL (vp_updL aU 0 (iL (m_ent ln cn se isI we).num)) 1 (iL (m_crN ln cn se isI we ma sf 6).num)) (vp_updL (vp_updL aL 0 (iL ((m_ent ln cn se isI we).den : Int))) 1 (iL ((m_crN ln cn se isI we ma sf 6).den : Int))) uU uL) (rMV (wc := mQ cI cZ k ((m_ent ln cn se isI we) - (m_crN ln cn se isI we ma sf 6)) ln cn tm se isI we br ma sf pa) (As := [.long (iL 0), .long (iL 1)]) (rest := []) ⟨hx, hb, hml, hown, hT⟩ (c_X4_makes (l := l) H.size 0 1 (by first | exact rng_0 | exact hdr) (by first | decide | omega) (by first | exact rng_1 | exact hde)) (cwTV 2 hT kc_X4_makes km_X4_78 ki_X4_makes ks_X4_makes kn_X4 rfl rfl md_X4_makes ⟨Nat.le_of_ble_eq_true rfl, Nat.le_of_ble_eq_true rfl⟩) (va_P.sub (ws' := mQ cI cZ k ((m_ent ln cn se isI we) - (m_crN ln cn se isI we ma sf 6)) ln cn tm se isI we br ma sf pa) hP [0, 1, 2, 3, 4, 5, 6, 7] rfl) (va_D.sub (ws' := mQ cI cZ k ((m_ent ln cn se isI we) - (m_crN ln cn se isI we ma sf 6)) ln cn tm se isI we br ma sf pa) hD [0, 1, 2, 3, 4, 5, 6, 7] (by decide) rfl) hK (va_recv hK hP (ci := 4) (q0 := 0) rfl rfl) rfl hl.1 rfl (Nat.le_of_ble_eq_true rfl) dX4_findRest_146 ⟨Nat.le_of_ble_eq_true rfl, Nat.le_of_ble_eq_true rfl⟩) hP hD hS hA (fun u_146 H locs hw_146 hP hD hS => ?_)
        have hP : va_P (dC, dI) vwCl ((mQ cI cZ k (Rat.divInt 0 1) ln cn tm se isI we br ma sf pa) ++ (mS cJ k (vp_updL (vp_updL aU 0 (iL (m_ent ln cn se isI we).num)) 1 (iL (m_crN ln cn se isI we ma sf 6).num)) (vp_updL (vp_updL aL 0 (iL ((m_ent ln cn se isI we).den : Int))) 1 (iL ((m_crN ln cn se isI we ma sf 6).den : Int))) uU uL)) H := hP
        have hD : va_D A ((mQ cI cZ k (Rat.divInt 0 1) ln cn tm se isI we br ma sf pa) ++ (mS cJ k (vp_updL (vp_updL aU 0 (iL (m_ent ln cn se isI we).num)) 1 (iL (m_crN ln cn se isI we ma sf 6).num)) (vp_updL (vp_updL aL 0 (iL ((m_ent ln cn se isI we).den : Int))) 1 (iL ((m_crN ln cn se isI we ma sf 6).den : Int))) uU uL)) := hD
        rw [show (Rat.divInt 0 1) = (m_re ln cn se isI we ma sf) from (by first | (unfold m_re; rw [if_pos hz]; exact Rat.num_divInt_den _) | (unfold m_re; rw [if_neg hz]))] at hP hD
        have hP : va_P (dC, dI) vwCl ((mQ cI cZ k (m_re ln cn se isI we ma sf) ln cn tm se isI we br ma sf pa) ++ (mS cJ k (vp_updL (vp_updL aU 0 (iL (m_ent ln cn se isI we).num)) 1 (iL (m_crN ln cn se isI we ma sf 6).num)) (vp_updL (vp_updL aL 0 (iL ((m_ent ln cn se isI we).den : Int))) 1 (iL ((m_crN ln cn se isI we ma sf 6).den : Int))) uU uL)) H := hP
        have hD : va_D A ((mQ cI cZ k (m_re ln cn se isI we ma sf) ln cn tm se isI we br ma sf pa) ++ (mS cJ k (vp_updL (vp_updL aU 0 (iL (m_ent ln cn se isI we).num)) 1 (iL (m_crN ln cn se isI we ma sf 6).num)) (vp_updL (vp_updL aL 0 (iL ((m_ent ln cn se isI we).den : Int))) 1 (iL ((m_crN ln cn se isI we ma sf 6).den : Int))) uU uL)) := hD
        refine lv_aload_n hx hb dX4_findRest_149 rfl (lv_at hl 1 rfl) ?_
        refine lv_iconst (v := 2) hx hb dX4_findRest_150 (by decide) ?_
        refine fM_v (wc := (mQ cI cZ k (m_re ln cn se isI we ma sf) ln cn tm se isI we br ma sf pa) ++ (mS cJ k (vp_updL (vp_updL aU 0 (iL (m_ent ln cn se isI we).num)) 1 (iL (m_crN ln cn se isI we ma sf 6).num)) (vp_updL (vp_updL aL 0 (iL ((m_ent ln cn se isI we).den : Int))) 1 (iL ((m_crN ln cn se isI we ma sf 6).den : Int))) uU uL)) (wr := []) (rMV (wc := (mQ cI cZ k (m_re ln cn se isI we ma sf) ln cn tm se isI we br ma sf pa) ++ (mS cJ k (vp_updL (vp_updL aU 0 (iL (m_ent ln cn se isI we).num)) 1 (iL (m_crN ln cn se isI we ma sf 6).num)) (vp_updL (vp_updL aL 0 (iL ((m_ent ln cn se isI we).den : Int))) 1 (iL ((m_crN ln cn se isI we ma sf 6).den : Int))) uU uL)) (As := [.int 2]) (rest := []) ⟨hx, hb, hml, hown, hT⟩ (c_X4_keeps (l := l) H.size 2 (by decide)) (cwTV 1 hT kc_X4_keeps km_X4_122 ki_X4_keeps ks_X4_keeps kn_X4 rfl rfl md_X4_keeps ⟨Nat.le_of_ble_eq_true rfl, Nat.le_of_ble_eq_true rfl⟩) hP hD hK (va_recv hK hP (ci := 4) (q0 := 0) rfl rfl) rfl hl.1 rfl (Nat.le_of_ble_eq_true rfl) dX4_findRest_151 ⟨Nat.le_of_ble_eq_true rfl, Nat.le_of_ble_eq_true rfl⟩) hP hD hS hA (fun u_151 H locs hw_151 hP hD hS => ?_)
        have hP : va_P (dC, dI) vwCl ((mQ cI cZ k (m_re ln cn se isI we ma sf) ln cn tm se isI we br ma sf pa) ++ (mS cJ k (vp_updL (vp_updL (vp_updL aU 0 (iL (m_ent ln cn se isI we).num)) 1 (iL (m_crN ln cn se isI we ma sf 6).num)) 2 (iL ((m_re ln cn se isI we ma sf)).num)) (vp_updL (vp_updL (vp_updL aL 0 (iL ((m_ent ln cn se isI we).den : Int))) 1 (iL ((m_crN ln cn se isI we ma sf 6).den : Int))) 2 (iL (((m_re ln cn se isI we ma sf)).den : Int))) uU uL)) H := hP
        have hD : va_D A ((mQ cI cZ k (m_re ln cn se isI we ma sf) ln cn tm se isI we br ma sf pa) ++ (mS cJ k (vp_updL (vp_updL (vp_updL aU 0 (iL (m_ent ln cn se isI we).num)) 1 (iL (m_crN ln cn se isI we ma sf 6).num)) 2 (iL ((m_re ln cn se isI we ma sf)).num)) (vp_updL (vp_updL (vp_updL aL 0 (iL ((m_ent ln cn se isI we).den : Int))) 1 (iL ((m_crN ln cn se isI we ma sf 6).den : Int))) 2 (iL (((m_re ln cn se isI we ma sf)).den : Int))) uU uL)) := hD
        exact retM_v (S := Unit) (post := fun _ => True) (w2 := fun u => (mQ cI cZ k (m_re ln cn se isI we ma sf) ln cn tm se isI we br ma sf pa) ++ (mS cJ k (vp_updL (vp_updL (vp_updL aU 0 (iL (m_ent ln cn se isI we).num)) 1 (iL (m_crN ln cn se isI we ma sf 6).num)) 2 (iL (m_re ln cn se isI we ma sf).num)) (vp_updL (vp_updL (vp_updL aL 0 (iL ((m_ent ln cn se isI we).den : Int))) 1 (iL ((m_crN ln cn se isI we ma sf 6).den : Int))) 2 (iL ((m_re ln cn se isI we ma sf).den : Int))) uU uL)) () hx hb hr hlocks trivial hP hK hD hS dX4_findRest_154
