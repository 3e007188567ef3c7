variable {l : Launch} {dC : Nat → ClassId} {dI : Nat → Nat → Nat} {cI cJ cZ : ClassId}
variable {q : Nat → Nat} {ln cw ic bs ss : Int32} {se we un sf pa : Nat → Int32}
variable {ct : Int32} {ov gf : Nat → Int64} {gi ta : Nat → Int32}
variable {k : Nat → Nat} {r : Rat} {up lo : Int64} {cn tm : Int32} {isI br ma : Nat → Int32} {aU aL uU uL oU oL gU gL : Nat → Int64}

def m_due (we br ma : Nat → Int32) (w : Nat) (dv : Rat) : Rat := if br w = 0 then (if ma w = -9 then dv else if br (m_mt ma w) = 0 then (if we w + we (m_mt ma w) = 0 then muQ dv.num dv.den 1 2 else muQ dv.num dv.den (we w).toInt (we w + we (m_mt ma w)).toInt.toNat) else dv) else Rat.divInt 0 1
def m_seN (isI ma sf : Nat → Int32) : Nat → Int
  | 0 => 0
  | i + 1 => m_seN isI ma sf i + (if m_isU isI ma i then (if sf i = -9 then 0 else (sf i).toInt) else 0)
theorem m_seN_p {isI ma sf : Nat → Int32} {i : Nat} (h : m_isU isI ma i) (h2 : ¬ sf i = -9) : m_seN isI ma sf (i + 1) = m_seN isI ma sf i + (sf i).toInt := by
  show m_seN isI ma sf i + (if m_isU isI ma i then _ else _) = _
  rw [if_pos h, if_neg h2]
theorem m_seN_q {isI ma sf : Nat → Int32} {i : Nat} (h : m_isU isI ma i) (h2 : sf i = -9) : m_seN isI ma sf (i + 1) = m_seN isI ma sf i + 0 := by
  show m_seN isI ma sf i + (if m_isU isI ma i then _ else _) = _
  rw [if_pos h, if_pos h2]
theorem m_seN_n {isI ma sf : Nat → Int32} {i : Nat} (h : ¬ m_isU isI ma i) : m_seN isI ma sf (i + 1) = m_seN isI ma sf i + 0 := by
  show m_seN isI ma sf i + (if m_isU isI ma i then _ else _) = _
  rw [if_neg h]
theorem m_seN_bd {isI ma sf : Nat → Int32} (h : ∀ u, u < 6 → sf u = -9 ∨ (0 ≤ (sf u).toInt ∧ (sf u).toInt ≤ 1000000)) : ∀ i, i ≤ 6 → 0 ≤ m_seN isI ma sf i ∧ m_seN isI ma sf i ≤ i * 1000000 := by
  intro i
  induction i with
  | zero => intro _; exact ⟨Int.le_refl _, Int.le_refl _⟩
  | succ i ih =>
    intro hi
    have h1 := ih (by omega)
    have h2 := h i (by omega)
    by_cases hu : m_isU isI ma i
    · by_cases hs : sf i = -9
      · rw [m_seN_q hu hs]; omega
      · rw [m_seN_p hu hs]
        rcases h2 with h2 | h2
        · contradiction
        · omega
    · rw [m_seN_n hu]; omega
theorem se_back (se : Nat → Int32) (a b : Int32) : upd (upd (upd (upd se 0 a) 1 b) 0 (se 0)) 1 (se 1) = se := by
  funext j
  unfold upd
  by_cases h1 : j = 1
  · simp [h1]
  · by_cases h0 : j = 0
    · simp [h0]
    · simp [h0, h1]
theorem adQ_w (x : Rat) (z : Int) : adQ x.num x.den z 1 1 = x + iQ z := by
  unfold adQ
  rw [← rat_nd x]
  show x + (1 : Rat) * ((z : Rat) / (1 : Rat)) = x + (z : Rat)
  grind
theorem adQ_v (z : Int) (x : Rat) : adQ z 1 x.num x.den (-1) = iQ z - x := by
  unfold adQ
  rw [← rat_nd x, Rat.intCast_neg]
  show (z : Rat) / (1 : Rat) + (-(1 : Rat)) * x = (z : Rat) - x
  grind
/-- due by all dues, and that of all that was paid -/
def m_fx (dv Du : Rat) : Rat := muQ dv.num dv.den (Du.den : Int) Du.num.toNat
def m_fair (dv Du : Rat) (P : Int) : Rat := if Du.num = 0 then Rat.divInt 0 1 else muQ (m_fx dv Du).num (m_fx dv Du).den P 1
def f_ok (dv Du : Rat) : Prop := 0 ≤ Du.num ∧ rng Du.num ∧ rng (Du.den : Int) ∧ rng dv.num ∧ rng (dv.den : Int) ∧ (¬ Du.num = 0 → rng (dv.num.tdiv ((Nat.gcd dv.num.natAbs Du.num.toNat : Nat) : Int) * (Du.den : Int).tdiv ((Nat.gcd (Du.den : Int).natAbs dv.den : Nat) : Int)) ∧ rng (((dv.den / Nat.gcd (Du.den : Int).natAbs dv.den : Nat) : Int) * ((Du.num.toNat / Nat.gcd dv.num.natAbs Du.num.toNat : Nat) : Int)) ∧ (m_fx dv Du).num.natAbs ≤ 1000 ∧ (m_fx dv Du).den ≤ 1000)
theorem m_fair_bd {dv Du : Rat} {P : Int} (h : f_ok dv Du) (h1 : 0 ≤ P) (h2 : P ≤ 10000000) : (m_fair dv Du P).num.natAbs ≤ 10000000000 ∧ (m_fair dv Du P).den ≤ 1001 := by
  have h01 : (Rat.divInt 0 1).num.natAbs ≤ 10000000000 ∧ (Rat.divInt 0 1).den ≤ 1001 := by decide
  unfold m_fair
  split
  · exact h01
  · rename_i hz
    obtain ⟨-, -, -, -, -, h6⟩ := h
    obtain ⟨-, -, h7, h8⟩ := h6 hz
    have e : muQ (m_fx dv Du).num (m_fx dv Du).den P 1 = Rat.divInt ((m_fx dv Du).num * P) ((m_fx dv Du).den : Int) := by
      rw [t_mul]
      unfold muQ
      rw [← rat_nd]
      show (m_fx dv Du) * ((P : Rat) / (1 : Rat)) = (m_fx dv Du) * (P : Rat)
      grind
    rw [e]
    have := dq_le ((m_fx dv Du).num * P) ((m_fx dv Du).den : Int) (by omega)
    have k := Nat.mul_le_mul h7 (show P.natAbs ≤ 10000000 by omega)
    rw [← Int.natAbs_mul] at k
    omega

theorem un_lt {ma : Nat → Int32} (hm : mok ma) {w : Nat} (hw : w < 6) : m_un ma w < 6 := by
  unfold m_un
  split
  · exact hw
  · rename_i h
    split
    · exact (m_idx hm hw h).2
    · exact hw
set_option maxHeartbeats 4000000 in
set_option maxRecDepth 100000 in
theorem c_X4_findDue (sz : Nat) (w : Nat) (dv : Rat) (hw : w < 6) (hm : mok ma) (hwe : ∀ u, u < 6 → 0 ≤ (we u).toInt ∧ (we u).toInt ≤ 100) (hU : uU (m_un ma w) = iL dv.num) (hL : uL (m_un ma w) = iL (dv.den : Int)) (hdv : dv.num.natAbs ≤ 1000000000000000 ∧ dv.den ≤ 300000000) : Met l yX4_findDue (wT yX4_findDue cX4_findDue 4 none) ({ frames := 3, cells := 0, slots := 0, locals := 87 }) (pM (dC, dI) (ty3 cI cJ cZ) ((mQ cI cZ k r ln cn tm se isI we br ma sf pa) ++ (mS cJ k aU aL uU uL)) [.ref (k 0), .int (nI w)] sz) (va_Qv (S := Rat) (fun u => u = (m_due we br ma w dv)) (fun u t9 => bM (dC, dI) (ty3 cI cJ cZ) (va_A ((mQ cI cZ k r ln cn tm se isI we br ma sf pa) ++ (mS cJ k aU aL uU uL)) sz) ((mQ cI cZ k u ln cn tm se isI we br ma sf pa) ++ (mS cJ k aU aL uU uL)) t9) (va_A ((mQ cI cZ k r ln cn tm se isI we br ma sf pa) ++ (mS cJ k aU aL uU uL)) sz)) 0 0 (va_A ((mQ cI cZ k r ln cn tm se isI we br ma sf pa) ++ (mS cJ k aU aL uU uL)) sz) := by
  refine Met.ofW (cc := cX4_findDue) (maxL := 4) (ret := none) (by decide) rfl ?_
  intro p e s m args below meth c s₁ B hml hv
  obtain ⟨rfl, hsz, hP, hK, hD0⟩ := hv
  have hx := B.exec
  have hb := B.bytes
  have hr := B.returns
  have hts := atoms_spec (ws := wT yX4_findDue cX4_findDue 4 none) B.pre
  have hT := wT_T hts
  have hown : s.vm.findClass RX4 = some m.cls := findClass_of_methodNamed B.named
  have hlocks := B.notSynchronized
  subst hsz
  have hD := hD0.self (sz := s.heap.size)
  generalize hAe : va_A ((mQ cI cZ k r ln cn tm se isI we br ma sf pa) ++ (mS cJ k aU aL uU uL)) s.heap.size = A at hD ⊢
  have hA : ∀ q : Nat, s.heap.size ≤ q → A q := fun q h => by rw [← hAe]; exact Or.inr h
  have hS : va_S A s.heap s.heap [] := va_S.rf
  have hl := lv_entry ([.ref (k 0), .int (nI w)]) (n := 4) (Nat.le_of_ble_eq_true rfl)
  rw [lg_entry_eq]
  generalize (lg_sl ([.ref (k 0), .int (nI w)]) ++ List.replicate (4 - (lg_sl ([.ref (k 0), .int (nI w)])).length) Slot.unset).toArray = ls at hl ⊢
  have hl : lv_has ls 4 [(0, .ref (k 0)), (1, .int (nI w))] := hl
  have hun := un_lt hm hw
  have hdp := dv.den_pos
  have hdr : rng dv.num := by unfold rng; omega
  have hdd : rng (dv.den : Int) := by unfold rng; omega
  refine lv_aload_n hx hb dX4_findDue_0 rfl (lv_at hl 0 rfl) ?_
  refine va_get (D := (dC, dI)) (ci := 4) (v := .ref (k 5)) (C := RX4) (T := TX4) (N := 22) hx hb hT hiX4 hown hK hP 0 rfl rfl 8 (by decide) (hT _ kf_X4_27) (fun _ h9 => h9) rfl dX4_findDue_1 ?_
  refine lv_iload_n hx hb dX4_findDue_4 rfl (lv_at hl 1 rfl) ?_
  refine ald_i hx hb hK hP 5 0 rfl rfl (by decide) (w := w) rfl (by omega) dX4_findDue_5 ?_
  refine lv_istore_n (lv' := [(2, .int (ma w)), (0, .ref (k 0)), (1, .int (nI w))]) hx hb dX4_findDue_6 rfl hl (by decide) rfl (fun ls hl => ?_)
  refine lv_aload_n hx hb dX4_findDue_7 rfl (lv_at hl 1 rfl) ?_
  refine lv_aload_n hx hb dX4_findDue_8 rfl (lv_at hl 1 rfl) ?_
  refine va_get (D := (dC, dI)) (ci := 4) (v := .ref (k 10)) (C := RX4) (T := TX4) (N := 22) hx hb hT hiX4 hown hK hP 0 rfl rfl 13 (by decide) (hT _ kf_X4_43) (fun _ h9 => h9) rfl dX4_findDue_9 ?_
  refine lv_aload_n hx hb dX4_findDue_12 rfl (lv_at hl 1 rfl) ?_
  refine lv_iload_n hx hb dX4_findDue_13 rfl (lv_at hl 2 rfl) ?_
  refine vp_callSi (rRV (As := [.int (nI w)]) (rest := [.ref (k 10), .ref (k 0)]) ⟨hx, hb, hml, hown, hT⟩ (c_X4_unitOf (l := l) w hw hm) (cwTV 1 hT kc_X4_unitOf km_X4_157 ki_X4_unitOf ks_X4_unitOf kn_X4 rfl rfl md_X4_unitOf ⟨Nat.le_of_ble_eq_true rfl, Nat.le_of_ble_eq_true rfl⟩) (va_P.sub (ws' := mW cI cZ k (iL (r).num) (iL ((r).den : Int)) ln cn tm se isI we br ma sf pa) hP [0, 1, 2, 3, 4, 5, 6, 7] rfl) hK (va_recv hK hP (ci := 4) (q0 := 0) rfl rfl) rfl hl.1 rfl (Nat.le_of_ble_eq_true rfl) dX4_findDue_14 ⟨Nat.le_of_ble_eq_true rfl, Nat.le_of_ble_eq_true rfl⟩) (fun r_14 hw_14 => ?_)
  subst hw_14
  refine ald_l hx hb hK hP 10 1 rfl rfl (by decide) (w := (m_un ma w)) rfl hun dX4_findDue_17 ?_
  refine topl_eq (y := (iL (dv).num)) hU ?_
  refine lv_aload_n hx hb dX4_findDue_18 rfl (lv_at hl 1 rfl) ?_
  refine va_get (D := (dC, dI)) (ci := 4) (v := .ref (k 11)) (C := RX4) (T := TX4) (N := 22) hx hb hT hiX4 hown hK hP 0 rfl rfl 14 (by decide) (hT _ kf_X4_46) (fun _ h9 => h9) rfl dX4_findDue_19 ?_
  refine lv_aload_n hx hb dX4_findDue_22 rfl (lv_at hl 1 rfl) ?_
  refine lv_iload_n hx hb dX4_findDue_23 rfl (lv_at hl 2 rfl) ?_
  refine vp_callSi (rRV (As := [.int (nI w)]) (rest := [.ref (k 11), .long (iL (dv).num), .ref (k 0)]) ⟨hx, hb, hml, hown, hT⟩ (c_X4_unitOf (l := l) w hw hm) (cwTV 1 hT kc_X4_unitOf km_X4_157 ki_X4_unitOf ks_X4_unitOf kn_X4 rfl rfl md_X4_unitOf ⟨Nat.le_of_ble_eq_true rfl, Nat.le_of_ble_eq_true rfl⟩) (va_P.sub (ws' := mW cI cZ k (iL (r).num) (iL ((r).den : Int)) ln cn tm se isI we br ma sf pa) hP [0, 1, 2, 3, 4, 5, 6, 7] rfl) hK (va_recv hK hP (ci := 4) (q0 := 0) rfl rfl) rfl hl.1 rfl (Nat.le_of_ble_eq_true rfl) dX4_findDue_24 ⟨Nat.le_of_ble_eq_true rfl, Nat.le_of_ble_eq_true rfl⟩) (fun r_24 hw_24 => ?_)
  subst hw_24
  refine ald_l hx hb hK hP 11 1 rfl rfl (by decide) (w := (m_un ma w)) rfl hun dX4_findDue_27 ?_
  refine topl_eq (y := (iL ((dv).den : Int))) hL ?_
  refine fM_v (wc := mQ cI cZ k r ln cn tm se isI we br ma sf pa) (wr := mS cJ k aU aL uU uL) (rMV (wc := mQ cI cZ k r ln cn tm se isI we br ma sf pa) (As := [.long (iL (dv).num), .long (iL ((dv).den : Int))]) (rest := []) ⟨hx, hb, hml, hown, hT⟩ (c_X4_makes (l := l) s.heap.size ((dv).num) ((dv).den : Int) hdr (by omega) hdd) (cwTV 2 hT kc_X4_makes km_X4_78 ki_X4_makes ks_X4_makes kn_X4 rfl rfl md_X4_makes ⟨Nat.le_of_ble_eq_true rfl, Nat.le_of_ble_eq_true rfl⟩) (va_P.sub (ws' := mQ cI cZ k r ln cn tm se isI we br ma sf pa) hP [0, 1, 2, 3, 4, 5, 6, 7] rfl) (va_D.sub (ws' := mQ cI cZ k r ln cn tm se isI we br ma sf pa) hD [0, 1, 2, 3, 4, 5, 6, 7] (by decide) rfl) hK (va_recv hK hP (ci := 4) (q0 := 0) rfl rfl) rfl hl.1 rfl (Nat.le_of_ble_eq_true rfl) dX4_findDue_28 ⟨Nat.le_of_ble_eq_true rfl, Nat.le_of_ble_eq_true rfl⟩) hP hD hS hA (fun u_28 H locs hw_28 hP hD hS => ?_)
  have hP : va_P (dC, dI) vwCl ((mQ cI cZ k (Rat.divInt ((dv).num) ((dv).den : Int)) ln cn tm se isI we br ma sf pa) ++ (mS cJ k aU aL uU uL)) H := hP
  have hD : va_D A ((mQ cI cZ k (Rat.divInt ((dv).num) ((dv).den : Int)) ln cn tm se isI we br ma sf pa) ++ (mS cJ k aU aL uU uL)) := hD
  rw [show (Rat.divInt ((dv).num) ((dv).den : Int)) = dv from (Rat.num_divInt_den dv)] at hP hD
  have hP : va_P (dC, dI) vwCl ((mQ cI cZ k dv ln cn tm se isI we br ma sf pa) ++ (mS cJ k aU aL uU uL)) H := hP
  have hD : va_D A ((mQ cI cZ k dv ln cn tm se isI we br ma sf pa) ++ (mS cJ k aU aL uU uL)) := hD
  refine lv_aload_n hx hb dX4_findDue_31 rfl (lv_at hl 1 rfl) ?_
  refine va_get (D := (dC, dI)) (ci := 4) (v := .ref (k 4)) (C := RX4) (T := TX4) (N := 22) hx hb hT hiX4 hown hK hP 0 rfl rfl 7 (by decide) (hT _ kf_X4_24) (fun _ h9 => h9) rfl dX4_findDue_32 ?_
  refine lv_iload_n hx hb dX4_findDue_35 rfl (lv_at hl 2 rfl) ?_
  refine ald_z hx hb hK hP 4 2 rfl rfl (by decide) (w := w) rfl (by omega) dX4_findDue_36 ?_
  refine lv_if_eq (tgt := 49) hx hb dX4_findDue_37 (by decide) (fun c_37 => ?_) (fun c_37 => ?_)
  · refine lv_iload_n hx hb dX4_findDue_49 rfl (lv_at hl 0 rfl) ?_
    refine lv_bipush (v := (-9)) hx hb dX4_findDue_50 (by decide) ?_
    refine lv_icmp_eq (tgt := 117) hx hb dX4_findDue_52 (by decide) (fun c_52 => ?_) (fun c_52 => ?_)
    · exact retM_v (S := Rat) (post := fun u => u = (m_due we br ma w dv)) (w2 := fun u => (mQ cI cZ k u ln cn tm se isI we br ma sf pa) ++ (mS cJ k aU aL uU uL)) dv hx hb hr hlocks (by simp only [m_due, c_37, c_52, ↓reduceIte, Bool.false_eq_true, i10]) hP hK hD hS dX4_findDue_117
    · refine lv_aload_n hx hb dX4_findDue_55 rfl (lv_at hl 1 rfl) ?_
      refine va_get (D := (dC, dI)) (ci := 4) (v := .ref (k 4)) (C := RX4) (T := TX4) (N := 22) hx hb hT hiX4 hown hK hP 0 rfl rfl 7 (by decide) (hT _ kf_X4_24) (fun _ h9 => h9) rfl dX4_findDue_56 ?_
      refine lv_iload_n hx hb dX4_findDue_59 rfl (lv_at hl 0 rfl) ?_
      refine ald_z hx hb hK hP 4 2 rfl rfl (by decide) (w := (m_mt ma w)) (m_idx hm hw c_52).1 (m_idx hm hw c_52).2 dX4_findDue_60 ?_
      refine lv_if_ne (tgt := 117) hx hb dX4_findDue_61 (by decide) (fun c_61 => ?_) (fun c_61 => ?_)
      · exact retM_v (S := Rat) (post := fun u => u = (m_due we br ma w dv)) (w2 := fun u => (mQ cI cZ k u ln cn tm se isI we br ma sf pa) ++ (mS cJ k aU aL uU uL)) dv hx hb hr hlocks (by simp only [m_due, c_37, c_52, c_61, ↓reduceIte, Bool.false_eq_true, i10]) hP hK hD hS dX4_findDue_117
      · refine lv_aload_n hx hb dX4_findDue_64 rfl (lv_at hl 1 rfl) ?_
        refine va_get (D := (dC, dI)) (ci := 4) (v := .ref (k 3)) (C := RX4) (T := TX4) (N := 22) hx hb hT hiX4 hown hK hP 0 rfl rfl 6 (by decide) (hT _ kf_X4_21) (fun _ h9 => h9) rfl dX4_findDue_65 ?_
        refine lv_iload_n hx hb dX4_findDue_68 rfl (lv_at hl 2 rfl) ?_
        refine ald_i hx hb hK hP 3 0 rfl rfl (by decide) (w := w) rfl (by omega) dX4_findDue_69 ?_
        refine lv_aload_n hx hb dX4_findDue_70 rfl (lv_at hl 1 rfl) ?_
        refine va_get (D := (dC, dI)) (ci := 4) (v := .ref (k 3)) (C := RX4) (T := TX4) (N := 22) hx hb hT hiX4 hown hK hP 0 rfl rfl 6 (by decide) (hT _ kf_X4_21) (fun _ h9 => h9) rfl dX4_findDue_71 ?_
        refine lv_iload_n hx hb dX4_findDue_74 rfl (lv_at hl 0 rfl) ?_
        refine ald_i hx hb hK hP 3 0 rfl rfl (by decide) (w := (m_mt ma w)) (m_idx hm hw c_52).1 (m_idx hm hw c_52).2 dX4_findDue_75 ?_
        refine lv_iadd hx hb dX4_findDue_76 ?_
        have hw1 := hwe w hw
        have hw2 := hwe _ (m_idx hm hw c_52).2
        have eb : (we w + we (m_mt ma w)).toInt = (we w).toInt + (we (m_mt ma w)).toInt := i32_add (by omega) (by omega)
        refine lv_istore_n (lv' := [(3, .int ((we w) + (we (m_mt ma w)))), (2, .int (ma w)), (0, .ref (k 0)), (1, .int (nI w))]) hx hb dX4_findDue_77 rfl hl (by decide) rfl (fun ls hl => ?_)
        refine lv_aload_n hx hb dX4_findDue_78 rfl (lv_at hl 2 rfl) ?_
        refine lv_aload_n hx hb dX4_findDue_79 rfl (lv_at hl 2 rfl) ?_
        refine va_get (D := (dC, dI)) (ci := 4) (v := .long (iL (dv).num)) (C := RX4) (T := TX4) (N := 22) hx hb hT hiX4 hown hK hP 0 rfl rfl 0 (by decide) (hT _ kf_X4_75) (fun _ h9 => h9) rfl dX4_findDue_80 ?_
        refine lv_aload_n hx hb dX4_findDue_83 rfl (lv_at hl 2 rfl) ?_
        refine va_get (D := (dC, dI)) (ci := 4) (v := .long (iL ((dv).den : Int))) (C := RX4) (T := TX4) (N := 22) hx hb hT hiX4 hown hK hP 0 rfl rfl 1 (by decide) (hT _ kf_X4_7) (fun _ h9 => h9) rfl dX4_findDue_84 ?_
        refine lv_iload_n hx hb dX4_findDue_87 rfl (lv_at hl 0 rfl) ?_
        refine lv_if_ne (tgt := 95) hx hb dX4_findDue_88 (by decide) (fun c_88 => ?_) (fun c_88 => ?_)
        · refine lv_aload_n hx hb dX4_findDue_95 rfl (lv_at hl 2 rfl) ?_
          refine va_get (D := (dC, dI)) (ci := 4) (v := .ref (k 3)) (C := RX4) (T := TX4) (N := 22) hx hb hT hiX4 hown hK hP 0 rfl rfl 6 (by decide) (hT _ kf_X4_21) (fun _ h9 => h9) rfl dX4_findDue_96 ?_
          refine lv_iload_n hx hb dX4_findDue_99 rfl (lv_at hl 3 rfl) ?_
          refine ald_i hx hb hK hP 3 0 rfl rfl (by decide) (w := w) rfl (by omega) dX4_findDue_100 ?_
          refine lv_i2l (v := iL (we w : Int32).toInt) hx hb dX4_findDue_101 rfl ?_
          refine lv_iload_n hx hb dX4_findDue_102 rfl (lv_at hl 0 rfl) ?_
          refine lv_if_ne (tgt := 112) hx hb dX4_findDue_103 (by decide) (fun c_103 => ?_) (fun c_103 => ?_)
          · refine lv_iload_n hx hb dX4_findDue_112 rfl (lv_at hl 0 rfl) ?_
            refine lv_i2l (v := iL ((we w) + (we (m_mt ma w)) : Int32).toInt) hx hb dX4_findDue_113 rfl ?_
            refine topl_eq (y := (iL (((we w + we (m_mt ma w)).toInt.toNat : Nat) : Int))) (congrArg iL (Int.toNat_of_nonneg (by omega)).symm) ?_
            have hbp : 0 < (we w + we (m_mt ma w)).toInt := by have := mt i32_0.mpr c_88; omega
            refine fM_v (wc := mQ cI cZ k dv ln cn tm se isI we br ma sf pa) (wr := mS cJ k aU aL uU uL) (rMV (wc := mQ cI cZ k dv ln cn tm se isI we br ma sf pa) (As := [.long (iL (dv).num), .long (iL ((dv).den : Int)), .long (iL (we w : Int32).toInt), .long (iL (((we w + we (m_mt ma w)).toInt.toNat : Nat) : Int))]) (rest := []) ⟨hx, hb, hml, hown, hT⟩ (c_X4_multiplies (l := l) H.size ((dv).num) ((dv).den) ((we w : Int32).toInt) ((we w + we (m_mt ma w)).toInt.toNat : Nat) hdr (by first | exact rng_1 | (unfold rng; omega)) hdp (by first | decide | omega) hdd (by first | (unfold rng; decide) | (unfold rng; omega)) (by first | exact mu_num (N := 1000000000000000 * 1) (Nat.mul_le_mul hdv.1 (by decide)) (by decide) | exact mu_num (N := 1000000000000000 * 100) (Nat.mul_le_mul hdv.1 (by omega)) (by decide)) (by first | exact mu_den (N := 300000000 * 2) hdp (by decide) (Nat.mul_le_mul hdv.2 (by decide)) (by decide) | exact mu_den (N := 300000000 * 200) hdp (by omega) (Nat.mul_le_mul hdv.2 (by omega)) (by decide))) (cwTV 4 hT kc_X4_multiplies km_X4_145 ki_X4_multiplies ks_X4_multiplies kn_X4 rfl rfl md_X4_multiplies ⟨Nat.le_of_ble_eq_true rfl, Nat.le_of_ble_eq_true rfl⟩) (va_P.sub (ws' := mQ cI cZ k dv ln cn tm se isI we br ma sf pa) hP [0, 1, 2, 3, 4, 5, 6, 7] rfl) (va_D.sub (ws' := mQ cI cZ k dv ln cn tm se isI we br ma sf pa) hD [0, 1, 2, 3, 4, 5, 6, 7] (by decide) rfl) hK (va_recv hK hP (ci := 4) (q0 := 0) rfl rfl) rfl hl.1 rfl (Nat.le_of_ble_eq_true rfl) dX4_findDue_114 ⟨Nat.le_of_ble_eq_true rfl, Nat.le_of_ble_eq_true rfl⟩) hP hD hS hA (fun u_114 H locs hw_114 hP hD hS => ?_)
            have hP : va_P (dC, dI) vwCl ((mQ cI cZ k (muQ ((dv).num) ((dv).den) ((we w : Int32).toInt) ((we w + we (m_mt ma w)).toInt.toNat : Nat)) ln cn tm se isI we br ma sf pa) ++ (mS cJ k aU aL uU uL)) H := hP
            have hD : va_D A ((mQ cI cZ k (muQ ((dv).num) ((dv).den) ((we w : Int32).toInt) ((we w + we (m_mt ma w)).toInt.toNat : Nat)) ln cn tm se isI we br ma sf pa) ++ (mS cJ k aU aL uU uL)) := hD
            exact retM_v (S := Rat) (post := fun u => u = (m_due we br ma w dv)) (w2 := fun u => (mQ cI cZ k u ln cn tm se isI we br ma sf pa) ++ (mS cJ k aU aL uU uL)) (muQ ((dv).num) ((dv).den) ((we w : Int32).toInt) ((we w + we (m_mt ma w)).toInt.toNat : Nat)) hx hb hr hlocks (by simp only [m_due, c_37, c_52, c_61, c_88, c_103, ↓reduceIte, Bool.false_eq_true, i10]) hP hK hD hS dX4_findDue_117
          · exact absurd c_103 c_88
        · refine lv_lconst (v := iL 1) hx hb dX4_findDue_91 rfl ?_
          refine lv_goto (tgt := 102) hx hb dX4_findDue_92 (by decide) ?_
          refine lv_iload_n hx hb dX4_findDue_102 rfl (lv_at hl 0 rfl) ?_
          refine lv_if_ne (tgt := 112) hx hb dX4_findDue_103 (by decide) (fun c_103 => ?_) (fun c_103 => ?_)
          · exact absurd c_88 c_103
          · refine lv_ldc2 hx hb hown (hT _ kj_X4_164) dX4_findDue_106 ?_
            refine topl_eq (y := (iL ((2 : Nat) : Int))) rfl ?_
            refine lv_goto (tgt := 114) hx hb dX4_findDue_109 (by decide) ?_
            refine fM_v (wc := mQ cI cZ k dv ln cn tm se isI we br ma sf pa) (wr := mS cJ k aU aL uU uL) (rMV (wc := mQ cI cZ k dv ln cn tm se isI we br ma sf pa) (As := [.long (iL (dv).num), .long (iL ((dv).den : Int)), .long (iL 1), .long (iL ((2 : Nat) : Int))]) (rest := []) ⟨hx, hb, hml, hown, hT⟩ (c_X4_multiplies (l := l) H.size ((dv).num) ((dv).den) 1 (2 : Nat) hdr (by first | exact rng_1 | (unfold rng; omega)) hdp (by first | decide | omega) hdd (by first | (unfold rng; decide) | (unfold rng; omega)) (by first | exact mu_num (N := 1000000000000000 * 1) (Nat.mul_le_mul hdv.1 (by decide)) (by decide) | exact mu_num (N := 1000000000000000 * 100) (Nat.mul_le_mul hdv.1 (by omega)) (by decide)) (by first | exact mu_den (N := 300000000 * 2) hdp (by decide) (Nat.mul_le_mul hdv.2 (by decide)) (by decide) | exact mu_den (N := 300000000 * 200) hdp (by omega) (Nat.mul_le_mul hdv.2 (by omega)) (by decide))) (cwTV 4 hT kc_X4_multiplies km_X4_145 ki_X4_multiplies ks_X4_multiplies kn_X4 rfl rfl md_X4_multiplies ⟨Nat.le_of_ble_eq_true rfl, Nat.le_of_ble_eq_true rfl⟩) (va_P.sub (ws' := mQ cI cZ k dv ln cn tm se isI we br ma sf pa) hP [0, 1, 2, 3, 4, 5, 6, 7] rfl) (va_D.sub (ws' := mQ cI cZ k dv ln cn tm se isI we br ma sf pa) hD [0, 1, 2, 3, 4, 5, 6, 7] (by decide) rfl) hK (va_recv hK hP (ci := 4) (q0 := 0) rfl rfl) rfl hl.1 rfl (Nat.le_of_ble_eq_true rfl) dX4_findDue_114 ⟨Nat.le_of_ble_eq_true rfl, Nat.le_of_ble_eq_true rfl⟩) hP hD hS hA (fun u_114 H locs hw_114 hP hD hS => ?_)
            have hP : va_P (dC, dI) vwCl ((mQ cI cZ k (muQ ((dv).num) ((dv).den) 1 (2 : Nat)) ln cn tm se isI we br ma sf pa) ++ (mS cJ k aU aL uU uL)) H := hP
            have hD : va_D A ((mQ cI cZ k (muQ ((dv).num) ((dv).den) 1 (2 : Nat)) ln cn tm se isI we br ma sf pa) ++ (mS cJ k aU aL uU uL)) := hD
            exact retM_v (S := Rat) (post := fun u => u = (m_due we br ma w dv)) (w2 := fun u => (mQ cI cZ k u ln cn tm se isI we br ma sf pa) ++ (mS cJ k aU aL uU uL)) (muQ ((dv).num) ((dv).den) 1 (2 : Nat)) hx hb hr hlocks (by simp only [m_due, c_37, c_52, c_61, c_88, c_103, ↓reduceIte, Bool.false_eq_true, i10]) hP hK hD hS dX4_findDue_117
  · refine lv_aload_n hx hb dX4_findDue_40 rfl (lv_at hl 1 rfl) ?_
    refine lv_lconst (v := iL 0) hx hb dX4_findDue_41 rfl ?_
    refine lv_lconst (v := iL 1) hx hb dX4_findDue_42 rfl ?_
    refine fM_v (wc := mQ cI cZ k dv ln cn tm se isI we br ma sf pa) (wr := mS cJ k aU aL uU uL) (rMV (wc := mQ cI cZ k dv ln cn tm se isI we br ma sf pa) (As := [.long (iL 0), .long (iL 1)]) (rest := []) ⟨hx, hb, hml, hown, hT⟩ (c_X4_makes (l := l) H.size 0 1 rng_0 (by decide) rng_1) (cwTV 2 hT kc_X4_makes km_X4_78 ki_X4_makes ks_X4_makes kn_X4 rfl rfl md_X4_makes ⟨Nat.le_of_ble_eq_true rfl, Nat.le_of_ble_eq_true rfl⟩) (va_P.sub (ws' := mQ cI cZ k dv ln cn tm se isI we br ma sf pa) hP [0, 1, 2, 3, 4, 5, 6, 7] rfl) (va_D.sub (ws' := mQ cI cZ k dv ln cn tm se isI we br ma sf pa) hD [0, 1, 2, 3, 4, 5, 6, 7] (by decide) rfl) hK (va_recv hK hP (ci := 4) (q0 := 0) rfl rfl) rfl hl.1 rfl (Nat.le_of_ble_eq_true rfl) dX4_findDue_43 ⟨Nat.le_of_ble_eq_true rfl, Nat.le_of_ble_eq_true rfl⟩) hP hD hS hA (fun u_43 H locs hw_43 hP hD hS => ?_)
    have hP : va_P (dC, dI) vwCl ((mQ cI cZ k (Rat.divInt 0 1) ln cn tm se isI we br ma sf pa) ++ (mS cJ k aU aL uU uL)) H := hP
    have hD : va_D A ((mQ cI cZ k (Rat.divInt 0 1) ln cn tm se isI we br ma sf pa) ++ (mS cJ k aU aL uU uL)) := hD
    refine lv_goto (tgt := 117) hx hb dX4_findDue_46 (by decide) ?_
    exact retM_v (S := Rat) (post := fun u => u = (m_due we br ma w dv)) (w2 := fun u => (mQ cI cZ k u ln cn tm se isI we br ma sf pa) ++ (mS cJ k aU aL uU uL)) (Rat.divInt 0 1) hx hb hr hlocks (by simp only [m_due, c_37, ↓reduceIte, Bool.false_eq_true, i10]) hP hK hD hS dX4_findDue_117
set_option maxHeartbeats 4000000 in
set_option maxRecDepth 100000 in
theorem c_X4_findGets (sz : Nat) (hok : m_ok ln cn isI we br ma sf) : Met l yX4_findGets (wT yX4_findGets cX4_findGets 4 none) ({ frames := 5, cells := 0, slots := 0, locals := 136 }) (pM (dC, dI) (ty3 cI cJ cZ) ((mQ cI cZ k r ln cn tm se isI we br ma sf pa) ++ (mS cJ k aU aL uU uL)) [.ref (k 0)] sz) (va_Qv (S := Unit) (fun _ => True) (fun u t9 => bM (dC, dI) (ty3 cI cJ cZ) (va_A ((mQ cI cZ k r ln cn tm se isI we br ma sf pa) ++ (mS cJ k aU aL uU uL)) sz) ((mQ cI cZ k ((m_duN ln cn se isI we br ma sf 6) + iQ (m_seN isI ma sf 6)) ln cn tm se isI we br ma sf pa) ++ (mS cJ k (vp_updL (vp_updL (vp_updL (vp_updL (vp_updL aU 0 (iL (m_ent ln cn se isI we).num)) 1 (iL (m_crN ln cn se isI we ma sf 6).num)) 2 (iL (m_re ln cn se isI we ma sf).num)) 4 (iL (m_duN ln cn se isI we br ma sf 6).num)) 3 (iL ((m_re ln cn se isI we ma sf) - (m_duN ln cn se isI we br ma sf 6)).num)) (vp_updL (vp_updL (vp_updL (vp_updL (vp_updL aL 0 (iL ((m_ent ln cn se isI we).den : Int))) 1 (iL ((m_crN ln cn se isI we ma sf 6).den : Int))) 2 (iL ((m_re ln cn se isI we ma sf).den : Int))) 4 (iL ((m_duN ln cn se isI we br ma sf 6).den : Int))) 3 (iL (((m_re ln cn se isI we ma sf) - (m_duN ln cn se isI we br ma sf 6)).den : Int))) (m_uUN ln cn se isI we br ma sf uU 6) (m_uLN ln cn se isI we br ma sf uL 6))) t9) (va_A ((mQ cI cZ k r ln cn tm se isI we br ma sf pa) ++ (mS cJ k aU aL uU uL)) sz)) 0 0 (va_A ((mQ cI cZ k r ln cn tm se isI we br ma sf pa) ++ (mS cJ k aU aL uU uL)) sz) := by
  refine Met.ofW (cc := cX4_findGets) (maxL := 4) (ret := none) (by decide) rfl ?_
  intro p e s m args below meth c s₁ B hml hv
  obtain ⟨rfl, hsz, hP, hK, hD0⟩ := hv
  have hx := B.exec
  have hb := B.bytes
  have hr := B.returns
  have hts := atoms_spec (ws := wT yX4_findGets cX4_findGets 4 none) B.pre
  have hT := wT_T hts
  have hown : s.vm.findClass RX4 = some m.cls := findClass_of_methodNamed B.named
  have hlocks := B.notSynchronized
  subst hsz
  have hD := hD0.self (sz := s.heap.size)
  generalize hAe : va_A ((mQ cI cZ k r ln cn tm se isI we br ma sf pa) ++ (mS cJ k aU aL uU uL)) s.heap.size = A at hD ⊢
  have hA : ∀ q : Nat, s.heap.size ≤ q → A q := fun q h => by rw [← hAe]; exact Or.inr h
  have hS : va_S A s.heap s.heap [] := va_S.rf
  have hl := lv_entry ([.ref (k 0)]) (n := 4) (Nat.le_of_ble_eq_true rfl)
  rw [lg_entry_eq]
  generalize (lg_sl ([.ref (k 0)]) ++ List.replicate (4 - (lg_sl ([.ref (k 0)])).length) Slot.unset).toArray = ls at hl ⊢
  have hl : lv_has ls 4 [(0, .ref (k 0))] := hl
  refine lv_aload_n hx hb dX4_findGets_0 rfl (lv_at hl 0 rfl) ?_
  refine fM_v (wc := (mQ cI cZ k r ln cn tm se isI we br ma sf pa) ++ (mS cJ k aU aL uU uL)) (wr := []) (rMV (wc := (mQ cI cZ k r ln cn tm se isI we br ma sf pa) ++ (mS cJ k aU aL uU uL)) (As := []) (rest := []) ⟨hx, hb, hml, hown, hT⟩ (c_X4_findDues (l := l) s.heap.size hok) (cwTV 0 hT kc_X4_findDues km_X4_154 ki_X4_findDues ks_X4_findDues kn_X4 rfl rfl md_X4_findDues ⟨Nat.le_of_ble_eq_true rfl, Nat.le_of_ble_eq_true rfl⟩) hP hD hK (va_recv hK hP (ci := 4) (q0 := 0) rfl rfl) rfl hl.1 rfl (Nat.le_of_ble_eq_true rfl) dX4_findGets_1 ⟨Nat.le_of_ble_eq_true rfl, Nat.le_of_ble_eq_true rfl⟩) hP hD hS hA (fun u_1 H locs hw_1 hP hD hS => ?_)
  have hP : va_P (dC, dI) vwCl ((mQ cI cZ k ((m_re ln cn se isI we ma sf) - (m_duN ln cn se isI we br ma sf 6)) ln cn tm se isI we br ma sf pa) ++ (mS cJ k (vp_updL (vp_updL (vp_updL (vp_updL (vp_updL aU 0 (iL (m_ent ln cn se isI we).num)) 1 (iL (m_crN ln cn se isI we ma sf 6).num)) 2 (iL (m_re ln cn se isI we ma sf).num)) 4 (iL (m_duN ln cn se isI we br ma sf 6).num)) 3 (iL ((m_re ln cn se isI we ma sf) - (m_duN ln cn se isI we br ma sf 6)).num)) (vp_updL (vp_updL (vp_updL (vp_updL (vp_updL aL 0 (iL ((m_ent ln cn se isI we).den : Int))) 1 (iL ((m_crN ln cn se isI we ma sf 6).den : Int))) 2 (iL ((m_re ln cn se isI we ma sf).den : Int))) 4 (iL ((m_duN ln cn se isI we br ma sf 6).den : Int))) 3 (iL (((m_re ln cn se isI we ma sf) - (m_duN ln cn se isI we br ma sf 6)).den : Int))) (m_uUN ln cn se isI we br ma sf uU 6) (m_uLN ln cn se isI we br ma sf uL 6))) H := hP
  have hD : va_D A ((mQ cI cZ k ((m_re ln cn se isI we ma sf) - (m_duN ln cn se isI we br ma sf 6)) ln cn tm se isI we br ma sf pa) ++ (mS cJ k (vp_updL (vp_updL (vp_updL (vp_updL (vp_updL aU 0 (iL (m_ent ln cn se isI we).num)) 1 (iL (m_crN ln cn se isI we ma sf 6).num)) 2 (iL (m_re ln cn se isI we ma sf).num)) 4 (iL (m_duN ln cn se isI we br ma sf 6).num)) 3 (iL ((m_re ln cn se isI we ma sf) - (m_duN ln cn se isI we br ma sf 6)).num)) (vp_updL (vp_updL (vp_updL (vp_updL (vp_updL aL 0 (iL ((m_ent ln cn se isI we).den : Int))) 1 (iL ((m_crN ln cn se isI we ma sf 6).den : Int))) 2 (iL ((m_re ln cn se isI we ma sf).den : Int))) 4 (iL ((m_duN ln cn se isI we br ma sf 6).den : Int))) 3 (iL (((m_re ln cn se isI we ma sf) - (m_duN ln cn se isI we br ma sf 6)).den : Int))) (m_uUN ln cn se isI we br ma sf uU 6) (m_uLN ln cn se isI we br ma sf uL 6))) := hD
  refine lv_lconst (v := iL 0) hx hb dX4_findGets_4 rfl ?_
  refine lv_lstore_n (lv' := [(1, .long (iL 0)), (0, .ref (k 0))]) hx hb dX4_findGets_5 rfl hl (by decide) rfl (fun ls hl => ?_)
  refine lv_iconst (v := 0) hx hb dX4_findGets_6 (by decide) ?_
  refine lv_istore_n (lv' := [(3, .int 0), (1, .long (iL 0)), (0, .ref (k 0))]) hx hb dX4_findGets_7 rfl hl (by decide) rfl (fun ls hl => ?_)
  refine loopR 6 (fun i ls => lv_has ls 4 [(3, .int (nI i)), (1, .long (iL (m_seN isI ma sf i))), (0, .ref (k 0))]) (i0 := 0) (Nat.zero_le _) (lv_sub hl [0, 1, 2] rfl) (fun i ls hi hl ih => ?_) (fun ls hl => ?_)
  · refine lv_iload_n hx hb dX4_findGets_8 rfl (lv_at hl 0 rfl) ?_
    refine lv_bipush (v := 6) hx hb dX4_findGets_9 (by decide) ?_
    refine lv_icmp_ge (tgt := 53) hx hb dX4_findGets_11 (by decide) (fun h => absurd h (nI_ge (b := 6) hi (by decide))) (fun c_11 => ?_)
    refine lv_lload_n hx hb dX4_findGets_14 rfl (lv_at hl 1 rfl) ?_
    refine lv_aload_n hx hb dX4_findGets_15 rfl (lv_at hl 2 rfl) ?_
    refine lv_iload_n hx hb dX4_findGets_16 rfl (lv_at hl 0 rfl) ?_
    refine vp_callSi (rRV (As := [.int (nI i)]) (rest := [.long (iL (m_seN isI ma sf i))]) ⟨hx, hb, hml, hown, hT⟩ (c_X4_isUnit (l := l) i (by first | assumption | omega)) (cwTV 1 hT kc_X4_isUnit km_X4_113 ki_X4_isUnit ks_X4_isUnit kn_X4 rfl rfl md_X4_isUnit ⟨Nat.le_of_ble_eq_true rfl, Nat.le_of_ble_eq_true rfl⟩) (va_P.sub (ws' := mW cI cZ k (iL (((m_re ln cn se isI we ma sf) - (m_duN ln cn se isI we br ma sf 6))).num) (iL ((((m_re ln cn se isI we ma sf) - (m_duN ln cn se isI we br ma sf 6))).den : Int)) ln cn tm se isI we br ma sf pa) hP [0, 1, 2, 3, 4, 5, 6, 7] rfl) hK (va_recv hK hP (ci := 4) (q0 := 0) rfl rfl) rfl hl.1 rfl (Nat.le_of_ble_eq_true rfl) dX4_findGets_17 ⟨Nat.le_of_ble_eq_true rfl, Nat.le_of_ble_eq_true rfl⟩) (fun r_17 hw_17 => ?_)
    rcases hw_17 with ⟨rfl, hw_17⟩ | ⟨rfl, hw_17⟩
    · refine lv_if_eq (tgt := 44) hx hb dX4_findGets_20 (by decide) (fun h => absurd h (by decide)) (fun c_20 => ?_)
      refine lv_aload_n hx hb dX4_findGets_23 rfl (lv_at hl 2 rfl) ?_
      refine va_get (D := (dC, dI)) (ci := 4) (v := .ref (k 6)) (C := RX4) (T := TX4) (N := 22) hx hb hT hiX4 hown hK hP 0 rfl rfl 9 (by decide) (hT _ kf_X4_30) (fun _ h9 => h9) rfl dX4_findGets_24 ?_
      refine lv_iload_n hx hb dX4_findGets_27 rfl (lv_at hl 0 rfl) ?_
      refine ald_i hx hb hK hP 6 0 rfl rfl (by decide) (w := i) rfl (by omega) dX4_findGets_28 ?_
      refine lv_bipush (v := (-9)) hx hb dX4_findGets_29 (by decide) ?_
      refine lv_icmp_eq (tgt := 44) hx hb dX4_findGets_31 (by decide) (fun c_31 => ?_) (fun c_31 => ?_)
      · refine lv_lconst (v := iL 0) hx hb dX4_findGets_44 rfl ?_
        refine li_add hx hb (a := (m_seN isI ma sf i)) (b := 0) dX4_findGets_45 ?_
        refine lv_lstore_n (lv' := [(1, .long (iL ((m_seN isI ma sf i) + 0))), (3, .int (nI i)), (0, .ref (k 0))]) hx hb dX4_findGets_46 rfl hl (by decide) rfl (fun ls hl => ?_)
        refine lv_iinc (v := (nI (i + 1))) (lv' := [(3, .int (nI (i + 1))), (1, .long (iL ((m_seN isI ma sf i) + 0))), (0, .ref (k 0))]) hx hb dX4_findGets_47 hl (k := 1) rfl (nI_1 i) (by decide) rfl (fun ls hl => ?_)
        refine lv_goto (tgt := 8) hx hb dX4_findGets_50 (by decide) ?_
        have es0 : (iL ((m_seN isI ma sf i) + 0) : Int64) = (iL (m_seN isI ma sf (i + 1))) := (by first | exact congrArg iL (m_seN_p hw_17 c_31).symm | exact congrArg iL (m_seN_q hw_17 c_31).symm | exact congrArg iL (m_seN_n hw_17).symm)
        exact ih _ (by rw [← es0]; exact lv_sub hl [0, 1, 2] rfl)
      · refine lv_aload_n hx hb dX4_findGets_34 rfl (lv_at hl 2 rfl) ?_
        refine va_get (D := (dC, dI)) (ci := 4) (v := .ref (k 6)) (C := RX4) (T := TX4) (N := 22) hx hb hT hiX4 hown hK hP 0 rfl rfl 9 (by decide) (hT _ kf_X4_30) (fun _ h9 => h9) rfl dX4_findGets_35 ?_
        refine lv_iload_n hx hb dX4_findGets_38 rfl (lv_at hl 0 rfl) ?_
        refine ald_i hx hb hK hP 6 0 rfl rfl (by decide) (w := i) rfl (by omega) dX4_findGets_39 ?_
        refine lv_i2l (v := iL (sf i : Int32).toInt) hx hb dX4_findGets_40 rfl ?_
        refine lv_goto (tgt := 45) hx hb dX4_findGets_41 (by decide) ?_
        refine li_add hx hb (a := (m_seN isI ma sf i)) (b := ((sf i : Int32).toInt)) dX4_findGets_45 ?_
        refine lv_lstore_n (lv' := [(1, .long (iL ((m_seN isI ma sf i) + ((sf i : Int32).toInt)))), (3, .int (nI i)), (0, .ref (k 0))]) hx hb dX4_findGets_46 rfl hl (by decide) rfl (fun ls hl => ?_)
        refine lv_iinc (v := (nI (i + 1))) (lv' := [(3, .int (nI (i + 1))), (1, .long (iL ((m_seN isI ma sf i) + ((sf i : Int32).toInt)))), (0, .ref (k 0))]) hx hb dX4_findGets_47 hl (k := 1) rfl (nI_1 i) (by decide) rfl (fun ls hl => ?_)
        refine lv_goto (tgt := 8) hx hb dX4_findGets_50 (by decide) ?_
        have es0 : (iL ((m_seN isI ma sf i) + ((sf i : Int32).toInt)) : Int64) = (iL (m_seN isI ma sf (i + 1))) := (by first | exact congrArg iL (m_seN_p hw_17 c_31).symm | exact congrArg iL (m_seN_q hw_17 c_31).symm | exact congrArg iL (m_seN_n hw_17).symm)
        exact ih _ (by rw [← es0]; exact lv_sub hl [0, 1, 2] rfl)
    · refine lv_if_eq (tgt := 44) hx hb dX4_findGets_20 (by decide) (fun c_20 => ?_) (fun h => absurd h (by decide))
      refine lv_lconst (v := iL 0) hx hb dX4_findGets_44 rfl ?_
      refine li_add hx hb (a := (m_seN isI ma sf i)) (b := 0) dX4_findGets_45 ?_
      refine lv_lstore_n (lv' := [(1, .long (iL ((m_seN isI ma sf i) + 0))), (3, .int (nI i)), (0, .ref (k 0))]) hx hb dX4_findGets_46 rfl hl (by decide) rfl (fun ls hl => ?_)
      refine lv_iinc (v := (nI (i + 1))) (lv' := [(3, .int (nI (i + 1))), (1, .long (iL ((m_seN isI ma sf i) + 0))), (0, .ref (k 0))]) hx hb dX4_findGets_47 hl (k := 1) rfl (nI_1 i) (by decide) rfl (fun ls hl => ?_)
      refine lv_goto (tgt := 8) hx hb dX4_findGets_50 (by decide) ?_
      have es0 : (iL ((m_seN isI ma sf i) + 0) : Int64) = (iL (m_seN isI ma sf (i + 1))) := (by first | exact congrArg iL (m_seN_p hw_17 c_31).symm | exact congrArg iL (m_seN_q hw_17 c_31).symm | exact congrArg iL (m_seN_n hw_17).symm)
      exact ih _ (by rw [← es0]; exact lv_sub hl [0, 1, 2] rfl)
  · refine lv_iload_n hx hb dX4_findGets_8 rfl (lv_at hl 0 rfl) ?_
    refine lv_bipush (v := 6) hx hb dX4_findGets_9 (by decide) ?_
    refine lv_icmp_ge (tgt := 53) hx hb dX4_findGets_11 (by decide) (fun c_11 => ?_) (fun h => absurd h (by decide))
    refine lv_aload_n hx hb dX4_findGets_53 rfl (lv_at hl 2 rfl) ?_
    refine lv_aload_n hx hb dX4_findGets_54 rfl (lv_at hl 2 rfl) ?_
    refine va_get (D := (dC, dI)) (ci := 4) (v := .ref (k 8)) (C := RX4) (T := TX4) (N := 22) hx hb hT hiX4 hown hK hP 0 rfl rfl 11 (by decide) (hT _ kf_X4_36) (fun _ h9 => h9) rfl dX4_findGets_55 ?_
    refine lv_iconst (v := 4) hx hb dX4_findGets_58 (by decide) ?_
    refine ald_l hx hb hK hP 8 1 rfl rfl (by decide) (w := 4) rfl (by decide) dX4_findGets_59 ?_
    refine topl_eq (y := (iL (m_duN ln cn se isI we br ma sf 6).num)) rfl ?_
    refine lv_aload_n hx hb dX4_findGets_60 rfl (lv_at hl 2 rfl) ?_
    refine va_get (D := (dC, dI)) (ci := 4) (v := .ref (k 9)) (C := RX4) (T := TX4) (N := 22) hx hb hT hiX4 hown hK hP 0 rfl rfl 12 (by decide) (hT _ kf_X4_40) (fun _ h9 => h9) rfl dX4_findGets_61 ?_
    refine lv_iconst (v := 4) hx hb dX4_findGets_64 (by decide) ?_
    refine ald_l hx hb hK hP 9 1 rfl rfl (by decide) (w := 4) rfl (by decide) dX4_findGets_65 ?_
    refine topl_eq (y := (iL ((m_duN ln cn se isI we br ma sf 6).den : Int))) rfl ?_
    refine lv_lload_n hx hb dX4_findGets_66 rfl (lv_at hl 1 rfl) ?_
    refine lv_lconst (v := iL 1) hx hb dX4_findGets_67 rfl ?_
    refine topl_eq (y := (iL ((1 : Nat) : Int))) rfl ?_
    refine lv_lconst (v := iL 1) hx hb dX4_findGets_68 rfl ?_
    have hDb := m_DD_bd (se := se) hok
    have hC := m_duN_bd (se := se) hok 6 (Nat.le_refl _)
    have hCn := bd_nd hDb.1 hC.1
    have hs := m_seN_bd (isI := isI) (ma := ma) hok.2.2.2.2.1 6 (Nat.le_refl _)
    refine fM_v (wc := mQ cI cZ k ((m_re ln cn se isI we ma sf) - (m_duN ln cn se isI we br ma sf 6)) ln cn tm se isI we br ma sf pa) (wr := mS cJ k (vp_updL (vp_updL (vp_updL (vp_updL (vp_updL aU 0 (iL (m_ent ln cn se isI we).num)) 1 (iL (m_crN ln cn se isI we ma sf 6).num)) 2 (iL (m_re ln cn se isI we ma sf).num)) 4 (iL (m_duN ln cn se isI we br ma sf 6).num)) 3 (iL ((m_re ln cn se isI we ma sf) - (m_duN ln cn se isI we br ma sf 6)).num)) (vp_updL (vp_updL (vp_updL (vp_updL (vp_updL aL 0 (iL ((m_ent ln cn se isI we).den : Int))) 1 (iL ((m_crN ln cn se isI we ma sf 6).den : Int))) 2 (iL ((m_re ln cn se isI we ma sf).den : Int))) 4 (iL ((m_duN ln cn se isI we br ma sf 6).den : Int))) 3 (iL (((m_re ln cn se isI we ma sf) - (m_duN ln cn se isI we br ma sf 6)).den : Int))) (m_uUN ln cn se isI we br ma sf uU 6) (m_uLN ln cn se isI we br ma sf uL 6)) (rMV (wc := mQ cI cZ k ((m_re ln cn se isI we ma sf) - (m_duN ln cn se isI we br ma sf 6)) ln cn tm se isI we br ma sf pa) (As := [.long (iL (m_duN ln cn se isI we br ma sf 6).num), .long (iL ((m_duN ln cn se isI we br ma sf 6).den : Int)), .long (iL (m_seN isI ma sf 6)), .long (iL ((1 : Nat) : Int)), .long (iL 1)]) (rest := []) ⟨hx, hb, hml, hown, hT⟩ (c_X4_adds (l := l) H.size ((m_duN ln cn se isI we br ma sf 6).num) ((m_duN ln cn se isI we br ma sf 6).den) (m_seN isI ma sf 6) (1 : Nat) 1 (m_DD cn se isI we br ma sf) (6 * 2000000) 6000000 (Rat.den_pos _) (by decide) hDb.1 hCn.1 (Nat.one_dvd _) hCn.2 (by omega) (by omega) (by omega) (Or.inl rfl)) (cwTV 5 hT kc_X4_adds km_X4_128 ki_X4_adds ks_X4_adds kn_X4 rfl rfl md_X4_adds ⟨Nat.le_of_ble_eq_true rfl, Nat.le_of_ble_eq_true rfl⟩) (va_P.sub (ws' := mQ cI cZ k ((m_re ln cn se isI we ma sf) - (m_duN ln cn se isI we br ma sf 6)) ln cn tm se isI we br ma sf pa) hP [0, 1, 2, 3, 4, 5, 6, 7] rfl) (va_D.sub (ws' := mQ cI cZ k ((m_re ln cn se isI we ma sf) - (m_duN ln cn se isI we br ma sf 6)) ln cn tm se isI we br ma sf pa) hD [0, 1, 2, 3, 4, 5, 6, 7] (by decide) rfl) hK (va_recv hK hP (ci := 4) (q0 := 0) rfl rfl) rfl hl.1 rfl (Nat.le_of_ble_eq_true rfl) dX4_findGets_69 ⟨Nat.le_of_ble_eq_true rfl, Nat.le_of_ble_eq_true rfl⟩) hP hD hS hA (fun u_69 H locs hw_69 hP hD hS => ?_)
    have hP : va_P (dC, dI) vwCl ((mQ cI cZ k (adQ ((m_duN ln cn se isI we br ma sf 6).num) ((m_duN ln cn se isI we br ma sf 6).den) (m_seN isI ma sf 6) (1 : Nat) 1) ln cn tm se isI we br ma sf pa) ++ (mS cJ k (vp_updL (vp_updL (vp_updL (vp_updL (vp_updL aU 0 (iL (m_ent ln cn se isI we).num)) 1 (iL (m_crN ln cn se isI we ma sf 6).num)) 2 (iL (m_re ln cn se isI we ma sf).num)) 4 (iL (m_duN ln cn se isI we br ma sf 6).num)) 3 (iL ((m_re ln cn se isI we ma sf) - (m_duN ln cn se isI we br ma sf 6)).num)) (vp_updL (vp_updL (vp_updL (vp_updL (vp_updL aL 0 (iL ((m_ent ln cn se isI we).den : Int))) 1 (iL ((m_crN ln cn se isI we ma sf 6).den : Int))) 2 (iL ((m_re ln cn se isI we ma sf).den : Int))) 4 (iL ((m_duN ln cn se isI we br ma sf 6).den : Int))) 3 (iL (((m_re ln cn se isI we ma sf) - (m_duN ln cn se isI we br ma sf 6)).den : Int))) (m_uUN ln cn se isI we br ma sf uU 6) (m_uLN ln cn se isI we br ma sf uL 6))) H := hP
    have hD : va_D A ((mQ cI cZ k (adQ ((m_duN ln cn se isI we br ma sf 6).num) ((m_duN ln cn se isI we br ma sf 6).den) (m_seN isI ma sf 6) (1 : Nat) 1) ln cn tm se isI we br ma sf pa) ++ (mS cJ k (vp_updL (vp_updL (vp_updL (vp_updL (vp_updL aU 0 (iL (m_ent ln cn se isI we).num)) 1 (iL (m_crN ln cn se isI we ma sf 6).num)) 2 (iL (m_re ln cn se isI we ma sf).num)) 4 (iL (m_duN ln cn se isI we br ma sf 6).num)) 3 (iL ((m_re ln cn se isI we ma sf) - (m_duN ln cn se isI we br ma sf 6)).num)) (vp_updL (vp_updL (vp_updL (vp_updL (vp_updL aL 0 (iL ((m_ent ln cn se isI we).den : Int))) 1 (iL ((m_crN ln cn se isI we ma sf 6).den : Int))) 2 (iL ((m_re ln cn se isI we ma sf).den : Int))) 4 (iL ((m_duN ln cn se isI we br ma sf 6).den : Int))) 3 (iL (((m_re ln cn se isI we ma sf) - (m_duN ln cn se isI we br ma sf 6)).den : Int))) (m_uUN ln cn se isI we br ma sf uU 6) (m_uLN ln cn se isI we br ma sf uL 6))) := hD
    rw [show (adQ ((m_duN ln cn se isI we br ma sf 6).num) ((m_duN ln cn se isI we br ma sf 6).den) (m_seN isI ma sf 6) (1 : Nat) 1) = ((m_duN ln cn se isI we br ma sf 6) + iQ (m_seN isI ma sf 6)) from (adQ_w _ _)] at hP hD
    have hP : va_P (dC, dI) vwCl ((mQ cI cZ k ((m_duN ln cn se isI we br ma sf 6) + iQ (m_seN isI ma sf 6)) ln cn tm se isI we br ma sf pa) ++ (mS cJ k (vp_updL (vp_updL (vp_updL (vp_updL (vp_updL aU 0 (iL (m_ent ln cn se isI we).num)) 1 (iL (m_crN ln cn se isI we ma sf 6).num)) 2 (iL (m_re ln cn se isI we ma sf).num)) 4 (iL (m_duN ln cn se isI we br ma sf 6).num)) 3 (iL ((m_re ln cn se isI we ma sf) - (m_duN ln cn se isI we br ma sf 6)).num)) (vp_updL (vp_updL (vp_updL (vp_updL (vp_updL aL 0 (iL ((m_ent ln cn se isI we).den : Int))) 1 (iL ((m_crN ln cn se isI we ma sf 6).den : Int))) 2 (iL ((m_re ln cn se isI we ma sf).den : Int))) 4 (iL ((m_duN ln cn se isI we br ma sf 6).den : Int))) 3 (iL (((m_re ln cn se isI we ma sf) - (m_duN ln cn se isI we br ma sf 6)).den : Int))) (m_uUN ln cn se isI we br ma sf uU 6) (m_uLN ln cn se isI we br ma sf uL 6))) H := hP
    have hD : va_D A ((mQ cI cZ k ((m_duN ln cn se isI we br ma sf 6) + iQ (m_seN isI ma sf 6)) ln cn tm se isI we br ma sf pa) ++ (mS cJ k (vp_updL (vp_updL (vp_updL (vp_updL (vp_updL aU 0 (iL (m_ent ln cn se isI we).num)) 1 (iL (m_crN ln cn se isI we ma sf 6).num)) 2 (iL (m_re ln cn se isI we ma sf).num)) 4 (iL (m_duN ln cn se isI we br ma sf 6).num)) 3 (iL ((m_re ln cn se isI we ma sf) - (m_duN ln cn se isI we br ma sf 6)).num)) (vp_updL (vp_updL (vp_updL (vp_updL (vp_updL aL 0 (iL ((m_ent ln cn se isI we).den : Int))) 1 (iL ((m_crN ln cn se isI we ma sf 6).den : Int))) 2 (iL ((m_re ln cn se isI we ma sf).den : Int))) 4 (iL ((m_duN ln cn se isI we br ma sf 6).den : Int))) 3 (iL (((m_re ln cn se isI we ma sf) - (m_duN ln cn se isI we br ma sf 6)).den : Int))) (m_uUN ln cn se isI we br ma sf uU 6) (m_uLN ln cn se isI we br ma sf uL 6))) := hD
    exact retM_v (S := Unit) (post := fun _ => True) (w2 := fun u => (mQ cI cZ k ((m_duN ln cn se isI we br ma sf 6) + iQ (m_seN isI ma sf 6)) ln cn tm se isI we br ma sf pa) ++ (mS cJ k (vp_updL (vp_updL (vp_updL (vp_updL (vp_updL aU 0 (iL (m_ent ln cn se isI we).num)) 1 (iL (m_crN ln cn se isI we ma sf 6).num)) 2 (iL (m_re ln cn se isI we ma sf).num)) 4 (iL (m_duN ln cn se isI we br ma sf 6).num)) 3 (iL ((m_re ln cn se isI we ma sf) - (m_duN ln cn se isI we br ma sf 6)).num)) (vp_updL (vp_updL (vp_updL (vp_updL (vp_updL aL 0 (iL ((m_ent ln cn se isI we).den : Int))) 1 (iL ((m_crN ln cn se isI we ma sf 6).den : Int))) 2 (iL ((m_re ln cn se isI we ma sf).den : Int))) 4 (iL ((m_duN ln cn se isI we br ma sf 6).den : Int))) 3 (iL (((m_re ln cn se isI we ma sf) - (m_duN ln cn se isI we br ma sf 6)).den : Int))) (m_uUN ln cn se isI we br ma sf uU 6) (m_uLN ln cn se isI we br ma sf uL 6))) () hx hb hr hlocks trivial hP hK hD hS dX4_findGets_72
set_option maxHeartbeats 4000000 in
set_option maxRecDepth 100000 in
theorem c_X4_findGetsBy (sz : Nat) (mn sp : Int32) (hok : m_ok ln cn isI we br ma sf) : Met l yX4_findGetsBy (wT yX4_findGetsBy cX4_findGetsBy 5 none) ({ frames := 6, cells := 0, slots := 0, locals := 159 }) (pM (dC, dI) (ty3 cI cJ cZ) ((mQ cI cZ k r ln cn tm se isI we br ma sf pa) ++ (mS cJ k aU aL uU uL)) [.ref (k 0), .int mn, .int sp] sz) (va_Qv (S := Unit) (fun _ => True) (fun u t9 => bM (dC, dI) (ty3 cI cJ cZ) (va_A ((mQ cI cZ k r ln cn tm se isI we br ma sf pa) ++ (mS cJ k aU aL uU uL)) sz) ((mQ cI cZ k ((m_duN ln cn (upd (upd se 0 mn) 1 sp) isI we br ma sf 6) + iQ (m_seN isI ma sf 6)) ln cn tm se isI we br ma sf pa) ++ (mS cJ k (vp_updL (vp_updL (vp_updL (vp_updL (vp_updL aU 0 (iL (m_ent ln cn (upd (upd se 0 mn) 1 sp) isI we).num)) 1 (iL (m_crN ln cn (upd (upd se 0 mn) 1 sp) isI we ma sf 6).num)) 2 (iL (m_re ln cn (upd (upd se 0 mn) 1 sp) isI we ma sf).num)) 4 (iL (m_duN ln cn (upd (upd se 0 mn) 1 sp) isI we br ma sf 6).num)) 3 (iL ((m_re ln cn (upd (upd se 0 mn) 1 sp) isI we ma sf) - (m_duN ln cn (upd (upd se 0 mn) 1 sp) isI we br ma sf 6)).num)) (vp_updL (vp_updL (vp_updL (vp_updL (vp_updL aL 0 (iL ((m_ent ln cn (upd (upd se 0 mn) 1 sp) isI we).den : Int))) 1 (iL ((m_crN ln cn (upd (upd se 0 mn) 1 sp) isI we ma sf 6).den : Int))) 2 (iL ((m_re ln cn (upd (upd se 0 mn) 1 sp) isI we ma sf).den : Int))) 4 (iL ((m_duN ln cn (upd (upd se 0 mn) 1 sp) isI we br ma sf 6).den : Int))) 3 (iL (((m_re ln cn (upd (upd se 0 mn) 1 sp) isI we ma sf) - (m_duN ln cn (upd (upd se 0 mn) 1 sp) isI we br ma sf 6)).den : Int))) (m_uUN ln cn (upd (upd se 0 mn) 1 sp) isI we br ma sf uU 6) (m_uLN ln cn (upd (upd se 0 mn) 1 sp) isI we br ma sf uL 6))) t9) (va_A ((mQ cI cZ k r ln cn tm se isI we br ma sf pa) ++ (mS cJ k aU aL uU uL)) sz)) 0 0 (va_A ((mQ cI cZ k r ln cn tm se isI we br ma sf pa) ++ (mS cJ k aU aL uU uL)) sz) := by
  refine Met.ofW (cc := cX4_findGetsBy) (maxL := 5) (ret := none) (by decide) rfl ?_
  intro p e s m args below meth c s₁ B hml hv
  obtain ⟨rfl, hsz, hP, hK, hD0⟩ := hv
  have hx := B.exec
  have hb := B.bytes
  have hr := B.returns
  have hts := atoms_spec (ws := wT yX4_findGetsBy cX4_findGetsBy 5 none) B.pre
  have hT := wT_T hts
  have hown : s.vm.findClass RX4 = some m.cls := findClass_of_methodNamed B.named
  have hlocks := B.notSynchronized
  subst hsz
  have hD := hD0.self (sz := s.heap.size)
  generalize hAe : va_A ((mQ cI cZ k r ln cn tm se isI we br ma sf pa) ++ (mS cJ k aU aL uU uL)) s.heap.size = A at hD ⊢
  have hA : ∀ q : Nat, s.heap.size ≤ q → A q := fun q h => by rw [← hAe]; exact Or.inr h
  have hS : va_S A s.heap s.heap [] := va_S.rf
  have hl := lv_entry ([.ref (k 0), .int mn, .int sp]) (n := 5) (Nat.le_of_ble_eq_true rfl)
  rw [lg_entry_eq]
  generalize (lg_sl ([.ref (k 0), .int mn, .int sp]) ++ List.replicate (5 - (lg_sl ([.ref (k 0), .int mn, .int sp])).length) Slot.unset).toArray = ls at hl ⊢
  have hl : lv_has ls 5 [(0, .ref (k 0)), (1, .int mn), (2, .int sp)] := hl
  refine lv_aload_n hx hb dX4_findGetsBy_0 rfl (lv_at hl 0 rfl) ?_
  refine va_get (D := (dC, dI)) (ci := 4) (v := .ref (k 1)) (C := RX4) (T := TX4) (N := 22) hx hb hT hiX4 hown hK hP 0 rfl rfl 4 (by decide) (hT _ kf_X4_13) (fun _ h9 => h9) rfl dX4_findGetsBy_1 ?_
  refine lv_iconst (v := 0) hx hb dX4_findGetsBy_4 (by decide) ?_
  refine ald_i hx hb hK hP 1 0 rfl rfl (by decide) (w := 0) rfl (by decide) dX4_findGetsBy_5 ?_
  refine lv_istore_n (lv' := [(3, .int (se 0)), (0, .ref (k 0)), (1, .int mn), (2, .int sp)]) hx hb dX4_findGetsBy_6 rfl hl (by decide) rfl (fun ls hl => ?_)
  refine lv_aload_n hx hb dX4_findGetsBy_7 rfl (lv_at hl 1 rfl) ?_
  refine va_get (D := (dC, dI)) (ci := 4) (v := .ref (k 1)) (C := RX4) (T := TX4) (N := 22) hx hb hT hiX4 hown hK hP 0 rfl rfl 4 (by decide) (hT _ kf_X4_13) (fun _ h9 => h9) rfl dX4_findGetsBy_8 ?_
  refine lv_iconst (v := 1) hx hb dX4_findGetsBy_11 (by decide) ?_
  refine ald_i hx hb hK hP 1 0 rfl rfl (by decide) (w := 1) rfl (by decide) dX4_findGetsBy_12 ?_
  refine lv_istore (lv' := [(4, .int (se 1)), (3, .int (se 0)), (0, .ref (k 0)), (1, .int mn), (2, .int sp)]) hx hb dX4_findGetsBy_13 hl (by decide) rfl (fun ls hl => ?_)
  refine lv_aload_n hx hb dX4_findGetsBy_15 rfl (lv_at hl 2 rfl) ?_
  refine va_get (D := (dC, dI)) (ci := 4) (v := .ref (k 1)) (C := RX4) (T := TX4) (N := 22) hx hb hT hiX4 hown hK hP 0 rfl rfl 4 (by decide) (hT _ kf_X4_13) (fun _ h9 => h9) rfl dX4_findGetsBy_16 ?_
  refine lv_iconst (v := 0) hx hb dX4_findGetsBy_19 (by decide) ?_
  refine lv_iload_n hx hb dX4_findGetsBy_20 rfl (lv_at hl 3 rfl) ?_
  refine ast_i hx hb hK hP hD hS 1 0 rfl rfl (by decide) (w := 0) rfl (by decide) dX4_findGetsBy_21 (fun H locs hP hD hS => ?_)
  have hP : va_P (dC, dI) vwCl ((mQ cI cZ k r ln cn tm (upd se 0 mn) isI we br ma sf pa) ++ (mS cJ k aU aL uU uL)) H := hP
  have hD : va_D A ((mQ cI cZ k r ln cn tm (upd se 0 mn) isI we br ma sf pa) ++ (mS cJ k aU aL uU uL)) := hD
  refine lv_aload_n hx hb dX4_findGetsBy_22 rfl (lv_at hl 2 rfl) ?_
  refine va_get (D := (dC, dI)) (ci := 4) (v := .ref (k 1)) (C := RX4) (T := TX4) (N := 22) hx hb hT hiX4 hown hK hP 0 rfl rfl 4 (by decide) (hT _ kf_X4_13) (fun _ h9 => h9) rfl dX4_findGetsBy_23 ?_
  refine lv_iconst (v := 1) hx hb dX4_findGetsBy_26 (by decide) ?_
  refine lv_iload_n hx hb dX4_findGetsBy_27 rfl (lv_at hl 4 rfl) ?_
  refine ast_i hx hb hK hP hD hS 1 0 rfl rfl (by decide) (w := 1) rfl (by decide) dX4_findGetsBy_28 (fun H locs hP hD hS => ?_)
  have hP : va_P (dC, dI) vwCl ((mQ cI cZ k r ln cn tm (upd (upd se 0 mn) 1 sp) isI we br ma sf pa) ++ (mS cJ k aU aL uU uL)) H := hP
  have hD : va_D A ((mQ cI cZ k r ln cn tm (upd (upd se 0 mn) 1 sp) isI we br ma sf pa) ++ (mS cJ k aU aL uU uL)) := hD
  refine lv_aload_n hx hb dX4_findGetsBy_29 rfl (lv_at hl 2 rfl) ?_
  refine fM_v (wc := (mQ cI cZ k r ln cn tm (upd (upd se 0 mn) 1 sp) isI we br ma sf pa) ++ (mS cJ k aU aL uU uL)) (wr := []) (rMV (wc := (mQ cI cZ k r ln cn tm (upd (upd se 0 mn) 1 sp) isI we br ma sf pa) ++ (mS cJ k aU aL uU uL)) (As := []) (rest := []) ⟨hx, hb, hml, hown, hT⟩ (c_X4_findGets (l := l) H.size hok) (cwTV 0 hT kc_X4_findGets km_X4_169 ki_X4_findGets ks_X4_findGets kn_X4 rfl rfl md_X4_findGets ⟨Nat.le_of_ble_eq_true rfl, Nat.le_of_ble_eq_true rfl⟩) hP hD hK (va_recv hK hP (ci := 4) (q0 := 0) rfl rfl) rfl hl.1 rfl (Nat.le_of_ble_eq_true rfl) dX4_findGetsBy_30 ⟨Nat.le_of_ble_eq_true rfl, Nat.le_of_ble_eq_true rfl⟩) hP hD hS hA (fun u_30 H locs hw_30 hP hD hS => ?_)
  have hP : va_P (dC, dI) vwCl ((mQ cI cZ k ((m_duN ln cn (upd (upd se 0 mn) 1 sp) isI we br ma sf 6) + iQ (m_seN isI ma sf 6)) ln cn tm (upd (upd se 0 mn) 1 sp) isI we br ma sf pa) ++ (mS cJ k (vp_updL (vp_updL (vp_updL (vp_updL (vp_updL aU 0 (iL (m_ent ln cn (upd (upd se 0 mn) 1 sp) isI we).num)) 1 (iL (m_crN ln cn (upd (upd se 0 mn) 1 sp) isI we ma sf 6).num)) 2 (iL (m_re ln cn (upd (upd se 0 mn) 1 sp) isI we ma sf).num)) 4 (iL (m_duN ln cn (upd (upd se 0 mn) 1 sp) isI we br ma sf 6).num)) 3 (iL ((m_re ln cn (upd (upd se 0 mn) 1 sp) isI we ma sf) - (m_duN ln cn (upd (upd se 0 mn) 1 sp) isI we br ma sf 6)).num)) (vp_updL (vp_updL (vp_updL (vp_updL (vp_updL aL 0 (iL ((m_ent ln cn (upd (upd se 0 mn) 1 sp) isI we).den : Int))) 1 (iL ((m_crN ln cn (upd (upd se 0 mn) 1 sp) isI we ma sf 6).den : Int))) 2 (iL ((m_re ln cn (upd (upd se 0 mn) 1 sp) isI we ma sf).den : Int))) 4 (iL ((m_duN ln cn (upd (upd se 0 mn) 1 sp) isI we br ma sf 6).den : Int))) 3 (iL (((m_re ln cn (upd (upd se 0 mn) 1 sp) isI we ma sf) - (m_duN ln cn (upd (upd se 0 mn) 1 sp) isI we br ma sf 6)).den : Int))) (m_uUN ln cn (upd (upd se 0 mn) 1 sp) isI we br ma sf uU 6) (m_uLN ln cn (upd (upd se 0 mn) 1 sp) isI we br ma sf uL 6))) H := hP
  have hD : va_D A ((mQ cI cZ k ((m_duN ln cn (upd (upd se 0 mn) 1 sp) isI we br ma sf 6) + iQ (m_seN isI ma sf 6)) ln cn tm (upd (upd se 0 mn) 1 sp) isI we br ma sf pa) ++ (mS cJ k (vp_updL (vp_updL (vp_updL (vp_updL (vp_updL aU 0 (iL (m_ent ln cn (upd (upd se 0 mn) 1 sp) isI we).num)) 1 (iL (m_crN ln cn (upd (upd se 0 mn) 1 sp) isI we ma sf 6).num)) 2 (iL (m_re ln cn (upd (upd se 0 mn) 1 sp) isI we ma sf).num)) 4 (iL (m_duN ln cn (upd (upd se 0 mn) 1 sp) isI we br ma sf 6).num)) 3 (iL ((m_re ln cn (upd (upd se 0 mn) 1 sp) isI we ma sf) - (m_duN ln cn (upd (upd se 0 mn) 1 sp) isI we br ma sf 6)).num)) (vp_updL (vp_updL (vp_updL (vp_updL (vp_updL aL 0 (iL ((m_ent ln cn (upd (upd se 0 mn) 1 sp) isI we).den : Int))) 1 (iL ((m_crN ln cn (upd (upd se 0 mn) 1 sp) isI we ma sf 6).den : Int))) 2 (iL ((m_re ln cn (upd (upd se 0 mn) 1 sp) isI we ma sf).den : Int))) 4 (iL ((m_duN ln cn (upd (upd se 0 mn) 1 sp) isI we br ma sf 6).den : Int))) 3 (iL (((m_re ln cn (upd (upd se 0 mn) 1 sp) isI we ma sf) - (m_duN ln cn (upd (upd se 0 mn) 1 sp) isI we br ma sf 6)).den : Int))) (m_uUN ln cn (upd (upd se 0 mn) 1 sp) isI we br ma sf uU 6) (m_uLN ln cn (upd (upd se 0 mn) 1 sp) isI we br ma sf uL 6))) := hD
  refine lv_aload_n hx hb dX4_findGetsBy_33 rfl (lv_at hl 2 rfl) ?_
  refine va_get (D := (dC, dI)) (ci := 4) (v := .ref (k 1)) (C := RX4) (T := TX4) (N := 22) hx hb hT hiX4 hown hK hP 0 rfl rfl 4 (by decide) (hT _ kf_X4_13) (fun _ h9 => h9) rfl dX4_findGetsBy_34 ?_
  refine lv_iconst (v := 0) hx hb dX4_findGetsBy_37 (by decide) ?_
  refine lv_iload_n hx hb dX4_findGetsBy_38 rfl (lv_at hl 1 rfl) ?_
  refine ast_i hx hb hK hP hD hS 1 0 rfl rfl (by decide) (w := 0) rfl (by decide) dX4_findGetsBy_39 (fun H locs hP hD hS => ?_)
  have hP : va_P (dC, dI) vwCl ((mQ cI cZ k ((m_duN ln cn (upd (upd se 0 mn) 1 sp) isI we br ma sf 6) + iQ (m_seN isI ma sf 6)) ln cn tm (upd (upd (upd se 0 mn) 1 sp) 0 (se 0)) isI we br ma sf pa) ++ (mS cJ k (vp_updL (vp_updL (vp_updL (vp_updL (vp_updL aU 0 (iL (m_ent ln cn (upd (upd se 0 mn) 1 sp) isI we).num)) 1 (iL (m_crN ln cn (upd (upd se 0 mn) 1 sp) isI we ma sf 6).num)) 2 (iL (m_re ln cn (upd (upd se 0 mn) 1 sp) isI we ma sf).num)) 4 (iL (m_duN ln cn (upd (upd se 0 mn) 1 sp) isI we br ma sf 6).num)) 3 (iL ((m_re ln cn (upd (upd se 0 mn) 1 sp) isI we ma sf) - (m_duN ln cn (upd (upd se 0 mn) 1 sp) isI we br ma sf 6)).num)) (vp_updL (vp_updL (vp_updL (vp_updL (vp_updL aL 0 (iL ((m_ent ln cn (upd (upd se 0 mn) 1 sp) isI we).den : Int))) 1 (iL ((m_crN ln cn (upd (upd se 0 mn) 1 sp) isI we ma sf 6).den : Int))) 2 (iL ((m_re ln cn (upd (upd se 0 mn) 1 sp) isI we ma sf).den : Int))) 4 (iL ((m_duN ln cn (upd (upd se 0 mn) 1 sp) isI we br ma sf 6).den : Int))) 3 (iL (((m_re ln cn (upd (upd se 0 mn) 1 sp) isI we ma sf) - (m_duN ln cn (upd (upd se 0 mn) 1 sp) isI we br ma sf 6)).den : Int))) (m_uUN ln cn (upd (upd se 0 mn) 1 sp) isI we br ma sf uU 6) (m_uLN ln cn (upd (upd se 0 mn) 1 sp) isI we br ma sf uL 6))) H := hP
  have hD : va_D A ((mQ cI cZ k ((m_duN ln cn (upd (upd se 0 mn) 1 sp) isI we br ma sf 6) + iQ (m_seN isI ma sf 6)) ln cn tm (upd (upd (upd se 0 mn) 1 sp) 0 (se 0)) isI we br ma sf pa) ++ (mS cJ k (vp_updL (vp_updL (vp_updL (vp_updL (vp_updL aU 0 (iL (m_ent ln cn (upd (upd se 0 mn) 1 sp) isI we).num)) 1 (iL (m_crN ln cn (upd (upd se 0 mn) 1 sp) isI we ma sf 6).num)) 2 (iL (m_re ln cn (upd (upd se 0 mn) 1 sp) isI we ma sf).num)) 4 (iL (m_duN ln cn (upd (upd se 0 mn) 1 sp) isI we br ma sf 6).num)) 3 (iL ((m_re ln cn (upd (upd se 0 mn) 1 sp) isI we ma sf) - (m_duN ln cn (upd (upd se 0 mn) 1 sp) isI we br ma sf 6)).num)) (vp_updL (vp_updL (vp_updL (vp_updL (vp_updL aL 0 (iL ((m_ent ln cn (upd (upd se 0 mn) 1 sp) isI we).den : Int))) 1 (iL ((m_crN ln cn (upd (upd se 0 mn) 1 sp) isI we ma sf 6).den : Int))) 2 (iL ((m_re ln cn (upd (upd se 0 mn) 1 sp) isI we ma sf).den : Int))) 4 (iL ((m_duN ln cn (upd (upd se 0 mn) 1 sp) isI we br ma sf 6).den : Int))) 3 (iL (((m_re ln cn (upd (upd se 0 mn) 1 sp) isI we ma sf) - (m_duN ln cn (upd (upd se 0 mn) 1 sp) isI we br ma sf 6)).den : Int))) (m_uUN ln cn (upd (upd se 0 mn) 1 sp) isI we br ma sf uU 6) (m_uLN ln cn (upd (upd se 0 mn) 1 sp) isI we br ma sf uL 6))) := hD
  refine lv_aload_n hx hb dX4_findGetsBy_40 rfl (lv_at hl 2 rfl) ?_
  refine va_get (D := (dC, dI)) (ci := 4) (v := .ref (k 1)) (C := RX4) (T := TX4) (N := 22) hx hb hT hiX4 hown hK hP 0 rfl rfl 4 (by decide) (hT _ kf_X4_13) (fun _ h9 => h9) rfl dX4_findGetsBy_41 ?_
  refine lv_iconst (v := 1) hx hb dX4_findGetsBy_44 (by decide) ?_
  refine lv_iload hx hb dX4_findGetsBy_45 (lv_at hl 0 rfl) ?_
  refine ast_i hx hb hK hP hD hS 1 0 rfl rfl (by decide) (w := 1) rfl (by decide) dX4_findGetsBy_47 (fun H locs hP hD hS => ?_)
  have hP : va_P (dC, dI) vwCl ((mQ cI cZ k ((m_duN ln cn (upd (upd se 0 mn) 1 sp) isI we br ma sf 6) + iQ (m_seN isI ma sf 6)) ln cn tm (upd (upd (upd (upd se 0 mn) 1 sp) 0 (se 0)) 1 (se 1)) isI we br ma sf pa) ++ (mS cJ k (vp_updL (vp_updL (vp_updL (vp_updL (vp_updL aU 0 (iL (m_ent ln cn (upd (upd se 0 mn) 1 sp) isI we).num)) 1 (iL (m_crN ln cn (upd (upd se 0 mn) 1 sp) isI we ma sf 6).num)) 2 (iL (m_re ln cn (upd (upd se 0 mn) 1 sp) isI we ma sf).num)) 4 (iL (m_duN ln cn (upd (upd se 0 mn) 1 sp) isI we br ma sf 6).num)) 3 (iL ((m_re ln cn (upd (upd se 0 mn) 1 sp) isI we ma sf) - (m_duN ln cn (upd (upd se 0 mn) 1 sp) isI we br ma sf 6)).num)) (vp_updL (vp_updL (vp_updL (vp_updL (vp_updL aL 0 (iL ((m_ent ln cn (upd (upd se 0 mn) 1 sp) isI we).den : Int))) 1 (iL ((m_crN ln cn (upd (upd se 0 mn) 1 sp) isI we ma sf 6).den : Int))) 2 (iL ((m_re ln cn (upd (upd se 0 mn) 1 sp) isI we ma sf).den : Int))) 4 (iL ((m_duN ln cn (upd (upd se 0 mn) 1 sp) isI we br ma sf 6).den : Int))) 3 (iL (((m_re ln cn (upd (upd se 0 mn) 1 sp) isI we ma sf) - (m_duN ln cn (upd (upd se 0 mn) 1 sp) isI we br ma sf 6)).den : Int))) (m_uUN ln cn (upd (upd se 0 mn) 1 sp) isI we br ma sf uU 6) (m_uLN ln cn (upd (upd se 0 mn) 1 sp) isI we br ma sf uL 6))) H := hP
  have hD : va_D A ((mQ cI cZ k ((m_duN ln cn (upd (upd se 0 mn) 1 sp) isI we br ma sf 6) + iQ (m_seN isI ma sf 6)) ln cn tm (upd (upd (upd (upd se 0 mn) 1 sp) 0 (se 0)) 1 (se 1)) isI we br ma sf pa) ++ (mS cJ k (vp_updL (vp_updL (vp_updL (vp_updL (vp_updL aU 0 (iL (m_ent ln cn (upd (upd se 0 mn) 1 sp) isI we).num)) 1 (iL (m_crN ln cn (upd (upd se 0 mn) 1 sp) isI we ma sf 6).num)) 2 (iL (m_re ln cn (upd (upd se 0 mn) 1 sp) isI we ma sf).num)) 4 (iL (m_duN ln cn (upd (upd se 0 mn) 1 sp) isI we br ma sf 6).num)) 3 (iL ((m_re ln cn (upd (upd se 0 mn) 1 sp) isI we ma sf) - (m_duN ln cn (upd (upd se 0 mn) 1 sp) isI we br ma sf 6)).num)) (vp_updL (vp_updL (vp_updL (vp_updL (vp_updL aL 0 (iL ((m_ent ln cn (upd (upd se 0 mn) 1 sp) isI we).den : Int))) 1 (iL ((m_crN ln cn (upd (upd se 0 mn) 1 sp) isI we ma sf 6).den : Int))) 2 (iL ((m_re ln cn (upd (upd se 0 mn) 1 sp) isI we ma sf).den : Int))) 4 (iL ((m_duN ln cn (upd (upd se 0 mn) 1 sp) isI we br ma sf 6).den : Int))) 3 (iL (((m_re ln cn (upd (upd se 0 mn) 1 sp) isI we ma sf) - (m_duN ln cn (upd (upd se 0 mn) 1 sp) isI we br ma sf 6)).den : Int))) (m_uUN ln cn (upd (upd se 0 mn) 1 sp) isI we br ma sf uU 6) (m_uLN ln cn (upd (upd se 0 mn) 1 sp) isI we br ma sf uL 6))) := hD
  rw [se_back] at hP hD
  have hP : va_P (dC, dI) vwCl ((mQ cI cZ k ((m_duN ln cn (upd (upd se 0 mn) 1 sp) isI we br ma sf 6) + iQ (m_seN isI ma sf 6)) ln cn tm se isI we br ma sf pa) ++ (mS cJ k (vp_updL (vp_updL (vp_updL (vp_updL (vp_updL aU 0 (iL (m_ent ln cn (upd (upd se 0 mn) 1 sp) isI we).num)) 1 (iL (m_crN ln cn (upd (upd se 0 mn) 1 sp) isI we ma sf 6).num)) 2 (iL (m_re ln cn (upd (upd se 0 mn) 1 sp) isI we ma sf).num)) 4 (iL (m_duN ln cn (upd (upd se 0 mn) 1 sp) isI we br ma sf 6).num)) 3 (iL ((m_re ln cn (upd (upd se 0 mn) 1 sp) isI we ma sf) - (m_duN ln cn (upd (upd se 0 mn) 1 sp) isI we br ma sf 6)).num)) (vp_updL (vp_updL (vp_updL (vp_updL (vp_updL aL 0 (iL ((m_ent ln cn (upd (upd se 0 mn) 1 sp) isI we).den : Int))) 1 (iL ((m_crN ln cn (upd (upd se 0 mn) 1 sp) isI we ma sf 6).den : Int))) 2 (iL ((m_re ln cn (upd (upd se 0 mn) 1 sp) isI we ma sf).den : Int))) 4 (iL ((m_duN ln cn (upd (upd se 0 mn) 1 sp) isI we br ma sf 6).den : Int))) 3 (iL (((m_re ln cn (upd (upd se 0 mn) 1 sp) isI we ma sf) - (m_duN ln cn (upd (upd se 0 mn) 1 sp) isI we br ma sf 6)).den : Int))) (m_uUN ln cn (upd (upd se 0 mn) 1 sp) isI we br ma sf uU 6) (m_uLN ln cn (upd (upd se 0 mn) 1 sp) isI we br ma sf uL 6))) H := hP
  have hD : va_D A ((mQ cI cZ k ((m_duN ln cn (upd (upd se 0 mn) 1 sp) isI we br ma sf 6) + iQ (m_seN isI ma sf 6)) ln cn tm se isI we br ma sf pa) ++ (mS cJ k (vp_updL (vp_updL (vp_updL (vp_updL (vp_updL aU 0 (iL (m_ent ln cn (upd (upd se 0 mn) 1 sp) isI we).num)) 1 (iL (m_crN ln cn (upd (upd se 0 mn) 1 sp) isI we ma sf 6).num)) 2 (iL (m_re ln cn (upd (upd se 0 mn) 1 sp) isI we ma sf).num)) 4 (iL (m_duN ln cn (upd (upd se 0 mn) 1 sp) isI we br ma sf 6).num)) 3 (iL ((m_re ln cn (upd (upd se 0 mn) 1 sp) isI we ma sf) - (m_duN ln cn (upd (upd se 0 mn) 1 sp) isI we br ma sf 6)).num)) (vp_updL (vp_updL (vp_updL (vp_updL (vp_updL aL 0 (iL ((m_ent ln cn (upd (upd se 0 mn) 1 sp) isI we).den : Int))) 1 (iL ((m_crN ln cn (upd (upd se 0 mn) 1 sp) isI we ma sf 6).den : Int))) 2 (iL ((m_re ln cn (upd (upd se 0 mn) 1 sp) isI we ma sf).den : Int))) 4 (iL ((m_duN ln cn (upd (upd se 0 mn) 1 sp) isI we br ma sf 6).den : Int))) 3 (iL (((m_re ln cn (upd (upd se 0 mn) 1 sp) isI we ma sf) - (m_duN ln cn (upd (upd se 0 mn) 1 sp) isI we br ma sf 6)).den : Int))) (m_uUN ln cn (upd (upd se 0 mn) 1 sp) isI we br ma sf uU 6) (m_uLN ln cn (upd (upd se 0 mn) 1 sp) isI we br ma sf uL 6))) := hD
  exact retM_v (S := Unit) (post := fun _ => True) (w2 := fun u => (mQ cI cZ k ((m_duN ln cn (upd (upd se 0 mn) 1 sp) isI we br ma sf 6) + iQ (m_seN isI ma sf 6)) ln cn tm se isI we br ma sf pa) ++ (mS cJ k (vp_updL (vp_updL (vp_updL (vp_updL (vp_updL aU 0 (iL (m_ent ln cn (upd (upd se 0 mn) 1 sp) isI we).num)) 1 (iL (m_crN ln cn (upd (upd se 0 mn) 1 sp) isI we ma sf 6).num)) 2 (iL (m_re ln cn (upd (upd se 0 mn) 1 sp) isI we ma sf).num)) 4 (iL (m_duN ln cn (upd (upd se 0 mn) 1 sp) isI we br ma sf 6).num)) 3 (iL ((m_re ln cn (upd (upd se 0 mn) 1 sp) isI we ma sf) - (m_duN ln cn (upd (upd se 0 mn) 1 sp) isI we br ma sf 6)).num)) (vp_updL (vp_updL (vp_updL (vp_updL (vp_updL aL 0 (iL ((m_ent ln cn (upd (upd se 0 mn) 1 sp) isI we).den : Int))) 1 (iL ((m_crN ln cn (upd (upd se 0 mn) 1 sp) isI we ma sf 6).den : Int))) 2 (iL ((m_re ln cn (upd (upd se 0 mn) 1 sp) isI we ma sf).den : Int))) 4 (iL ((m_duN ln cn (upd (upd se 0 mn) 1 sp) isI we br ma sf 6).den : Int))) 3 (iL (((m_re ln cn (upd (upd se 0 mn) 1 sp) isI we ma sf) - (m_duN ln cn (upd (upd se 0 mn) 1 sp) isI we br ma sf 6)).den : Int))) (m_uUN ln cn (upd (upd se 0 mn) 1 sp) isI we br ma sf uU 6) (m_uLN ln cn (upd (upd se 0 mn) 1 sp) isI we br ma sf uL 6))) () hx hb hr hlocks trivial hP hK hD hS dX4_findGetsBy_48
