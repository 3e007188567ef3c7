set_option maxHeartbeats 4000000 in
set_option maxRecDepth 100000 in
/-- THE LAW'S LOOP -/
theorem law_loop {p : Program} {l : Launch} {e : Env} {s : State} {m : MethodId} {below : List Frame} {meth : Method} {c : Code} {dC : Nat → ClassId} {dI : Nat → Nat → Nat} {cI cJ cZ : ClassId} {b L : Nat} {xs : Nat → Int32} (hL : L ≤ 2048) (C0 : lw_At p s m meth c b L xs) (hK : va_K (dC, dI) vwCl (ty3 cI cJ cZ) s) (hSM : SMf (fun q : Nat => s.heap.size ≤ q) s) {q k : Nat → Nat} :
    ∀ (n j i : Nat), i = 4 * j → L ≤ i + 4 * n + 3 → j ≤ 512 → ∀ (H : Heap) (locs : List Loc) (ls : Array Slot), LSt dC dI cI cJ cZ s q k H locs → lv_has ls 4 [(0, .ref b), (1, .ref (q 0)), (2, .ref (k 0)), (3, .int (nI i))] → W p l e room_1 s m #[Value.ref b] below meth c H locs (30 + 30 * j) (300 + 80 * j) (lw_Z below #[Value.ref b] s) (F0 m 18 ls []) := by
  obtain ⟨hx, hb, hr, hml, hown, hts, hX, hbl, hlocks, hgv⟩ := id C0
  have hA : ∀ q : Nat, s.heap.size ≤ q → (fun q : Nat => s.heap.size ≤ q) q := fun _ h => h
  have hbA : ¬ (fun q : Nat => s.heap.size ≤ q) b := Nat.not_le.mpr hbl
  have hsz : ∀ i : Nat, i ≤ 2052 → ((Int32.ofNat L - 4) < nI i ↔ L < i + 4) := by
    intro i hi
    have e1 : (Int32.ofNat L).toInt = (L : Int) := nI_toInt (n := L) (by omega)
    have e4 : ((4 : Int32)).toInt = 4 := rfl
    rw [Int32.lt_iff_toInt_lt, i32_sub (by rw [e1, e4]; omega) (by rw [e1, e4]; omega), e1, e4, nI_toInt (by omega)]
    omega
  intro n
  induction n with
  | zero =>
    intro j i hij hLn hj2 H locs ls hI hl
    obtain ⟨u, f, w, t, hIt, hP, hD, hS⟩ := hI
    refine lv_iload_n hx hb dL_law_18 rfl (lv_at hl 3 rfl) ?_
    refine lv_aload_n hx hb dL_law_19 rfl (lv_at hl 0 rfl) ?_
    refine va_slen hx hb hX hbl hbA hS dL_law_20 ?_
    refine lv_iconst (v := 4) hx hb dL_law_21 (by decide) ?_
    refine lv_isub hx hb dL_law_22 ?_
    refine lv_icmp_gt (tgt := 1033) hx hb dL_law_23 (by decide) (fun c_23 => ?_) (fun c_23 => ?_)
    · refine lv_iconst (v := 1) hx hb dL_law_1033 (by decide) ?_
      refine va_forget (fun q hq => hS.2.2 q hq) ?_
      refine W.widen (k := 737410) (n := 6890017) (by omega) (by omega) ?_
      exact lw_ret hx hb hr hlocks dL_law_1034
    · exact absurd ((hsz i (by omega)).mpr (by omega)) c_23
  | succ n ih =>
    intro j i hij hLn hj2 H locs ls hI hl
    obtain ⟨⟨ln, cw, ic, bs, ss, se, we, un, sf, pa⟩, ⟨ct, ov, gi, ta, gf⟩, ⟨ln2, cw2, se2, isI, we2, br, ma, sfr, pa2⟩, ⟨⟨⟨r, aU, aL, uU, uL⟩, n0, oU, oL, gi2, ta2, gU, gL⟩, tm⟩, hIt, hP, hD, hS⟩ := hI
    obtain ⟨e1, e2, e3, e4, e5, I⟩ := hIt
    have e1 : ln2 = ln := e1
    have e2 : cw2 = cw := e2
    have e3 : se2 = se := e3
    have e4 : we2 = we := e4
    have e5 : pa2 = pa := e5
    subst e1 e2 e3 e4 e5
    refine lv_iload_n hx hb dL_law_18 rfl (lv_at hl 3 rfl) ?_
    refine lv_aload_n hx hb dL_law_19 rfl (lv_at hl 0 rfl) ?_
    refine va_slen hx hb hX hbl hbA hS dL_law_20 ?_
    refine lv_iconst (v := 4) hx hb dL_law_21 (by decide) ?_
    refine lv_isub hx hb dL_law_22 ?_
    refine lv_icmp_gt (tgt := 1033) hx hb dL_law_23 (by decide) (fun c_23 => ?_) (fun c_23 => ?_)
    · refine lv_iconst (v := 1) hx hb dL_law_1033 (by decide) ?_
      refine va_forget (fun q hq => hS.2.2 q hq) ?_
      refine W.widen (k := 737410) (n := 6890017) (by omega) (by omega) ?_
      exact lw_ret hx hb hr hlocks dL_law_1034
    · have hi4 : i + 4 ≤ L := Nat.le_of_not_lt (fun h => c_23 ((hsz i (by omega)).mpr h))
      have hj : j ≤ 511 := by omega
      have hkk : ∀ (ls2 : Array Slot) (H2 : Heap) (locs2 : List Loc), LSt dC dI cI cJ cZ s q k H2 locs2 → lv_has ls2 4 [(0, .ref b), (1, .ref (q 0)), (2, .ref (k 0)), (3, .int (nI i))] → W p l e room_1 s m #[Value.ref b] below meth c H2 locs2 (30 + 30 * (j + 1)) (300 + 80 * (j + 1)) (lw_Z below #[Value.ref b] s) (F0 m 1027 ls2 []) := by
        intro ls2 H2 locs2 h2 hl2
        refine lv_iinc (v := nI (i + 4)) (lv' := [(3, .int (nI (i + 4))), (0, .ref b), (1, .ref (q 0)), (2, .ref (k 0))]) hx hb dL_law_1027 hl2 (k := 3) rfl (nI_add i 4) (by decide) rfl (fun ls hl => ?_)
        refine lv_goto (tgt := 18) hx hb dL_law_1030 (by decide) ?_
        exact ih (j + 1) (i + 4) (by omega) (by omega) (by omega) H2 locs2 ls h2 (lv_sub hl [1, 2, 3, 0] rfl)
      have hIt := INVt_i I
      refine lv_aload_n hx hb dL_law_26 rfl (lv_at hl 0 rfl) ?_
      refine lv_iload_n hx hb dL_law_27 rfl (lv_at hl 3 rfl) ?_
      refine sld_n hx hb hX hbl hbA hS (w := i) rfl (by omega) (by omega) dL_law_28 ?_
      refine lv_bipush (v := 31) hx hb dL_law_29 (by decide) ?_
      refine lv_iand hx hb dL_law_31 ?_
      rcases sw_28 (xs i &&& 31) with h_32 | h_32 | h_32 | h_32 | h_32 | h_32 | h_32 | h_32 | h_32 | h_32 | h_32 | h_32 | h_32 | h_32 | h_32 | h_32 | h_32 | h_32 | h_32 | h_32 | h_32 | h_32 | h_32 | h_32 | h_32 | h_32 | h_32 | h_32 | h_32 | h_32
      · refine lv_tableOut (tgt := 1027) hx hb dL_law_32 h_32 (by decide) ?_
        refine W.widen (k := 30 + 30 * (j + 1)) (n := 300 + 80 * (j + 1)) (by omega) (by omega) ?_
        exact hkk ls H locs ⟨(ln2, cw2, ic, bs, ss, se2, we2, un, sf, pa2), (ct, ov, gi, ta, gf), (ln2, cw2, se2, isI, we2, br, ma, sfr, pa2), (((r, aU, aL, uU, uL), 0, oU, oL, gi2, ta2, gU, gL), tm), hIt, hP, hD, hS⟩ hl
      · refine lv_tableIn (tgt := 164) (off := 132) hx hb dL_law_32 (by rw [h_32]; decide) (by rw [h_32]; decide) (by rw [h_32]; rfl) (by decide) ?_
        exact Lc_loss C0 hK hSM I hi4 hL hj hP hD hS hl hkk
      · refine lv_tableIn (tgt := 187) (off := 155) hx hb dL_law_32 (by rw [h_32]; decide) (by rw [h_32]; decide) (by rw [h_32]; rfl) (by decide) ?_
        exact Lc_claimant C0 hK hSM I hi4 hL hj hP hD hS hl hkk
      · refine lv_tableIn (tgt := 210) (off := 178) hx hb dL_law_32 (by rw [h_32]; decide) (by rw [h_32]; decide) (by rw [h_32]; rfl) (by decide) ?_
        exact Lc_wrong C0 hK hSM I hi4 hL hj hP hD hS hl hkk
      · refine lv_tableIn (tgt := 233) (off := 201) hx hb dL_law_32 (by rw [h_32]; decide) (by rw [h_32]; decide) (by rw [h_32]; rfl) (by decide) ?_
        exact Lc_leave C0 hK hSM I hi4 hL hj hP hD hS hl hkk
      · refine lv_tableIn (tgt := 256) (off := 224) hx hb dL_law_32 (by rw [h_32]; decide) (by rw [h_32]; decide) (by rw [h_32]; rfl) (by decide) ?_
        exact Lc_weight C0 hK hSM I hi4 hL hj hP hD hS hl hkk
      · refine lv_tableIn (tgt := 289) (off := 257) hx hb dL_law_32 (by rw [h_32]; decide) (by rw [h_32]; decide) (by rw [h_32]; rfl) (by decide) ?_
        exact Lc_broke C0 hK hSM I hi4 hL hj hP hD hS hl hkk
      · refine lv_tableIn (tgt := 338) (off := 306) hx hb dL_law_32 (by rw [h_32]; decide) (by rw [h_32]; decide) (by rw [h_32]; rfl) (by decide) ?_
        exact Lc_pair C0 hK hSM I hi4 hL hj hP hD hS hl hkk
      · refine lv_tableIn (tgt := 371) (off := 339) hx hb dL_law_32 (by rw [h_32]; decide) (by rw [h_32]; decide) (by rw [h_32]; rfl) (by decide) ?_
        exact Lc_part C0 hK hSM I hi4 hL hj hP hD hS hl hkk
      · refine lv_tableIn (tgt := 394) (off := 362) hx hb dL_law_32 (by rw [h_32]; decide) (by rw [h_32]; decide) (by rw [h_32]; rfl) (by decide) ?_
        exact Lc_settle C0 hK hSM I hi4 hL hj hP hD hS hl hkk
      · refine lv_tableIn (tgt := 427) (off := 395) hx hb dL_law_32 (by rw [h_32]; decide) (by rw [h_32]; decide) (by rw [h_32]; rfl) (by decide) ?_
        exact Lc_reopen C0 hK hSM I hi4 hL hj hP hD hS hl hkk
      · refine lv_tableIn (tgt := 450) (off := 418) hx hb dL_law_32 (by rw [h_32]; decide) (by rw [h_32]; decide) (by rw [h_32]; rfl) (by decide) ?_
        exact Lc_setting C0 hK hSM I hi4 hL hj hP hD hS hl hkk
      · refine lv_tableIn (tgt := 483) (off := 451) hx hb dL_law_32 (by rw [h_32]; decide) (by rw [h_32]; decide) (by rw [h_32]; rfl) (by decide) ?_
        exact Lc_ofWrong C0 hK hSM I hi4 hL hj hP hD hS hl hkk
      · refine lv_tableIn (tgt := 516) (off := 484) hx hb dL_law_32 (by rw [h_32]; decide) (by rw [h_32]; decide) (by rw [h_32]; rfl) (by decide) ?_
        exact Lc_amount C0 hK hSM I hi4 hL hj hP hD hS hl hkk
      · refine lv_tableIn (tgt := 550) (off := 518) hx hb dL_law_32 (by rw [h_32]; decide) (by rw [h_32]; decide) (by rw [h_32]; rfl) (by decide) ?_
        exact Lc_credit C0 hK hSM I hi4 hL hj hP hD hS hl hkk
      · refine lv_tableIn (tgt := 584) (off := 552) hx hb dL_law_32 (by rw [h_32]; decide) (by rw [h_32]; decide) (by rw [h_32]; rfl) (by decide) ?_
        exact Lc_unitDue C0 hK hSM I hi4 hL hj hP hD hS hl hkk
      · refine lv_tableIn (tgt := 618) (off := 586) hx hb dL_law_32 (by rw [h_32]; decide) (by rw [h_32]; decide) (by rw [h_32]; rfl) (by decide) ?_
        exact Lc_due C0 hK hSM I hi4 hL hj hP hD hS hl hkk
      · refine lv_tableIn (tgt := 652) (off := 620) hx hb dL_law_32 (by rw [h_32]; decide) (by rw [h_32]; decide) (by rw [h_32]; rfl) (by decide) ?_
        exact Lc_gets C0 hK hSM I hi4 hL hj hP hD hS hl hkk
      · refine lv_tableIn (tgt := 696) (off := 664) hx hb dL_law_32 (by rw [h_32]; decide) (by rw [h_32]; decide) (by rw [h_32]; rfl) (by decide) ?_
        exact Lc_bestManner C0 hK hSM I hi4 hL hj hP hD hS hl hkk
      · refine lv_tableIn (tgt := 709) (off := 677) hx hb dL_law_32 (by rw [h_32]; decide) (by rw [h_32]; decide) (by rw [h_32]; rfl) (by decide) ?_
        exact Lc_saves C0 hK hSM I hi4 hL hj hP hD hS hl hkk
      · refine lv_tableIn (tgt := 753) (off := 721) hx hb dL_law_32 (by rw [h_32]; decide) (by rw [h_32]; decide) (by rw [h_32]; rfl) (by decide) ?_
        exact Lc_misses C0 hK hSM I hi4 hL hj hP hD hS hl hkk
      · refine lv_tableIn (tgt := 787) (off := 755) hx hb dL_law_32 (by rw [h_32]; decide) (by rw [h_32]; decide) (by rw [h_32]; rfl) (by decide) ?_
        exact Lc_owe C0 hK hSM I hi4 hL hj hP hD hS hl hkk
      · refine lv_tableIn (tgt := 800) (off := 768) hx hb dL_law_32 (by rw [h_32]; decide) (by rw [h_32]; decide) (by rw [h_32]; rfl) (by decide) ?_
        exact Lc_pay C0 hK hSM I hi4 hL hj hP hD hS hl hkk
      · refine lv_tableIn (tgt := 833) (off := 801) hx hb dL_law_32 (by rw [h_32]; decide) (by rw [h_32]; decide) (by rw [h_32]; rfl) (by decide) ?_
        exact Lc_refund C0 hK hSM I hi4 hL hj hP hD hS hl hkk
      · refine lv_tableIn (tgt := 856) (off := 824) hx hb dL_law_32 (by rw [h_32]; decide) (by rw [h_32]; decide) (by rw [h_32]; rfl) (by decide) ?_
        exact Lc_fair C0 hK hSM I hi4 hL hj hP hD hS hl hkk
      · refine lv_tableIn (tgt := 890) (off := 858) hx hb dL_law_32 (by rw [h_32]; decide) (by rw [h_32]; decide) (by rw [h_32]; rfl) (by decide) ?_
        exact Lc_over C0 hK hSM I hi4 hL hj hP hD hS hl hkk
      · refine lv_tableIn (tgt := 924) (off := 892) hx hb dL_law_32 (by rw [h_32]; decide) (by rw [h_32]; decide) (by rw [h_32]; rfl) (by decide) ?_
        exact Lc_transfers C0 hK hSM I hi4 hL hj hP hD hS hl hkk
      · refine lv_tableIn (tgt := 937) (off := 905) hx hb dL_law_32 (by rw [h_32]; decide) (by rw [h_32]; decide) (by rw [h_32]; rfl) (by decide) ?_
        exact Lc_transfer C0 hK hSM I hi4 hL hj hP hD hS hl hkk
      · refine lv_tableIn (tgt := 970) (off := 938) hx hb dL_law_32 (by rw [h_32]; decide) (by rw [h_32]; decide) (by rw [h_32]; rfl) (by decide) ?_
        exact Lc_given C0 hK hSM I hi4 hL hj hP hD hS hl hkk
      · refine lv_tableIn (tgt := 1004) (off := 972) hx hb dL_law_32 (by rw [h_32]; decide) (by rw [h_32]; decide) (by rw [h_32]; rfl) (by decide) ?_
        exact Lc_many C0 hK hSM I hi4 hL hj hP hD hS hl hkk
