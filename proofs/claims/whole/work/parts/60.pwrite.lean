/-! ===== the answers are the same, and what both have in common is kept: what changes something ===== -/
theorem a_loss {ln cw ic bs ss : Int32} {se we un sf pa isI br ma sfr : Nat → Int32} {v : Int32} {u1 : XS} {u2 : MS} {r1 r2 : Int32} (I : INV ln cw ic bs ss se we un sf pa isI br ma sfr) (h1 : (fun r u => ((v < 0 ∨ 1000000 < v) ∧ r = -2 ∧ u = (ln, cw, ic, bs, ss, se, we, un, sf, pa)) ∨ (¬ (v < 0 ∨ 1000000 < v) ∧ r = ln ∧ u = (v, cw, ic, bs, ss, se, we, un, sf, pa))) r1 u1) (h2 : (fun r u => ((0 ≤ v ∧ v ≤ 1000000) ∧ r = ln ∧ u = (v, cw, se, isI, we, br, ma, sfr, pa)) ∨ (¬ (0 ≤ v ∧ v ≤ 1000000) ∧ r = -2 ∧ u = (ln, cw, se, isI, we, br, ma, sfr, pa))) r2 u2) : r1 = r2 ∧ INVt u1 u2 := by
  rcases h1 with ⟨a, e1, k1⟩ | ⟨a, e1, k1⟩
  · rcases h2 with ⟨b, e2, k2⟩ | ⟨b, e2, k2⟩
    · exact absurd b (out_iff.mp a)
    · rw [e1, e2, k1, k2]; exact ⟨rfl, INVt_i I⟩
  · rcases h2 with ⟨b, e2, k2⟩ | ⟨b, e2, k2⟩
    · rw [e1, e2, k1, k2]
      have hv := to_rg a
      obtain ⟨a1, a2, a3, a4, a5, a6, a7, a8, a9, a10, a11, a12⟩ := I
      exact ⟨rfl, INVt_i ⟨a1, a2, a3, a4, a5, hv, a7, a8, a9, a10, a11, a12⟩⟩
    · exact absurd (out_iff.mpr b) a
theorem a_claimant {ln cw ic bs ss : Int32} {se we un sf pa isI br ma sfr : Nat → Int32} {v : Int32} {u1 : XS} {u2 : MS} {r1 r2 : Int32} (I : INV ln cw ic bs ss se we un sf pa isI br ma sfr) (h1 : (fun r u => ((v < 0 ∨ 100 < v) ∧ r = -2 ∧ u = (ln, cw, ic, bs, ss, se, we, un, sf, pa)) ∨ (¬ (v < 0 ∨ 100 < v) ∧ r = cw ∧ u = (ln, v, ic, bs, ss, se, we, un, sf, pa))) r1 u1) (h2 : (fun r u => ((0 ≤ v ∧ v ≤ 100) ∧ r = cw ∧ u = (ln, v, se, isI, we, br, ma, sfr, pa)) ∨ (¬ (0 ≤ v ∧ v ≤ 100) ∧ r = -2 ∧ u = (ln, cw, se, isI, we, br, ma, sfr, pa))) r2 u2) : r1 = r2 ∧ INVt u1 u2 := by
  rcases h1 with ⟨a, e1, k1⟩ | ⟨a, e1, k1⟩
  · rcases h2 with ⟨b, e2, k2⟩ | ⟨b, e2, k2⟩
    · exact absurd b (out_iff.mp a)
    · rw [e1, e2, k1, k2]; exact ⟨rfl, INVt_i I⟩
  · rcases h2 with ⟨b, e2, k2⟩ | ⟨b, e2, k2⟩
    · rw [e1, e2, k1, k2]
      have hv := to_rg a
      obtain ⟨a1, a2, a3, a4, a5, a6, a7, a8, a9, a10, a11, a12⟩ := I
      exact ⟨rfl, INVt_i ⟨a1, a2, a3, a4, a5, a6, hv, a8, a9, a10, a11, a12⟩⟩
    · exact absurd (out_iff.mpr b) a
theorem in_6 {isI : Nat → Int32} (h : m_inN isI 6 = 6) : ∀ j, j < 6 → ¬ isI j = 0 := by
  intro j hj c
  have g := acc_I (z := m_inN isI) (d := fun i => if isI i = 0 then 0 else 1) (c := 0) (M := 1) rfl (by omega) (fun i hi => rfl) (fun i hi => by
    show 0 ≤ (if isI i = 0 then 0 else (1 : Int32)).toInt ∧ (if isI i = 0 then 0 else (1 : Int32)).toInt ≤ ((1 : Nat) : Int)
    split <;> decide) (by omega) 6 (Nat.le_refl _)
  rw [h] at g
  have g2 := sN_ge (f := fun i => 1 - (if isI i = 0 then 0 else (1 : Int32)).toInt) (n := 6) (j := j) (fun i hi => by
    show 0 ≤ 1 - (if isI i = 0 then 0 else (1 : Int32)).toInt
    split <;> decide) hj
  rw [sN_sub (fun _ => 1) (fun i => (if isI i = 0 then 0 else (1 : Int32)).toInt)] at g2
  have e : (if isI j = 0 then 0 else (1 : Int32)) = 0 := if_pos c
  have g3 : 1 - (if isI j = 0 then 0 else (1 : Int32)).toInt ≤ sN (fun _ => 1) 6 - sN (fun i => (if isI i = 0 then 0 else (1 : Int32)).toInt) 6 := g2
  rw [e] at g3
  have g4 : (6 : Int) = 0 + sN (fun i => (if isI i = 0 then 0 else (1 : Int32)).toInt) 6 := g
  have g5 : sN (fun _ => 1) 6 = 6 := rfl
  have g6 : (1 : Int) - 0 ≤ sN (fun _ => 1) 6 - sN (fun i => (if isI i = 0 then 0 else (1 : Int32)).toInt) 6 := g3
  omega
theorem a_wrong {ln cw ic bs ss : Int32} {se we un sf pa isI br ma sfr : Nat → Int32} {v : Int32} {u1 : XS} {u2 : MS} {r1 r2 : Int32} (I : INV ln cw ic bs ss se we un sf pa isI br ma sfr) (h1 : (fun r u => ((v < 0 ∨ 100 < v) ∧ r = -2 ∧ u = (ln, cw, ic, bs, ss, se, we, un, sf, pa)) ∨ (¬ (v < 0 ∨ 100 < v) ∧ ((∃ w, w < 6 ∧ (∀ j, j < w → bt ic j = true) ∧ ¬ bt ic w = true ∧ r = nI w ∧ u = (ln, cw, (ic ||| x_bit w), bs, ss, se, (upd we w v), (upd un w (x_bit w)), sf, pa)) ∨ ((∀ j, j < 6 → bt ic j = true) ∧ r = -4 ∧ u = (ln, cw, ic, bs, ss, se, we, un, sf, pa))))) r1 u1) (h2 : (fun r u => (¬ (0 ≤ v ∧ v ≤ 100) ∧ r = -2 ∧ u = (ln, cw, se, isI, we, br, ma, sfr, pa)) ∨ ((0 ≤ v ∧ v ≤ 100) ∧ ((m_inN isI 6 = 6 ∧ r = -4 ∧ u = (ln, cw, se, isI, we, br, ma, sfr, pa)) ∨ (¬ m_inN isI 6 = 6 ∧ ∃ w, w < 6 ∧ (∀ j, j < w → ¬ isI j = 0) ∧ isI w = 0 ∧ r = nI w ∧ u = (ln, cw, se, (upd (upd isI w 0) w 1), (upd (upd we w 0) w v), (upd br w 0), (upd ma w (-9)), (upd sfr w (-9)), (upd pa w 0)))))) r2 u2) : r1 = r2 ∧ INVt u1 u2 := by
  rcases h1 with ⟨a, e1, k1⟩ | ⟨a, h1⟩
  · rcases h2 with ⟨b, e2, k2⟩ | ⟨b, _⟩
    · rw [e1, e2, k1, k2]; exact ⟨rfl, INVt_i I⟩
    · exact absurd b (out_iff.mp a)
  · rcases h2 with ⟨b, e2, k2⟩ | ⟨b, h2⟩
    · exact absurd (out_iff.mpr b) a
    · have hv := to_rg a
      rcases h1 with ⟨w, hw, hlt, hnw, e1, k1⟩ | ⟨hall, e1, k1⟩
      · have hw0 : isI w = 0 := ((I_rb I).2.1 w hw).mpr hnw
        rcases h2 with ⟨hf, _, _⟩ | ⟨_, w2, hw2, hlt2, hw20, e2, k2⟩
        · exact absurd hw0 (in_6 hf w hw)
        · have ew : w2 = w := by
            rcases Nat.lt_trichotomy w2 w with h | h | h
            · exact absurd ((RB_bt (I_rb I) hw2).mp (hlt w2 h)) (fun h3 => h3 hw20)
            · exact h
            · exact absurd hw0 (hlt2 w h)
          subst ew
          obtain ⟨n1, n2, n3⟩ := I_no I w2 hw hw0
          have hma := (I_rb I).2.2.1 w2 hw hw0
          rw [e1, e2, k1, k2, upd_uu, upd_uu, upd_same n2, upd_same hma, upd_same n1, upd_same n3]
          obtain ⟨a1, a2, a3, a4, a5, a6, a7, a8, a9, a10, a11, a12⟩ := I
          refine ⟨rfl, INVt_i ⟨⟨a1.1, fun v hv2 => ?_, fun v hv2 h => ?_, fun v hv2 h => ?_⟩, a2, a3, W_upd a4 hv, a5, a6, a7, a8, a9, fun v hv2 h => ?_, a11, fun i h1 h2 => ?_⟩⟩
          · rw [upd_at, b_or, Bool.or_eq_true, bt_b hw, decide_eq_true_iff]
            by_cases c : v = w2
            · rw [if_pos c]; exact ⟨fun h => absurd h (by decide), fun h => absurd (Or.inr c) h⟩
            · rw [if_neg c, a1.2.1 v hv2]; exact ⟨fun h h3 => h3.elim h c, fun h h3 => h (Or.inl h3)⟩
          · rw [upd_at] at h
            by_cases c : v = w2
            · rw [c]; exact hma
            · rw [if_neg c] at h; exact a1.2.2.1 v hv2 h
          · rw [upd_at] at h ⊢
            by_cases c : v = w2
            · rw [if_pos c, c, mt_n hma, Int32.or_self]
            · rw [if_neg c] at h ⊢; exact a1.2.2.2 v hv2 h
          · rw [upd_at] at h
            by_cases c : v = w2
            · rw [if_pos c] at h; exact absurd h (by decide)
            · rw [if_neg c] at h; exact a10 v hv2 h
          · rw [b_or, a12 i h1 h2, bt_b hw, decide_eq_false (by omega)]; rfl
      · have hall2 : ∀ j, j < 6 → ¬ isI j = 0 := fun j hj => (RB_bt (I_rb I) hj).mp (hall j hj)
        rcases h2 with ⟨_, e2, k2⟩ | ⟨_, w2, hw2, _, hw20, _, _⟩
        · rw [e1, e2, k1, k2]; exact ⟨rfl, INVt_i I⟩
        · exact absurd hw20 (hall2 w2 hw2)
theorem a_leave {ln cw ic bs ss : Int32} {se we un sf pa isI br ma sfr : Nat → Int32} {v : Int32} {u1 : XS} {u2 : MS} {r1 r2 : Int32} (I : INV ln cw ic bs ss se we un sf pa isI br ma sfr) (h1 : (fun r u => xk (fun j => bt ic j = true) v (r = -1 ∧ u = (ln, cw, ic, bs, ss, se, we, un, sf, pa)) (fun j => r = x_pc (ic &&& (x_bit j ^^^ (-1))) ∧ u = (ln, cw, (ic &&& (x_bit j ^^^ (-1))), (bs &&& (x_bit j ^^^ (-1))), (ss &&& (un j ^^^ (-1))), se, (upd we j 0), (upd (x_part (un j) un 6) j 0), (x_fill (un j) 0 sf 6), (upd pa j 0)))) r1 u1) (h2 : (fun r u => xk (fun j => ¬ isI j = 0) v (r = -1 ∧ u = (ln, cw, se, isI, we, br, ma, sfr, pa)) (fun j => r = m_inN (upd isI j 0) 6 ∧ ((ma j = -9 ∧ u = (ln, cw, se, (upd isI j 0), (upd we j 0), (upd br j 0), (upd ma j (-9)), (upd sfr j (-9)), (upd pa j 0))) ∨ (¬ ma j = -9 ∧ u = (ln, cw, se, (upd isI j 0), (upd we j 0), (upd br j 0), (upd (upd ma j (-9)) (m_mt ma j) (-9)), (upd (upd sfr j (-9)) (m_mt ma j) (-9)), (upd pa j 0)))))) r2 u2) : r1 = r2 ∧ INVt u1 u2 := by
  rcases xk_both (I_rb I) h1 h2 with ⟨⟨e1, k1⟩, e2, k2⟩ | ⟨j, hj, hv, hin, h1, h2⟩
  · rw [e1, e2, k1, k2]; exact ⟨rfl, INVt_i I⟩
  · obtain ⟨e1, k1⟩ := h1
    obtain ⟨e2, k2⟩ := h2
    have k3 : u2 = (ln, cw, se, upd isI j 0, upd we j 0, upd br j 0, m_set ma ma j (-9), m_set ma sfr j (-9), upd pa j 0) := by
      rcases k2 with ⟨c, k2⟩ | ⟨c, k2⟩
      · rw [k2]; unfold m_set; rw [if_pos c, if_pos c]
      · rw [k2]; unfold m_set; rw [if_neg c, if_neg c]
    have I0 := I
    obtain ⟨a1, a2, a3, a4, a5, a6, a7, a8, a9, a10, a11, a12⟩ := I
    have hB := RB_part a1 hj hin
    have hmj : m_set ma ma j (-9) j = -9 := by rw [m_set_at, if_pos (Or.inl rfl)]
    have hbi : ∀ i, i < 32 → (bt (ic &&& (x_bit j ^^^ (-1))) i = true ↔ bt ic i = true ∧ i ≠ j) := by
      intro i hi
      rw [b_and, Bool.and_eq_true, bt_not _ hi, bt_b hj]
      by_cases c : i = j
      · rw [decide_eq_true c]; simp [c]
      · rw [decide_eq_false c]; simp [c]
    have hI : INV ln cw (ic &&& (x_bit j ^^^ (-1))) (bs &&& (x_bit j ^^^ (-1))) (ss &&& (un j ^^^ (-1))) se (upd we j 0) (upd (x_part (un j) un 6) j 0) (x_fill (un j) 0 sf 6) (upd pa j 0) (upd isI j 0) (upd br j 0) (m_set ma ma j (-9)) (m_set ma sfr j (-9)) := by
      refine ⟨⟨hB.1, fun w hw => ?_, fun w hw h => ?_, fun w hw h => ?_⟩, RS_part a1.1 (RS_open2 a1 a2 hj hin) hj, RR_0 a3 hj, W_upd a4 (by decide), SF_fill a1 a5 hj hin (by decide), a6, a7, a8, PA_0 a9 hj, fun w hw h => ?_, fun w hw => ?_, fun i h1 h2 => ?_⟩
      · rw [upd_at, hbi w (by omega)]
        by_cases c : w = j
        · rw [if_pos c]; exact ⟨fun _ h => h.2 c, fun _ => rfl⟩
        · rw [if_neg c, a1.2.1 w hw]; exact ⟨fun h h2 => h h2.1, fun h h2 => h ⟨h2, c⟩⟩
      · rw [upd_at] at h
        by_cases c : w = j
        · rw [c]; exact hmj
        · rw [if_neg c] at h; exact hB.2.2.1 w hw h
      · rw [upd_at] at h ⊢
        by_cases c : w = j
        · rw [if_pos c] at h; exact absurd rfl h
        · rw [if_neg c] at h ⊢; exact hB.2.2.2 w hw h
      · rw [upd_at] at h
        by_cases c : w = j
        · rw [upd_at, upd_at, if_pos c, if_pos c, m_set_at, if_pos (Or.inl c)]; exact ⟨rfl, rfl, rfl⟩
        · rw [if_neg c] at h
          obtain ⟨n1, n2, n3⟩ := a10 w hw h
          rw [upd_at, upd_at, if_neg c, if_neg c, m_set_at]
          refine ⟨?_, n2, n3⟩
          split
          · rfl
          · exact n1
      · rw [upd_at]
        split
        · exact Or.inl rfl
        · exact a11 w hw
      · refine Bool.eq_false_iff.mpr (fun h => ?_)
        have h3 := (hbi i h2).mp h
        rw [a12 i h1 h2] at h3
        exact absurd h3.1 (by decide)
    rw [e1, e2, k1, k3]
    exact ⟨pc_in hI, INVt_i hI⟩
theorem a_weight {ln cw ic bs ss : Int32} {se we un sf pa isI br ma sfr : Nat → Int32} {v x : Int32} {u1 : XS} {u2 : MS} {r1 r2 : Int32} (I : INV ln cw ic bs ss se we un sf pa isI br ma sfr) (h1 : (fun r u => xk (fun j => bt ic j = true) v (r = -1 ∧ u = (ln, cw, ic, bs, ss, se, we, un, sf, pa)) (fun j => ((x < 0 ∨ 100 < x) ∧ r = -2 ∧ u = (ln, cw, ic, bs, ss, se, we, un, sf, pa)) ∨ (¬ (x < 0 ∨ 100 < x) ∧ r = we j ∧ u = (ln, cw, ic, bs, ss, se, (upd we j x), un, sf, pa)))) r1 u1) (h2 : (fun r u => xk (fun j => ¬ isI j = 0) v (r = -1 ∧ u = (ln, cw, se, isI, we, br, ma, sfr, pa)) (fun j => (¬ (0 ≤ x ∧ x ≤ 100) ∧ r = -2 ∧ u = (ln, cw, se, isI, we, br, ma, sfr, pa)) ∨ ((0 ≤ x ∧ x ≤ 100) ∧ r = we j ∧ u = (ln, cw, se, isI, (upd we j x), br, ma, sfr, pa)))) r2 u2) : r1 = r2 ∧ INVt u1 u2 := by
  rcases xk_both (I_rb I) h1 h2 with ⟨⟨e1, k1⟩, e2, k2⟩ | ⟨j, hj, hv, hin, h1, h2⟩
  · rw [e1, e2, k1, k2]; exact ⟨rfl, INVt_i I⟩
  · rcases h1 with ⟨a, e1, k1⟩ | ⟨a, e1, k1⟩
    · rcases h2 with ⟨b, e2, k2⟩ | ⟨b, e2, k2⟩
      · rw [e1, e2, k1, k2]; exact ⟨rfl, INVt_i I⟩
      · exact absurd b (out_iff.mp a)
    · rcases h2 with ⟨b, e2, k2⟩ | ⟨b, e2, k2⟩
      · exact absurd (out_iff.mpr b) a
      · rw [e1, e2, k1, k2]
        obtain ⟨a1, a2, a3, a4, a5, a6, a7, a8, a9, a10, a11, a12⟩ := I
        exact ⟨rfl, INVt_i ⟨a1, a2, a3, W_upd a4 (to_rg a), a5, a6, a7, a8, a9, a10, a11, a12⟩⟩
theorem a_broke {ln cw ic bs ss : Int32} {se we un sf pa isI br ma sfr : Nat → Int32} {v z : Int32} {u1 : XS} {u2 : MS} {r1 r2 : Int32} (I : INV ln cw ic bs ss se we un sf pa isI br ma sfr) (hz : z = 0 ∨ z = 1) (h1 : (fun r u => xk (fun j => bt ic j = true) v (r = -1 ∧ u = (ln, cw, ic, bs, ss, se, we, un, sf, pa)) (fun j => ((bt bs j = true ↔ z = 1) ∧ r = 0 ∧ u = (ln, cw, ic, bs, ss, se, we, un, sf, pa)) ∨ (¬ (bt bs j = true ↔ z = 1) ∧ r = 1 ∧ u = (ln, cw, ic, (bs ^^^ x_bit j), ss, se, we, un, sf, pa)))) r1 u1) (h2 : (fun r u => xk (fun j => ¬ isI j = 0) v (r = -1 ∧ u = (ln, cw, se, isI, we, br, ma, sfr, pa)) (fun j => ((br j = z ∧ r = 0) ∨ (¬ br j = z ∧ r = 1)) ∧ u = (ln, cw, se, isI, we, (upd br j z), ma, sfr, pa))) r2 u2) : r1 = r2 ∧ INVt u1 u2 := by
  rcases xk_both (I_rb I) h1 h2 with ⟨⟨e1, k1⟩, e2, k2⟩ | ⟨j, hj, hv, hin, h1, h2⟩
  · rw [e1, e2, k1, k2]; exact ⟨rfl, INVt_i I⟩
  · obtain ⟨h2, k2⟩ := h2
    have hb := RR_bt (I_rr I) hj
    have hbr := I_br I j hj
    have hiff : (bt bs j = true ↔ z = 1) ↔ br j = z := by
      rw [hb]
      rcases hz with rfl | rfl
      · rcases hbr with h | h
        · rw [h]; decide
        · rw [h]; decide
      · rcases hbr with h | h
        · rw [h]; decide
        · rw [h]; decide
    rcases h1 with ⟨a, e1, k1⟩ | ⟨a, e1, k1⟩
    · rcases h2 with ⟨b, e2⟩ | ⟨b, e2⟩
      · rw [e1, e2, k1, k2, upd_same b]; exact ⟨rfl, INVt_i I⟩
      · exact absurd (hiff.mp a) b
    · rcases h2 with ⟨b, e2⟩ | ⟨b, e2⟩
      · exact absurd (hiff.mpr b) a
      · rw [e1, e2, k1, k2]
        obtain ⟨a1, a2, a3, a4, a5, a6, a7, a8, a9, a10, a11, a12⟩ := I
        refine ⟨rfl, INVt_i ⟨a1, a2, fun w hw => ?_, a4, a5, a6, a7, a8, a9, fun w hw h => ?_, fun w hw => ?_, a12⟩⟩
        · rw [upd_at, b_xor, bt_b hj]
          by_cases c : w = j
          · rw [if_pos c, decide_eq_true c, c, Bool.xor_true, Bool.not_eq_true', Bool.not_eq_false]
            rw [hb]
            rcases hz with rfl | rfl
            · rcases hbr with h | h
              · exact absurd h b
              · rw [h]; decide
            · rcases hbr with h | h
              · rw [h]; decide
              · exact absurd h b
          · rw [if_neg c, decide_eq_false c, Bool.xor_false]; exact a3 w hw
        · obtain ⟨n1, n2, n3⟩ := a10 w hw h
          have c : ¬ w = j := fun c => hin (by rw [← c]; exact h)
          rw [upd_at, if_neg c]; exact ⟨n1, n2, n3⟩
        · rw [upd_at]
          split
          · exact hz
          · exact a11 w hw
theorem a_pair {ln cw ic bs ss : Int32} {se we un sf pa isI br ma sfr : Nat → Int32} {v w : Int32} {u1 : XS} {u2 : MS} {r1 r2 : Int32} (I : INV ln cw ic bs ss se we un sf pa isI br ma sfr) (h1 : (fun r u => (((¬ ∃ i, i < 6 ∧ v = nI i ∧ bt ic i = true) ∨ (¬ ∃ j, j < 6 ∧ w = nI j ∧ bt ic j = true) ∨ v = w) ∧ r = -1 ∧ u = (ln, cw, ic, bs, ss, se, we, un, sf, pa)) ∨ (∃ i j, i < 6 ∧ j < 6 ∧ v = nI i ∧ w = nI j ∧ i ≠ j ∧ bt ic i = true ∧ bt ic j = true ∧ (((¬ un i = x_bit i ∨ ¬ un j = x_bit j ∨ bt ss i = true ∨ bt ss j = true) ∧ r = -3 ∧ u = (ln, cw, ic, bs, ss, se, we, un, sf, pa)) ∨ (¬ (¬ un i = x_bit i ∨ ¬ un j = x_bit j ∨ bt ss i = true ∨ bt ss j = true) ∧ r = 1 ∧ u = (ln, cw, ic, bs, ss, se, we, (upd (upd un i (x_bit i ||| x_bit j)) j (x_bit i ||| x_bit j)), sf, pa))))) r1 u1) (h2 : (fun r u => (((¬ ∃ i, i < 6 ∧ v = nI i ∧ ¬ isI i = 0) ∨ (¬ ∃ j, j < 6 ∧ w = nI j ∧ ¬ isI j = 0) ∨ v = w) ∧ r = -1 ∧ u = (ln, cw, se, isI, we, br, ma, sfr, pa)) ∨ (∃ i j, i < 6 ∧ j < 6 ∧ v = nI i ∧ w = nI j ∧ i ≠ j ∧ ¬ isI i = 0 ∧ ¬ isI j = 0 ∧ (((¬ ma i = -9 ∨ ¬ ma j = -9 ∨ ¬ sfr i = -9 ∨ ¬ sfr j = -9) ∧ r = -3 ∧ u = (ln, cw, se, isI, we, br, ma, sfr, pa)) ∨ (¬ (¬ ma i = -9 ∨ ¬ ma j = -9 ∨ ¬ sfr i = -9 ∨ ¬ sfr j = -9) ∧ r = 1 ∧ u = (ln, cw, se, isI, we, br, (upd (upd ma i (nI j)) j (nI i)), sfr, pa))))) r2 u2) : r1 = r2 ∧ INVt u1 u2 := by
  rcases h1 with ⟨a, e1, k1⟩ | ⟨i, j, hi, hj, ev, ew, hij, bi, bj, h1⟩
  · rcases h2 with ⟨b, e2, k2⟩ | ⟨i, j, hi, hj, ev, ew, hij, bi, bj, h2⟩
    · rw [e1, e2, k1, k2]; exact ⟨rfl, INVt_i I⟩
    · rcases a with a | a | a
      · exact absurd ((kn_iff (I_rb I)).mpr ⟨i, hi, ev, bi⟩) a
      · exact absurd ((kn_iff (I_rb I)).mpr ⟨j, hj, ew, bj⟩) a
      · exact absurd (nI6 hi hj (by rw [← ev, ← ew, a])) hij
  · rcases h2 with ⟨b, e2, k2⟩ | ⟨i2, j2, hi2, hj2, ev2, ew2, hij2, bi2, bj2, h2⟩
    · rcases b with b | b | b
      · exact absurd ((kn_iff (I_rb I)).mp ⟨i, hi, ev, bi⟩) b
      · exact absurd ((kn_iff (I_rb I)).mp ⟨j, hj, ew, bj⟩) b
      · exact absurd (nI6 hi hj (by rw [← ev, ← ew, b])) hij
    · have ei : i2 = i := nI6 hi2 hi (by rw [← ev2, ev])
      have ej : j2 = j := nI6 hj2 hj (by rw [← ew2, ew])
      subst ei ej
      have um : ∀ q, q < 6 → ¬ isI q = 0 → (un q = x_bit q ↔ ma q = -9) := by
        intro q hq hiq
        constructor
        · intro e
          have := un_bt (w := mtt ma q) (I_rb I) hq hiq
          rw [e, bt_b hq, decide_eq_true_iff] at this
          exact (mt_eq (I_rb I).1 hq).mpr (this.mpr (Or.inr rfl))
        · intro e
          rw [(I_rb I).2.2.2 q hq hiq, mt_n e, Int32.or_self]
      have hc : (¬ un i2 = x_bit i2 ∨ ¬ un j2 = x_bit j2 ∨ bt ss i2 = true ∨ bt ss j2 = true) ↔ (¬ ma i2 = -9 ∨ ¬ ma j2 = -9 ∨ ¬ sfr i2 = -9 ∨ ¬ sfr j2 = -9) := by
        rw [um i2 hi bi2, um j2 hj bj2, RS_bt (I_rs I) hi, RS_bt (I_rs I) hj]
      rcases h1 with ⟨a, e1, k1⟩ | ⟨a, e1, k1⟩
      · rcases h2 with ⟨b, e2, k2⟩ | ⟨b, e2, k2⟩
        · rw [e1, e2, k1, k2]; exact ⟨rfl, INVt_i I⟩
        · exact absurd (hc.mp a) b
      · rcases h2 with ⟨b, e2, k2⟩ | ⟨b, e2, k2⟩
        · exact absurd (hc.mpr b) a
        · rw [e1, e2, k1, k2]
          have m1 : ma i2 = -9 := Classical.byContradiction (fun h => b (Or.inl h))
          have m2 : ma j2 = -9 := Classical.byContradiction (fun h => b (Or.inr (Or.inl h)))
          have m3 : sfr i2 = -9 := Classical.byContradiction (fun h => b (Or.inr (Or.inr (Or.inl h))))
          have m4 : sfr j2 = -9 := Classical.byContradiction (fun h => b (Or.inr (Or.inr (Or.inr h))))
          obtain ⟨a1, a2, a3, a4, a5, a6, a7, a8, a9, a10, a11, a12⟩ := I
          exact ⟨rfl, INVt_i ⟨RB_pair a1 hi hj hij m1 m2 bi2 bj2, RS_pair a2 hi hj hij m3 m4, a3, a4, a5, a6, a7, a8, a9, a10, a11, a12⟩⟩
theorem un_ma {ic : Int32} {un isI ma : Nat → Int32} (h : RB ic un isI ma) {q : Nat} (hq : q < 6) (hiq : ¬ isI q = 0) : un q = x_bit q ↔ ma q = -9 := by
  constructor
  · intro e
    have := un_bt (w := mtt ma q) h hq hiq
    rw [e, bt_b hq, decide_eq_true_iff] at this
    exact (mt_eq h.1 hq).mpr (this.mpr (Or.inr rfl))
  · intro e
    rw [h.2.2.2 q hq hiq, mt_n e, Int32.or_self]
theorem a_part {ln cw ic bs ss : Int32} {se we un sf pa isI br ma sfr : Nat → Int32} {v : Int32} {u1 : XS} {u2 : MS} {r1 r2 : Int32} (I : INV ln cw ic bs ss se we un sf pa isI br ma sfr) (h1 : (fun r u => xk (fun j => bt ic j = true) v (r = -1 ∧ u = (ln, cw, ic, bs, ss, se, we, un, sf, pa)) (fun j => ((un j = x_bit j ∨ bt ss j = true) ∧ r = -3 ∧ u = (ln, cw, ic, bs, ss, se, we, un, sf, pa)) ∨ (¬ (un j = x_bit j ∨ bt ss j = true) ∧ r = 1 ∧ u = (ln, cw, ic, bs, ss, se, we, (x_part (un j) un 6), sf, pa)))) r1 u1) (h2 : (fun r u => xk (fun j => ¬ isI j = 0) v (r = -1 ∧ u = (ln, cw, se, isI, we, br, ma, sfr, pa)) (fun j => ((ma j = -9 ∨ ¬ sfr j = -9) ∧ r = -3 ∧ u = (ln, cw, se, isI, we, br, ma, sfr, pa)) ∨ (¬ (ma j = -9 ∨ ¬ sfr j = -9) ∧ r = 1 ∧ u = (ln, cw, se, isI, we, br, (upd (upd ma (m_mt ma j) (-9)) j (-9)), sfr, pa)))) r2 u2) : r1 = r2 ∧ INVt u1 u2 := by
  rcases xk_both (I_rb I) h1 h2 with ⟨⟨e1, k1⟩, e2, k2⟩ | ⟨j, hj, hv, hin, h1, h2⟩
  · rw [e1, e2, k1, k2]; exact ⟨rfl, INVt_i I⟩
  · have hc : (un j = x_bit j ∨ bt ss j = true) ↔ (ma j = -9 ∨ ¬ sfr j = -9) := by rw [un_ma (I_rb I) hj hin, RS_bt (I_rs I) hj]
    rcases h1 with ⟨a, e1, k1⟩ | ⟨a, e1, k1⟩
    · rcases h2 with ⟨b, e2, k2⟩ | ⟨b, e2, k2⟩
      · rw [e1, e2, k1, k2]; exact ⟨rfl, INVt_i I⟩
      · exact absurd (hc.mp a) b
    · rcases h2 with ⟨b, e2, k2⟩ | ⟨b, e2, k2⟩
      · exact absurd (hc.mpr b) a
      · have hn : ¬ ma j = -9 := fun h => b (Or.inl h)
        have em : upd (upd ma (m_mt ma j) (-9)) j (-9) = m_set ma ma j (-9) := by
          unfold m_set
          rw [if_neg hn]
          funext q
          rw [upd_at, upd_at, upd_at, upd_at]
          by_cases c1 : q = j <;> by_cases c2 : q = m_mt ma j <;> simp [c1, c2]
        rw [e1, e2, k1, k2, em]
        obtain ⟨a1, a2, a3, a4, a5, a6, a7, a8, a9, a10, a11, a12⟩ := I
        exact ⟨rfl, INVt_i ⟨RB_part a1 hj hin, RS_part a1.1 a2 hj, a3, a4, a5, a6, a7, a8, a9, a10, a11, a12⟩⟩
theorem no_set {isI ma sfr br pa un : Nat → Int32} {ic : Int32} {j : Nat} (h : RB ic un isI ma) (hj : j < 6) (hin : ¬ isI j = 0) (x : Int32) (hn : ∀ w, w < 6 → isI w = 0 → sfr w = -9 ∧ br w = 0 ∧ pa w = 0) : ∀ w, w < 6 → isI w = 0 → m_set ma sfr j x w = -9 ∧ br w = 0 ∧ pa w = 0 := by
  intro w hw h0
  have c : ¬ (w = j ∨ w = mtt ma j) := by
    rintro (c | c)
    · exact hin (by rw [← c]; exact h0)
    · exact hin ((RB_in h hj).mp (by rw [← c]; exact h0))
  rw [m_set_at, if_neg c]
  exact hn w hw h0
theorem a_settle {ln cw ic bs ss : Int32} {se we un sf pa isI br ma sfr : Nat → Int32} {v x : Int32} {u1 : XS} {u2 : MS} {r1 r2 : Int32} (I : INV ln cw ic bs ss se we un sf pa isI br ma sfr) (h1 : (fun r u => xk (fun j => bt ic j = true) v (r = -1 ∧ u = (ln, cw, ic, bs, ss, se, we, un, sf, pa)) (fun j => ((x < 0 ∨ 1000000 < x) ∧ r = -2 ∧ u = (ln, cw, ic, bs, ss, se, we, un, sf, pa)) ∨ (¬ (x < 0 ∨ 1000000 < x) ∧ (((bt ss j = true ∨ ¬ x_sumN (un j) pa 6 ≤ 0) ∧ r = -3 ∧ u = (ln, cw, ic, bs, ss, se, we, un, sf, pa)) ∨ (¬ (bt ss j = true ∨ ¬ x_sumN (un j) pa 6 ≤ 0) ∧ r = 1 ∧ u = (ln, cw, ic, bs, (ss ||| un j), se, we, un, (x_fill (un j) x sf 6), pa)))))) r1 u1) (h2 : (fun r u => xk (fun j => ¬ isI j = 0) v (r = -1 ∧ u = (ln, cw, se, isI, we, br, ma, sfr, pa)) (fun j => (¬ (0 ≤ x ∧ x ≤ 1000000) ∧ r = -2 ∧ u = (ln, cw, se, isI, we, br, ma, sfr, pa)) ∨ ((0 ≤ x ∧ x ≤ 1000000) ∧ (((¬ sfr j = -9 ∨ 0 < pa j ∨ (¬ ma j = -9 ∧ ¬ pa (m_mt ma j) ≤ 0)) ∧ r = -3 ∧ u = (ln, cw, se, isI, we, br, ma, sfr, pa)) ∨ (¬ (¬ sfr j = -9 ∨ 0 < pa j ∨ (¬ ma j = -9 ∧ ¬ pa (m_mt ma j) ≤ 0)) ∧ r = 1 ∧ u = (ln, cw, se, isI, we, br, ma, (m_set ma sfr j x), pa)))))) r2 u2) : r1 = r2 ∧ INVt u1 u2 := by
  rcases xk_both (I_rb I) h1 h2 with ⟨⟨e1, k1⟩, e2, k2⟩ | ⟨j, hj, hv, hin, h1, h2⟩
  · rw [e1, e2, k1, k2]; exact ⟨rfl, INVt_i I⟩
  · rcases h1 with ⟨a, e1, k1⟩ | ⟨a, h1⟩
    · rcases h2 with ⟨b, e2, k2⟩ | ⟨b, _⟩
      · rw [e1, e2, k1, k2]; exact ⟨rfl, INVt_i I⟩
      · exact absurd b (out_iff.mp a)
    · rcases h2 with ⟨b, e2, k2⟩ | ⟨b, h2⟩
      · exact absurd (out_iff.mpr b) a
      · have hxr := to_rg a
        have hm := mt_inv (I_rb I).1 j hj
        have es : (x_sumN (un j) pa 6).toInt = (pa j).toInt + (if mtt ma j = j then 0 else (pa (mtt ma j)).toInt) := by
          rw [x_sum_I (M := 1000000) (fun i hi => pa_le (I_p I) hi) (by omega), un_I (I_rb I) hj hin (fun i => (pa i).toInt)]
        have p1 := (pa_le (I_p I) hj).1
        have p2 := (pa_le (I_p I) hm.1).1
        have q1 : 0 < pa j ↔ 0 < (pa j).toInt := Int32.lt_iff_toInt_lt
        have q2 : ∀ w, pa w ≤ 0 ↔ (pa w).toInt ≤ 0 := fun w => Int32.le_iff_toInt_le
        have q3 : x_sumN (un j) pa 6 ≤ 0 ↔ (x_sumN (un j) pa 6).toInt ≤ 0 := Int32.le_iff_toInt_le
        have hc : (bt ss j = true ∨ ¬ x_sumN (un j) pa 6 ≤ 0) ↔ (¬ sfr j = -9 ∨ 0 < pa j ∨ (¬ ma j = -9 ∧ ¬ pa (m_mt ma j) ≤ 0)) := by
          rw [RS_bt (I_rs I) hj]
          refine or_congr Iff.rfl ?_
          rw [q3, es, q1, q2]
          by_cases c : ma j = -9
          · rw [if_pos (mt_n c), Int.add_zero]
            exact ⟨fun h => Or.inl (by omega), fun h => h.elim (fun h => by omega) (fun h => absurd c h.1)⟩
          · rw [if_neg (mt_two (I_rb I).1 hj c).2.1, ← mt_p c]
            constructor
            · intro h
              by_cases k : 0 < (pa j).toInt
              · exact Or.inl k
              · exact Or.inr ⟨c, by omega⟩
            · rintro (h | h)
              · omega
              · have := h.2; omega
        rcases h1 with ⟨a, e1, k1⟩ | ⟨a, e1, k1⟩
        · rcases h2 with ⟨b, e2, k2⟩ | ⟨b, e2, k2⟩
          · rw [e1, e2, k1, k2]; exact ⟨rfl, INVt_i I⟩
          · exact absurd (hc.mp a) b
        · rcases h2 with ⟨b, e2, k2⟩ | ⟨b, e2, k2⟩
          · exact absurd (hc.mpr b) a
          · rw [e1, e2, k1, k2]
            have hx9 : ¬ x = -9 := fun h => by rw [h] at hxr; exact absurd hxr.1 (by decide)
            obtain ⟨a1, a2, a3, a4, a5, a6, a7, a8, a9, a10, a11, a12⟩ := I
            exact ⟨rfl, INVt_i ⟨a1, RS_settle a1 a2 hj hin hx9, a3, a4, SF_fill a1 a5 hj hin hxr, a6, a7, a8, a9, no_set a1 hj hin x a10, a11, a12⟩⟩
theorem a_reopen {ln cw ic bs ss : Int32} {se we un sf pa isI br ma sfr : Nat → Int32} {v : Int32} {u1 : XS} {u2 : MS} {r1 r2 : Int32} (I : INV ln cw ic bs ss se we un sf pa isI br ma sfr) (h1 : (fun r u => xk (fun j => bt ic j = true) v (r = -1 ∧ u = (ln, cw, ic, bs, ss, se, we, un, sf, pa)) (fun j => (¬ bt ss j = true ∧ r = -3 ∧ u = (ln, cw, ic, bs, ss, se, we, un, sf, pa)) ∨ (bt ss j = true ∧ r = sf j ∧ u = (ln, cw, ic, bs, (ss &&& (un j ^^^ (-1))), se, we, un, (x_fill (un j) 0 sf 6), pa)))) r1 u1) (h2 : (fun r u => xk (fun j => ¬ isI j = 0) v (r = -1 ∧ u = (ln, cw, se, isI, we, br, ma, sfr, pa)) (fun j => (sfr j = -9 ∧ r = -3 ∧ u = (ln, cw, se, isI, we, br, ma, sfr, pa)) ∨ (¬ sfr j = -9 ∧ r = sfr j ∧ u = (ln, cw, se, isI, we, br, ma, (m_set ma sfr j (-9)), pa)))) r2 u2) : r1 = r2 ∧ INVt u1 u2 := by
  rcases xk_both (I_rb I) h1 h2 with ⟨⟨e1, k1⟩, e2, k2⟩ | ⟨j, hj, hv, hin, h1, h2⟩
  · rw [e1, e2, k1, k2]; exact ⟨rfl, INVt_i I⟩
  · rcases h1 with ⟨a, e1, k1⟩ | ⟨a, e1, k1⟩
    · rcases h2 with ⟨b, e2, k2⟩ | ⟨b, e2, k2⟩
      · rw [e1, e2, k1, k2]; exact ⟨rfl, INVt_i I⟩
      · exact absurd ((RS_bt (I_rs I) hj).mpr b) a
    · rcases h2 with ⟨b, e2, k2⟩ | ⟨b, e2, k2⟩
      · exact absurd b ((RS_bt (I_rs I) hj).mp a)
      · rw [e1, e2, k1, k2, (I_rs I).2.1 j hj b]
        obtain ⟨a1, a2, a3, a4, a5, a6, a7, a8, a9, a10, a11, a12⟩ := I
        exact ⟨rfl, INVt_i ⟨a1, RS_open2 a1 a2 hj hin, a3, a4, SF_fill a1 a5 hj hin (by decide), a6, a7, a8, a9, no_set a1 hj hin (-9) a10, a11, a12⟩⟩
theorem a_setting {ln cw ic bs ss : Int32} {se we un sf pa isI br ma sfr : Nat → Int32} {v x : Int32} {u1 : XS} {u2 : MS} {r1 r2 : Int32} (I : INV ln cw ic bs ss se we un sf pa isI br ma sfr) (h1 : (fun r u => (((v < 0 ∨ 2 < v) ∨ ∃ i7, i7 < 3 ∧ v = nI i7 ∧ (x < 0 ∨ sm_v i7 < x)) ∧ r = -2 ∧ u = (ln, cw, ic, bs, ss, se, we, un, sf, pa)) ∨ (∃ i7, i7 < 3 ∧ v = nI i7 ∧ ¬ (x < 0 ∨ sm_v i7 < x) ∧ r = se i7 ∧ u = (ln, cw, ic, bs, ss, (upd se i7 x), we, un, sf, pa))) r1 u1) (h2 : (fun r u => (¬ ((0 ≤ v ∧ v ≤ 2) ∧ (0 ≤ x ∧ x ≤ (if v = 2 then 100 else 2))) ∧ r = -2 ∧ u = (ln, cw, se, isI, we, br, ma, sfr, pa)) ∨ (((0 ≤ v ∧ v ≤ 2) ∧ (0 ≤ x ∧ x ≤ (if v = 2 then 100 else 2))) ∧ ∃ i7, i7 < 3 ∧ v = nI i7 ∧ r = se i7 ∧ u = (ln, cw, (upd se i7 x), isI, we, br, ma, sfr, pa))) r2 u2) : r1 = r2 ∧ INVt u1 u2 := by
  have hs : ∀ i, i < 3 → (if nI i = 2 then (100 : Int32) else 2) = sm_v i := by decide +kernel
  rcases h1 with ⟨a, e1, k1⟩ | ⟨i, hi, ev, a, e1, k1⟩
  · rcases h2 with ⟨b, e2, k2⟩ | ⟨⟨b1, b2⟩, i, hi, ev, e2, k2⟩
    · rw [e1, e2, k1, k2]; exact ⟨rfl, INVt_i I⟩
    · rcases a with a | ⟨i2, hi2, ev2, a⟩
      · exact absurd b1 (out_iff.mp a)
      · have : i2 = i := nI6 (by omega) (by omega) (by rw [← ev2, ev])
        subst this
        rw [ev, hs i2 hi] at b2
        exact absurd b2 (out_iff.mp a)
  · rcases h2 with ⟨b, e2, k2⟩ | ⟨⟨b1, b2⟩, i2, hi2, ev2, e2, k2⟩
    · refine absurd ?_ b
      rw [ev, hs i hi]
      refine ⟨?_, Classical.byContradiction (fun h => a (out_iff.mpr h))⟩
      rcases (show i = 0 ∨ i = 1 ∨ i = 2 by omega) with rfl | rfl | rfl <;> decide
    · have : i2 = i := nI6 (by omega) (by omega) (by rw [← ev2, ev])
      subst this
      rw [e1, e2, k1, k2]
      obtain ⟨a1, a2, a3, a4, a5, a6, a7, a8, a9, a10, a11, a12⟩ := I
      refine ⟨rfl, INVt_i ⟨a1, a2, a3, a4, a5, a6, a7, ?_, a9, a10, a11, a12⟩⟩
      rw [upd_at]
      by_cases c : 0 = i2
      · rw [if_pos c]
        subst c
        exact th_012 (Classical.byContradiction (fun h => a (out_iff.mpr h)))
      · rw [if_neg c]; exact a8
theorem a_refund {ln cw ic bs ss : Int32} {se we un sf pa isI br ma sfr : Nat → Int32} {v : Int32} {u1 : XS} {u2 : MS} {r1 r2 : Int32} (I : INV ln cw ic bs ss se we un sf pa isI br ma sfr) (h1 : (fun r u => xk (fun j => bt ic j = true) v (r = -1 ∧ u = (ln, cw, ic, bs, ss, se, we, un, sf, pa)) (fun j => (pa j = 0 ∧ r = -3 ∧ u = (ln, cw, ic, bs, ss, se, we, un, sf, pa)) ∨ (¬ pa j = 0 ∧ r = pa j ∧ u = (ln, cw, ic, bs, ss, se, we, un, sf, (upd pa j 0))))) r1 u1) (h2 : (fun r u => xk (fun j => ¬ isI j = 0) v (r = -1 ∧ u = (ln, cw, se, isI, we, br, ma, sfr, pa)) (fun j => (pa j = 0 ∧ r = -3 ∧ u = (ln, cw, se, isI, we, br, ma, sfr, pa)) ∨ (¬ pa j = 0 ∧ r = pa j ∧ u = (ln, cw, se, isI, we, br, ma, sfr, (upd pa j 0))))) r2 u2) : r1 = r2 ∧ INVt u1 u2 := by
  rcases xk_both (I_rb I) h1 h2 with ⟨⟨e1, k1⟩, e2, k2⟩ | ⟨j, hj, hv, hin, h1, h2⟩
  · rw [e1, e2, k1, k2]; exact ⟨rfl, INVt_i I⟩
  · rcases h1 with ⟨a, e1, k1⟩ | ⟨a, e1, k1⟩
    · rcases h2 with ⟨b, e2, k2⟩ | ⟨b, e2, k2⟩
      · rw [e1, e2, k1, k2]; exact ⟨rfl, INVt_i I⟩
      · exact absurd a b
    · rcases h2 with ⟨b, e2, k2⟩ | ⟨b, e2, k2⟩
      · exact absurd b a
      · rw [e1, e2, k1, k2]
        obtain ⟨a1, a2, a3, a4, a5, a6, a7, a8, a9, a10, a11, a12⟩ := I
        refine ⟨rfl, INVt_i ⟨a1, a2, a3, a4, a5, a6, a7, a8, PA_0 a9 hj, fun w hw h => ?_, a11, a12⟩⟩
        obtain ⟨n1, n2, n3⟩ := a10 w hw h
        have c : ¬ w = j := fun c => hin (by rw [← c]; exact h)
        rw [upd_at, if_neg c]; exact ⟨n1, n2, n3⟩
theorem a_pay {ln cw ic bs ss : Int32} {se we un sf pa isI br ma sfr : Nat → Int32} {v x : Int32} {u1 : XS} {u2 : QS × (Nat → Int32)} {r1 r2 : Int32} (I : INV ln cw ic bs ss se we un sf pa isI br ma sfr) (h1 : (fun r u => xk (fun j => bt ic j = true) v (r = -1 ∧ u = (ln, cw, ic, bs, ss, se, we, un, sf, pa)) (fun j => ((x < 1 ∨ 1000000 < x) ∧ r = -2 ∧ u = (ln, cw, ic, bs, ss, se, we, un, sf, pa)) ∨ (¬ (x < 1 ∨ 1000000 < x) ∧ (((bt bs j = true ∨ bt ss j = true ∨ ¬ 0 ≤ (o_du (x_E ln cw ic se we) (x_C ln cw ic we un sf (se 0) ss) (x_dn cw ic we) ((x_op ic we ss).toInt) ((x_la ic we un ss bs).toInt) ((x_sh cw ic we un (se 1) ss bs).toInt) + iQ (-(x_sumN ic pa 6).toInt - x.toInt)).num) ∧ r = -3 ∧ u = (ln, cw, ic, bs, ss, se, we, un, sf, pa)) ∨ (¬ (bt bs j = true ∨ bt ss j = true ∨ ¬ 0 ≤ (o_du (x_E ln cw ic se we) (x_C ln cw ic we un sf (se 0) ss) (x_dn cw ic we) ((x_op ic we ss).toInt) ((x_la ic we un ss bs).toInt) ((x_sh cw ic we un (se 1) ss bs).toInt) + iQ (-(x_sumN ic pa 6).toInt - x.toInt)).num) ∧ r = upd pa j (pa j + x) j ∧ u = (ln, cw, ic, bs, ss, se, we, un, sf, (upd pa j (pa j + x)))))))) r1 u1) (h2 : (fun r u => xk (fun j => ¬ isI j = 0) v (r = -1 ∧ u.2 = pa) (fun j => (¬ (1 ≤ x ∧ x ≤ 1000000) ∧ r = -2 ∧ u.2 = pa) ∨ ((1 ≤ x ∧ x ≤ 1000000) ∧ (((¬ br j = 0 ∨ ¬ sfr j = -9 ∨ ¬ ((m_paN pa 6).toInt + x.toInt) * ((m_duN ln cw se isI we br ma sfr 6).den : Int) ≤ (m_duN ln cw se isI we br ma sfr 6).num) ∧ r = -3 ∧ u.2 = pa) ∨ (¬ (¬ br j = 0 ∨ ¬ sfr j = -9 ∨ ¬ ((m_paN pa 6).toInt + x.toInt) * ((m_duN ln cw se isI we br ma sfr 6).den : Int) ≤ (m_duN ln cw se isI we br ma sfr 6).num) ∧ r = upd pa j (pa j + x) j ∧ u.2 = upd pa j (pa j + x)))))) r2 u2) : r1 = r2 ∧ INVt u1 (ln, cw, se, isI, we, br, ma, sfr, u2.2) := by
  rcases xk_both (I_rb I) h1 h2 with ⟨⟨e1, k1⟩, e2, k2⟩ | ⟨j, hj, hv, hin, h1, h2⟩
  · rw [e1, e2, k1, k2]; exact ⟨rfl, INVt_i I⟩
  · rcases h1 with ⟨a, e1, k1⟩ | ⟨a, h1⟩
    · rcases h2 with ⟨b, e2, k2⟩ | ⟨b, _⟩
      · rw [e1, e2, k1, k2]; exact ⟨rfl, INVt_i I⟩
      · exact absurd b (out_iff.mp a)
    · rcases h2 with ⟨b, e2, k2⟩ | ⟨b, h2⟩
      · exact absurd (out_iff.mpr b) a
      · have hxr := to_rg a
        have hx1 : (1 : Int) ≤ x.toInt := hxr.1
        have hx2 : x.toInt ≤ 1000000 := hxr.2
        have hp := pa_le (I_p I) hj
        have hle : ∀ (D : Rat) (z : Int), 0 ≤ (D + iQ (-z)).num ↔ z * (D.den : Int) ≤ D.num := by
          intro D z
          rw [Rat.num_nonneg]
          have e : D + iQ (-z) = D - iQ z := by
            have e3 : iQ (-z) = -iQ z := Rat.intCast_neg _
            rw [e3, Rat.sub_eq_add_neg]
          rw [e, ← Rat.le_iff_sub_nonneg, Rat.le_iff]
          show z * _ ≤ _ * ((1 : Nat) : Int) ↔ _
          rw [show ((1 : Nat) : Int) = 1 from rfl, Int.mul_one]
        have hq : (¬ 0 ≤ (xDU ln cw ic se we un sf (se 0) (se 1) ss bs + iQ (-(x_sumN ic pa 6).toInt - x.toInt)).num) ↔ ¬ ((m_paN pa 6).toInt + x.toInt) * ((m_duN ln cw se isI we br ma sfr 6).den : Int) ≤ (m_duN ln cw se isI we br ma sfr 6).num := by
          rw [show -(x_sumN ic pa 6).toInt - x.toInt = -((x_sumN ic pa 6).toInt + x.toInt) by omega, hle, I_du I, I_px I, I_pm I]
        have hc : (bt bs j = true ∨ bt ss j = true ∨ ¬ 0 ≤ (xDU ln cw ic se we un sf (se 0) (se 1) ss bs + iQ (-(x_sumN ic pa 6).toInt - x.toInt)).num) ↔ (¬ br j = 0 ∨ ¬ sfr j = -9 ∨ ¬ ((m_paN pa 6).toInt + x.toInt) * ((m_duN ln cw se isI we br ma sfr 6).den : Int) ≤ (m_duN ln cw se isI we br ma sfr 6).num) := by
          rw [RR_bt (I_rr I) hj, RS_bt (I_rs I) hj, hq]
        rcases h1 with ⟨a, e1, k1⟩ | ⟨a, e1, k1⟩
        · rcases h2 with ⟨b, e2, k2⟩ | ⟨b, e2, k2⟩
          · rw [e1, e2, k1, k2]; exact ⟨rfl, INVt_i I⟩
          · exact absurd (hc.mp a) b
        · rcases h2 with ⟨b, e2, k2⟩ | ⟨b, e2, k2⟩
          · exact absurd (hc.mpr b) a
          · rw [e1, e2, k1, k2]
            have hd : ((m_paN pa 6).toInt + x.toInt) * ((m_duN ln cw se isI we br ma sfr 6).den : Int) ≤ (m_duN ln cw se isI we br ma sfr 6).num := Classical.byContradiction (fun h => b (Or.inr (Or.inr h)))
            have hok := I_ok I (se 0) (se 1)
            have hnd := (bd_nd (o_D_bd hok).1 (o_du_bd hok)).2
            have hnd : (xDU ln cw ic se we un sf (se 0) (se 1) ss bs).num.natAbs ≤ 1000000 * (xDU ln cw ic se we un sf (se 0) (se 1) ss bs).den := hnd
            rw [← I_du I] at hnd
            rw [I_pm I] at hd
            have hpos := (m_duN ln cw se isI we br ma sfr 6).den_pos
            have hs : sN (fun w => (pa w).toInt) 6 + x.toInt ≤ 1000000 := by
              have h3 : (sN (fun w => (pa w).toInt) 6 + x.toInt) * ((m_duN ln cw se isI we br ma sfr 6).den : Int) ≤ 1000000 * ((m_duN ln cw se isI we br ma sfr 6).den : Int) := by omega
              exact Int.le_of_mul_le_mul_right h3 (by omega)
            have e3 : (pa j + x).toInt = (pa j).toInt + x.toInt := i32_add (by omega) (by omega)
            obtain ⟨a1, a2, a3, a4, a5, a6, a7, a8, a9, a10, a11, a12⟩ := I
            refine ⟨rfl, INVt_i ⟨a1, a2, a3, a4, a5, a6, a7, a8, PA_upd a9 hj (by rw [e3]; omega) (by rw [e3]; omega), fun w hw h => ?_, a11, a12⟩⟩
            obtain ⟨n1, n2, n3⟩ := a10 w hw h
            have c : ¬ w = j := fun c => hin (by rw [← c]; exact h)
            rw [upd_at, if_neg c]; exact ⟨n1, n2, n3⟩
/-- at first -/
theorem m_cl_at (x : Int32) : ∀ n w, m_cl (fun _ => 0) x n w = if w < n then x else 0 := by
  intro n
  induction n with
  | zero => intro w; rw [if_neg (by omega)]; rfl
  | succ n ih =>
    intro w
    show upd (m_cl (fun _ => 0) x n) n x w = _
    rw [upd_at, ih]
    by_cases c : w = n
    · rw [if_pos c, if_pos (by omega)]
    · rw [if_neg c]
      by_cases c2 : w < n
      · rw [if_pos c2, if_pos (by omega)]
      · rw [if_neg c2, if_neg (by omega)]
theorem m_cl_0 (n : Nat) : m_cl (fun _ => 0) 0 n = fun _ => 0 := by
  funext w; rw [m_cl_at, ite_self]
theorem se_0 : m_se0 = x_se0 := by
  unfold m_se0 x_se0
  have e1 : upd (fun _ => (0 : Int32)) 0 0 = fun _ => 0 := upd_same rfl
  have e2 : upd (fun _ => (0 : Int32)) 1 0 = fun _ => 0 := upd_same rfl
  rw [e1, e2]
theorem INV_0 : INV 0 0 0 0 0 x_se0 (fun _ => 0) (fun _ => 0) (fun _ => 0) (fun _ => 0) (m_cl (fun _ => 0) 0 6) (m_cl (fun _ => 0) 0 6) (m_cl (fun _ => 0) (-9) 6) (m_cl (fun _ => 0) (-9) 6) := by
  have h9 : ∀ w, w < 6 → m_cl (fun _ => 0) (-9) 6 w = -9 := fun w hw => by rw [m_cl_at, if_pos hw]
  have b0 : ∀ i, ¬ bt 0 i = true := fun i h => by rw [b_0] at h; cases h
  rw [m_cl_0]
  refine ⟨⟨fun w hw => Or.inl (h9 w hw), fun w hw => ⟨fun _ => b0 w, fun _ => rfl⟩, fun w hw _ => h9 w hw, fun w hw h => absurd rfl h⟩, ⟨fun w hw => ⟨fun _ => b0 w, fun _ => h9 w hw⟩, fun w hw h => absurd (h9 w hw) h, fun w hw => by rw [mt_n (h9 w hw)]⟩, fun w hw => ⟨fun _ => b0 w, fun _ => rfl⟩, fun w hw => by show 0 ≤ ((0 : Int32)).toInt ∧ ((0 : Int32)).toInt ≤ 100; decide, fun w hw => by show 0 ≤ ((0 : Int32)).toInt ∧ ((0 : Int32)).toInt ≤ 1000000; decide, by decide, by decide, Or.inl rfl, ⟨fun w hw => by show 0 ≤ ((0 : Int32)).toInt; decide, by decide⟩, fun w hw _ => ⟨h9 w hw, rfl, rfl⟩, fun w hw => Or.inl rfl, fun i h1 h2 => b_0 i⟩
