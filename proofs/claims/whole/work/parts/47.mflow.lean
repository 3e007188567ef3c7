variable {l : Launch} {dC : Nat → ClassId} {dI : Nat → Nat → Nat} {cI cJ cZ : ClassId}
variable {q : Nat → Nat} {ln cw ic bs ss : Int32} {se we un sf pa : Nat → Int32}
variable {ct : Int32} {ov gf : Nat → Int64} {gi ta : Nat → Int32}
variable {k : Nat → Nat} {r : Rat} {up lo : Int64} {cn tm : Int32} {isI br ma : Nat → Int32} {aU aL uU uL oU oL gU gL : Nat → Int64}

abbrev QF : Type := Nat × (Nat → Rat) × (Nat → Nat) × (Nat → Nat) × (Nat → Rat)
/-- the first one below 6 of whom p holds, or 6 -/
def q_fst (p : Nat → Bool) : Nat := if p 0 = true then 0 else if p 1 = true then 1 else if p 2 = true then 2 else if p 3 = true then 3 else if p 4 = true then 4 else if p 5 = true then 5 else 6
theorem q_fst_at {p : Nat → Bool} {w : Nat} (hw : w < 6) (h : p w = true) (h2 : ∀ j, j < w → ¬ p j = true) : q_fst p = w := by
  unfold q_fst
  rcases (show w = 0 ∨ w = 1 ∨ w = 2 ∨ w = 3 ∨ w = 4 ∨ w = 5 by omega) with rfl | rfl | rfl | rfl | rfl | rfl
  · rw [if_pos h]
  · rw [if_neg (h2 0 (by omega)), if_pos h]
  · rw [if_neg (h2 0 (by omega)), if_neg (h2 1 (by omega)), if_pos h]
  · rw [if_neg (h2 0 (by omega)), if_neg (h2 1 (by omega)), if_neg (h2 2 (by omega)), if_pos h]
  · rw [if_neg (h2 0 (by omega)), if_neg (h2 1 (by omega)), if_neg (h2 2 (by omega)), if_neg (h2 3 (by omega)), if_pos h]
  · rw [if_neg (h2 0 (by omega)), if_neg (h2 1 (by omega)), if_neg (h2 2 (by omega)), if_neg (h2 3 (by omega)), if_neg (h2 4 (by omega)), if_pos h]
theorem q_fst_6 {p : Nat → Bool} (h2 : ∀ j, j < 6 → ¬ p j = true) : q_fst p = 6 := by
  unfold q_fst
  rw [if_neg (h2 0 (by omega)), if_neg (h2 1 (by omega)), if_neg (h2 2 (by omega)), if_neg (h2 3 (by omega)), if_neg (h2 4 (by omega)), if_neg (h2 5 (by omega))]
theorem q_fst_or (p : Nat → Bool) : (q_fst p < 6 ∧ p (q_fst p) = true ∧ ∀ j, j < q_fst p → ¬ p j = true) ∨ (q_fst p = 6 ∧ ∀ j, j < 6 → ¬ p j = true) := by
  by_cases h : ∃ w, w < 6 ∧ p w = true
  · obtain ⟨w, hw, hp⟩ := h
    have hm : ∃ v, v < 6 ∧ p v = true ∧ ∀ j, j < v → ¬ p j = true := by
      induction w using Nat.strongRecOn with
      | ind w ih =>
        by_cases h3 : ∃ v, v < w ∧ p v = true
        · obtain ⟨v, hv, hpv⟩ := h3
          exact ih v hv (by omega) hpv
        · exact ⟨w, hw, hp, fun j hj hpj => h3 ⟨j, hj, hpj⟩⟩
    obtain ⟨v, hv, hpv, hmin⟩ := hm
    rw [q_fst_at hv hpv hmin]
    exact Or.inl ⟨hv, hpv, hmin⟩
  · exact Or.inr ⟨q_fst_6 (fun j hj hp => h ⟨j, hj, hp⟩), fun j hj hp => h ⟨j, hj, hp⟩⟩
def q_g (f : Nat → Rat) : Nat := q_fst (fun j => decide ((f j).num < 0))
def q_t (f : Nat → Rat) : Nat := q_fst (fun j => decide (0 < (f j).num))
def q_cd (w : Nat) : Int32 := if w = 6 then -9 else nI w
theorem q_cd_lt {w : Nat} (h : w < 6) : q_cd w = nI w := if_neg (by omega)
theorem q_cd_6 {w : Nat} (h : w < 6 ∨ w = 6) (h2 : q_cd w = -9) : w = 6 := by
  rcases h with h | h
  · rw [q_cd_lt h] at h2
    rcases (show w = 0 ∨ w = 1 ∨ w = 2 ∨ w = 3 ∨ w = 4 ∨ w = 5 by omega) with rfl | rfl | rfl | rfl | rfl | rfl <;> exact absurd h2 (by decide)
  · exact h
theorem q_g_le (f : Nat → Rat) : q_g f < 6 ∨ q_g f = 6 := (q_fst_or _).elim (fun h => Or.inl h.1) (fun h => Or.inr h.1)
theorem q_t_le (f : Nat → Rat) : q_t f < 6 ∨ q_t f = 6 := (q_fst_or _).elim (fun h => Or.inl h.1) (fun h => Or.inr h.1)
theorem q_g_lt {f : Nat → Rat} (h : ¬ q_cd (q_g f) = -9) : q_g f < 6 := (q_g_le f).elim id (fun e => absurd (by rw [e]; rfl) h)
theorem q_t_lt {f : Nat → Rat} (h : ¬ q_cd (q_t f) = -9) : q_t f < 6 := (q_t_le f).elim id (fun e => absurd (by rw [e]; rfl) h)
theorem q_g_neg {f : Nat → Rat} (h : q_g f < 6) : (f (q_g f)).num < 0 := by
  rcases q_fst_or (fun j => decide ((f j).num < 0)) with h2 | h2
  · exact of_decide_eq_true h2.2.1
  · unfold q_g at h; omega
theorem q_t_pos {f : Nat → Rat} (h : q_t f < 6) : 0 < (f (q_t f)).num := by
  rcases q_fst_or (fun j => decide (0 < (f j).num)) with h2 | h2
  · exact of_decide_eq_true h2.2.1
  · unfold q_t at h; omega
def q_up (f : Nat → Rat) (j : Nat) (x : Rat) : Nat → Rat := fun i => if i = j then x else f i
def n_up (f : Nat → Nat) (j : Nat) (x : Nat) : Nat → Nat := fun i => if i = j then x else f i
def q_nx (z : QF) (g t : Nat) : QF := (z.1 + 1, q_up (q_up z.2.1 g (z.2.1 g + m_gift z.2.1 g t)) t (z.2.1 t - m_gift z.2.1 g t), n_up z.2.2.1 z.1 g, n_up z.2.2.2.1 z.1 t, q_up z.2.2.2.2 z.1 (m_gift z.2.1 g t))
def q_step (z : QF) : QF := if q_g z.2.1 = 6 ∨ q_t z.2.1 = 6 then z else q_nx z (q_g z.2.1) (q_t z.2.1)
def q_it (z : QF) : Nat → QF
  | 0 => z
  | i + 1 => q_step (q_it z i)
def q_0 (f : Nat → Rat) : QF := (0, f, fun _ => 0, fun _ => 0, fun _ => 0)
def q_nz (r : Rat) : Nat := if r = 0 then 0 else 1
def q_cnt (f : Nat → Rat) : Nat := q_nz (f 0) + q_nz (f 1) + q_nz (f 2) + q_nz (f 3) + q_nz (f 4) + q_nz (f 5)
theorem q_nz_le (r : Rat) : q_nz r ≤ 1 := by unfold q_nz; split <;> omega
theorem q_nz_1 {r : Rat} (h : r ≠ 0) : q_nz r = 1 := if_neg h
theorem q_cnt_le (f : Nat → Rat) : q_cnt f ≤ 6 := by
  unfold q_cnt
  have := q_nz_le (f 0); have := q_nz_le (f 1); have := q_nz_le (f 2); have := q_nz_le (f 3); have := q_nz_le (f 4); have := q_nz_le (f 5)
  omega
theorem q_cnt_up (f : Nat → Rat) {j : Nat} (hj : j < 6) (x : Rat) : q_cnt (q_up f j x) + q_nz (f j) = q_cnt f + q_nz x := by
  unfold q_cnt q_up
  rcases (show j = 0 ∨ j = 1 ∨ j = 2 ∨ j = 3 ∨ j = 4 ∨ j = 5 by omega) with rfl | rfl | rfl | rfl | rfl | rfl <;> simp <;> omega
theorem num_ne {r : Rat} (h : r.num ≠ 0) : r ≠ 0 := fun e => h (by rw [e]; rfl)
theorem q_cnt_nx {z : QF} {g t : Nat} (hg : g < 6) (ht : t < 6) (hgt : g ≠ t) (hfg : (z.2.1 g).num < 0) (hft : 0 < (z.2.1 t).num) : q_cnt (q_nx z g t).2.1 + 1 ≤ q_cnt z.2.1 ∧ 2 ≤ q_cnt z.2.1 := by
  have h1 := q_cnt_up z.2.1 hg (z.2.1 g + m_gift z.2.1 g t)
  have h2 := q_cnt_up (q_up z.2.1 g (z.2.1 g + m_gift z.2.1 g t)) ht (z.2.1 t - m_gift z.2.1 g t)
  have e : q_up z.2.1 g (z.2.1 g + m_gift z.2.1 g t) t = z.2.1 t := if_neg (Ne.symm hgt)
  rw [e] at h2
  have n1 := q_nz_1 (num_ne (r := z.2.1 g) (by omega))
  have n2 := q_nz_1 (num_ne (r := z.2.1 t) (by omega))
  have h3 := q_cnt_up z.2.1 hg 0
  have h4 := q_cnt_up (q_up z.2.1 g 0) ht 0
  have e4 : q_up z.2.1 g 0 t = z.2.1 t := if_neg (Ne.symm hgt)
  rw [e4] at h4
  have n0 : q_nz 0 = 0 := if_pos rfl
  have h5 : q_nz (z.2.1 g + m_gift z.2.1 g t) + q_nz (z.2.1 t - m_gift z.2.1 g t) ≤ 1 := by
    have l1 := q_nz_le (z.2.1 g + m_gift z.2.1 g t)
    have l2 := q_nz_le (z.2.1 t - m_gift z.2.1 g t)
    by_cases hc : 0 < (z.2.1 g + z.2.1 t).num
    · have e6 : z.2.1 g + m_gift z.2.1 g t = 0 := by unfold m_gift; rw [if_pos hc]; grind
      rw [e6] at l1 ⊢; omega
    · have e6 : z.2.1 t - m_gift z.2.1 g t = 0 := by unfold m_gift; rw [if_neg hc]; grind
      rw [e6] at l2 ⊢; omega
  show q_cnt (q_up (q_up z.2.1 g (z.2.1 g + m_gift z.2.1 g t)) t (z.2.1 t - m_gift z.2.1 g t)) + 1 ≤ _ ∧ _
  omega
def q_hold (z : QF) (gi ta : Nat → Int32) (gU gL : Nat → Int64) : Prop := ∀ i, i < z.1 → gi i = nI (z.2.2.1 i) ∧ ta i = nI (z.2.2.2.1 i) ∧ gU i = iL (z.2.2.2.2 i).num ∧ gL i = iL ((z.2.2.2.2 i).den : Int)
def q_inv (z : QF) (i D : Nat) (oU oL : Nat → Int64) (gi ta : Nat → Int32) (gU gL : Nat → Int64) : Prop := z.1 = i ∧ i + q_cnt z.2.1 ≤ 6 ∧ o_is oU oL z.2.1 ∧ q_hold z gi ta gU gL ∧ (∀ j, j < 6 → bd (z.2.1 j) D (2000000 * 2 ^ i))
theorem q_inv_nx {z : QF} {i D g t : Nat} {oU oL gU gL : Nat → Int64} {gi ta : Nat → Int32} (h : q_inv z i D oU oL gi ta gU gL) (hg : g < 6) (ht : t < 6) (hgt : g ≠ t) (hfg : (z.2.1 g).num < 0) (hft : 0 < (z.2.1 t).num) :
    q_inv (q_nx z g t) (i + 1) D (vp_updL (vp_updL oU g (iL (z.2.1 g + (m_gift z.2.1 g t)).num)) t (iL (z.2.1 t - (m_gift z.2.1 g t)).num)) (vp_updL (vp_updL oL g (iL ((z.2.1 g + (m_gift z.2.1 g t)).den : Int))) t (iL ((z.2.1 t - (m_gift z.2.1 g t)).den : Int))) (upd gi i (nI g)) (upd ta i (nI t)) (vp_updL gU i (iL (m_gift z.2.1 g t).num)) (vp_updL gL i (iL ((m_gift z.2.1 g t).den : Int))) := by
  obtain ⟨h1, h2, h3, h4, h5⟩ := h
  have hc := q_cnt_nx hg ht hgt hfg hft
  refine ⟨by show z.1 + 1 = i + 1; rw [h1], by omega, ?_, ?_, ?_⟩
  · intro j hj
    show _ = iL (q_up (q_up z.2.1 g (z.2.1 g + m_gift z.2.1 g t)) t (z.2.1 t - m_gift z.2.1 g t) j).num ∧ _ = iL ((q_up (q_up z.2.1 g (z.2.1 g + m_gift z.2.1 g t)) t (z.2.1 t - m_gift z.2.1 g t) j).den : Int)
    by_cases e1 : j = t
    · subst e1
      have e : q_up (q_up z.2.1 g (z.2.1 g + m_gift z.2.1 g j)) j (z.2.1 j - m_gift z.2.1 g j) j = z.2.1 j - m_gift z.2.1 g j := if_pos rfl
      rw [pk_uLs, pk_uLs, e]
      exact ⟨rfl, rfl⟩
    · by_cases e2 : j = g
      · subst e2
        have e : q_up (q_up z.2.1 j (z.2.1 j + m_gift z.2.1 j t)) t (z.2.1 t - m_gift z.2.1 j t) j = z.2.1 j + m_gift z.2.1 j t := by unfold q_up; rw [if_neg e1, if_pos rfl]
        rw [pk_uLn e1, pk_uLn e1, pk_uLs, pk_uLs, e]
        exact ⟨rfl, rfl⟩
      · have e : q_up (q_up z.2.1 g (z.2.1 g + m_gift z.2.1 g t)) t (z.2.1 t - m_gift z.2.1 g t) j = z.2.1 j := by unfold q_up; rw [if_neg e1, if_neg e2]
        rw [pk_uLn e1, pk_uLn e1, pk_uLn e2, pk_uLn e2, e]
        exact h3 j hj
  · intro m hm
    have hm : m < z.1 + 1 := hm
    show _ = nI (n_up z.2.2.1 z.1 g m) ∧ _ = nI (n_up z.2.2.2.1 z.1 t m) ∧ _ = iL (q_up z.2.2.2.2 z.1 (m_gift z.2.1 g t) m).num ∧ _ = iL ((q_up z.2.2.2.2 z.1 (m_gift z.2.1 g t) m).den : Int)
    rw [h1]
    by_cases e1 : m = i
    · subst e1
      unfold n_up q_up
      rw [pk_us, pk_us, pk_uLs, pk_uLs, if_pos rfl, if_pos rfl, if_pos rfl]
      exact ⟨rfl, rfl, rfl, rfl⟩
    · unfold n_up q_up
      rw [pk_un e1, pk_un e1, pk_uLn e1, pk_uLn e1, if_neg e1, if_neg e1, if_neg e1]
      exact h4 m (by omega)
  · intro j hj
    show bd (q_up (q_up z.2.1 g (z.2.1 g + m_gift z.2.1 g t)) t (z.2.1 t - m_gift z.2.1 g t) j) D _
    have ev : 2000000 * 2 ^ (i + 1) = 2000000 * 2 ^ i + 2000000 * 2 ^ i := by rw [Nat.pow_succ]; omega
    have hq := m_gift_bd (h5 g hg) (h5 t ht)
    rw [ev]
    unfold q_up
    split
    · exact bd_sub (h5 t ht) hq
    · split
      · exact bd_add (h5 g hg) hq
      · exact bd_mono (h5 j hj) (by omega)
theorem q_inv_s {z0 : QF} {i D : Nat} {oU oL gU gL : Nat → Int64} {gi ta : Nat → Int32} (h : q_inv (q_it z0 i) i D oU oL gi ta gU gL) (hg : q_g (q_it z0 i).2.1 < 6) (ht : q_t (q_it z0 i).2.1 < 6) :
    q_inv (q_it z0 (i + 1)) (i + 1) D (vp_updL (vp_updL oU (q_g (q_it z0 i).2.1) (iL ((q_it z0 i).2.1 (q_g (q_it z0 i).2.1) + (m_gift (q_it z0 i).2.1 (q_g (q_it z0 i).2.1) (q_t (q_it z0 i).2.1))).num)) (q_t (q_it z0 i).2.1) (iL ((q_it z0 i).2.1 (q_t (q_it z0 i).2.1) - (m_gift (q_it z0 i).2.1 (q_g (q_it z0 i).2.1) (q_t (q_it z0 i).2.1))).num)) (vp_updL (vp_updL oL (q_g (q_it z0 i).2.1) (iL (((q_it z0 i).2.1 (q_g (q_it z0 i).2.1) + (m_gift (q_it z0 i).2.1 (q_g (q_it z0 i).2.1) (q_t (q_it z0 i).2.1))).den : Int))) (q_t (q_it z0 i).2.1) (iL (((q_it z0 i).2.1 (q_t (q_it z0 i).2.1) - (m_gift (q_it z0 i).2.1 (q_g (q_it z0 i).2.1) (q_t (q_it z0 i).2.1))).den : Int))) (upd gi i (nI (q_g (q_it z0 i).2.1))) (upd ta i (nI (q_t (q_it z0 i).2.1))) (vp_updL gU i (iL (m_gift (q_it z0 i).2.1 (q_g (q_it z0 i).2.1) (q_t (q_it z0 i).2.1)).num)) (vp_updL gL i (iL ((m_gift (q_it z0 i).2.1 (q_g (q_it z0 i).2.1) (q_t (q_it z0 i).2.1)).den : Int)))
    ∧ q_cnt (q_it z0 (i + 1)).2.1 < q_cnt (q_it z0 i).2.1 ∧ 2 ≤ q_cnt (q_it z0 i).2.1 := by
  have hs : q_it z0 (i + 1) = q_nx (q_it z0 i) (q_g (q_it z0 i).2.1) (q_t (q_it z0 i).2.1) := by
    show q_step (q_it z0 i) = _
    unfold q_step
    rw [if_neg (by omega)]
  rw [hs]
  have h1 := q_g_neg hg
  have h2 := q_t_pos ht
  generalize q_it z0 i = z at *
  have hgt : q_g z.2.1 ≠ q_t z.2.1 := fun e => by rw [e] at h1; omega
  have hc := q_cnt_nx hg ht hgt h1 h2
  exact ⟨q_inv_nx h hg ht hgt h1 h2, hc.1, hc.2⟩
theorem q_stuck {z0 : QF} {i : Nat} (h : q_g (q_it z0 i).2.1 = 6 ∨ q_t (q_it z0 i).2.1 = 6) : ∀ k, q_it z0 (i + k) = q_it z0 i := by
  intro k
  induction k with
  | zero => rfl
  | succ k ih =>
    show q_step (q_it z0 (i + k)) = _
    rw [ih]
    unfold q_step
    rw [if_pos h]
theorem q_end {z0 : QF} {i D : Nat} {oU oL gU gL : Nat → Int64} {gi ta : Nat → Int32} (h : q_inv (q_it z0 i) i D oU oL gi ta gU gL) (he : q_g (q_it z0 i).2.1 = 6 ∨ q_t (q_it z0 i).2.1 = 6) : i = (q_it z0 6).1 ∧ i ≤ 6 ∧ q_hold (q_it z0 6) gi ta gU gL := by
  obtain ⟨h1, h2, -, h4, -⟩ := h
  have e := q_stuck he (6 - i)
  rw [Nat.add_sub_cancel' (by omega)] at e
  rw [e]
  exact ⟨h1.symm, by omega, h4⟩
theorem q_inv_0 {f : Nat → Rat} {D : Nat} {oU oL gU gL : Nat → Int64} {gi ta : Nat → Int32} (hO : o_is oU oL f) (hb : ∀ j, j < 6 → bd (f j) D 2000000) : q_inv (q_it (q_0 f) 0) 0 D oU oL gi ta gU gL := ⟨rfl, by have := q_cnt_le f; show 0 + q_cnt f ≤ 6; omega, hO, fun i hi => absurd hi (Nat.not_lt_zero i), hb⟩
theorem q_rng {z : QF} {i D : Nat} {oU oL gU gL : Nat → Int64} {gi ta : Nat → Int32} (h : q_inv z i D oU oL gi ta gU gL) (hD : 0 < D ∧ D ≤ 100000) : ∀ j, j < 6 → rng (z.2.1 j).num := by
  intro j hj
  have hb := bd_num_le hD.1 (h.2.2.2.2 j hj)
  have hp : 2 ^ i ≤ 2 ^ 6 := Nat.pow_le_pow_right (by omega) (by have := h.2.1; omega)
  have : 2000000 * 2 ^ i * D ≤ 2000000 * 64 * 100000 := Nat.mul_le_mul (Nat.mul_le_mul_left _ hp) hD.2
  unfold rng
  omega
theorem fw_g {oU oL : Nat → Int64} {f : Nat → Rat} {r : Int32} (hO : o_is oU oL f) (hr : ∀ j, j < 6 → rng (f j).num) (h : (∃ w, w < 6 ∧ r = nI w ∧ 0 < oU w * (-1 : Int32).toInt64 ∧ ∀ j, j < w → ¬ 0 < oU j * (-1 : Int32).toInt64) ∨ (r = -9 ∧ ∀ j, j < 6 → ¬ 0 < oU j * (-1 : Int32).toInt64)) : r = q_cd (q_g f) := by
  have key : ∀ j, j < 6 → (0 < oU j * (-1 : Int32).toInt64 ↔ (f j).num < 0) := by
    intro j hj
    have h9 := hr j hj
    rw [(hO j hj).1, show (-1 : Int32).toInt64 = iL (-1) from rfl, iL_mul, show (0 : Int64) = iL 0 from rfl, iL_lt rng_0 (by unfold rng at h9 ⊢; omega)]
    omega
  rcases h with ⟨w, hw, e, h1, h2⟩ | ⟨e, h2⟩
  · have : q_g f = w := q_fst_at hw (decide_eq_true ((key w hw).mp h1)) (fun j hj hp => h2 j hj ((key j (by omega)).mpr (of_decide_eq_true hp)))
    rw [this, q_cd_lt hw]; exact e
  · have : q_g f = 6 := q_fst_6 (fun j hj hp => h2 j hj ((key j hj).mpr (of_decide_eq_true hp)))
    rw [this]; exact e
theorem fw_t {oU oL : Nat → Int64} {f : Nat → Rat} {r : Int32} (hO : o_is oU oL f) (hr : ∀ j, j < 6 → rng (f j).num) (h : (∃ w, w < 6 ∧ r = nI w ∧ 0 < oU w * (1 : Int32).toInt64 ∧ ∀ j, j < w → ¬ 0 < oU j * (1 : Int32).toInt64) ∨ (r = -9 ∧ ∀ j, j < 6 → ¬ 0 < oU j * (1 : Int32).toInt64)) : r = q_cd (q_t f) := by
  have key : ∀ j, j < 6 → (0 < oU j * (1 : Int32).toInt64 ↔ 0 < (f j).num) := by
    intro j hj
    have h9 := hr j hj
    rw [(hO j hj).1, show (1 : Int32).toInt64 = iL 1 from rfl, iL_mul, show (0 : Int64) = iL 0 from rfl, iL_lt rng_0 (by unfold rng at h9 ⊢; omega)]
    omega
  rcases h with ⟨w, hw, e, h1, h2⟩ | ⟨e, h2⟩
  · have : q_t f = w := q_fst_at hw (decide_eq_true ((key w hw).mp h1)) (fun j hj hp => h2 j hj ((key j (by omega)).mpr (of_decide_eq_true hp)))
    rw [this, q_cd_lt hw]; exact e
  · have : q_t f = 6 := q_fst_6 (fun j hj hp => h2 j hj ((key j hj).mpr (of_decide_eq_true hp)))
    rw [this]; exact e
def q_oU (f : Nat → Rat) (oU : Nat → Int64) : Nat → (Nat → Int64)
  | 0 => oU
  | i + 1 => vp_updL (q_oU f oU i) i (iL (f i).num)
def q_oL (f : Nat → Rat) (oL : Nat → Int64) : Nat → (Nat → Int64)
  | 0 => oL
  | i + 1 => vp_updL (q_oL f oL i) i (iL ((f i).den : Int))
theorem q_oU_s (f : Nat → Rat) (oU : Nat → Int64) (i : Nat) : q_oU f oU (i + 1) = vp_updL (q_oU f oU i) i (iL (f i).num) := rfl
theorem q_oL_s (f : Nat → Rat) (oL : Nat → Int64) (i : Nat) : q_oL f oL (i + 1) = vp_updL (q_oL f oL i) i (iL ((f i).den : Int)) := rfl
theorem q_o_is (f : Nat → Rat) (oU oL : Nat → Int64) : o_is (q_oU f oU 6) (q_oL f oL 6) f := by
  have h : ∀ i j, j < i → q_oU f oU i j = iL (f j).num ∧ q_oL f oL i j = iL ((f j).den : Int) := by
    intro i
    induction i with
    | zero => intro j hj; omega
    | succ i ih =>
      intro j hj
      rw [q_oU_s, q_oL_s]
      by_cases e : j = i
      · subst e; exact ⟨pk_uLs, pk_uLs⟩
      · rw [pk_uLn e, pk_uLn e]; exact ih j (by omega)
  exact fun j hj => h 6 j hj
/-- what each one has too much, before anything goes over -/
def m_f0 (ln cn : Int32) (se isI we br ma sf pa : Nat → Int32) (j : Nat) : Rat := if isI j = 0 then 0 else iQ ((pa j).toInt) - m_fair (m_due we br ma j (m_dU ln cn se isI we br ma sf (m_un ma j))) (m_duN ln cn se isI we br ma sf 6) ((m_paN pa 6).toInt)
theorem m_f0_n {ln cn : Int32} {se isI we br ma sf pa : Nat → Int32} {j : Nat} (h : isI j = 0) : m_f0 ln cn se isI we br ma sf pa j = 0 := if_pos h
theorem m_f0_p {ln cn : Int32} {se isI we br ma sf pa : Nat → Int32} {j : Nat} (h : ¬ isI j = 0) : m_f0 ln cn se isI we br ma sf pa j = iQ ((pa j).toInt) - m_fair (m_due we br ma j (m_dU ln cn se isI we br ma sf (m_un ma j))) (m_duN ln cn se isI we br ma sf 6) ((m_paN pa 6).toInt) := if_neg h
abbrev TS : Type := QS × Nat × (Nat → Int64) × (Nat → Int64) × (Nat → Int32) × (Nat → Int32) × (Nat → Int64) × (Nat → Int64)
abbrev mTt (cI cJ cZ : ClassId) (k : Nat → Nat) (ln cn : Int32) (se isI we br ma sf pa : Nat → Int32) (u : TS) : va_W := mQt cI cJ cZ k ln cn (nI u.2.1) se isI we br ma sf pa u.1 ++ mT cI cJ k u.2.2.1 u.2.2.2.1 u.2.2.2.2.1 u.2.2.2.2.2.1 u.2.2.2.2.2.2.1 u.2.2.2.2.2.2.2
abbrev m_Z (ln cn : Int32) (se isI we br ma sf pa : Nat → Int32) : QF := q_it (q_0 (m_f0 ln cn se isI we br ma sf pa)) 6
set_option maxHeartbeats 4000000 in
set_option maxRecDepth 100000 in
theorem c_X4_findTransfers (sz : Nat) (hok : m_ok ln cn isI we br ma sf) (hwe : ∀ u, u < 6 → 0 ≤ (we u).toInt ∧ (we u).toInt ≤ 100) (hfo : ∀ j, j < 6 → ¬ isI j = 0 → f_ok (m_due we br ma j (m_dU ln cn se isI we br ma sf (m_un ma j))) (m_duN ln cn se isI we br ma sf 6)) (hpa : 0 ≤ (m_paN pa 6).toInt ∧ (m_paN pa 6).toInt ≤ 10000000) (hpw : ∀ j, j < 6 → 0 ≤ (pa j).toInt ∧ (pa j).toInt ≤ 10000000) (D : Nat) (hDq : 0 < D ∧ D ≤ 100000) (hf0 : ∀ j, j < 6 → bd (m_f0 ln cn se isI we br ma sf pa j) D 2000000) : Met l yX4_findTransfers (wT yX4_findTransfers cX4_findTransfers 3 none) ({ frames := 6, cells := 0, slots := 0, locals := 152 }) (pM (dC, dI) (ty3 cI cJ cZ) ((mQ cI cZ k r ln cn tm se isI we br ma sf pa) ++ (mS cJ k aU aL uU uL) ++ (mT cI cJ k oU oL gi ta gU gL)) [.ref (k 0)] sz) (va_Qv (S := TS) (fun u => u.2.1 = (m_Z ln cn se isI we br ma sf pa).1 ∧ u.2.1 ≤ 6 ∧ q_hold (m_Z ln cn se isI we br ma sf pa) u.2.2.2.2.1 u.2.2.2.2.2.1 u.2.2.2.2.2.2.1 u.2.2.2.2.2.2.2) (fun u t9 => bM (dC, dI) (ty3 cI cJ cZ) (va_A ((mQ cI cZ k r ln cn tm se isI we br ma sf pa) ++ (mS cJ k aU aL uU uL) ++ (mT cI cJ k oU oL gi ta gU gL)) sz) (mTt cI cJ cZ k ln cn se isI we br ma sf pa u) t9) (va_A ((mQ cI cZ k r ln cn tm se isI we br ma sf pa) ++ (mS cJ k aU aL uU uL) ++ (mT cI cJ k oU oL gi ta gU gL)) sz)) 0 0 (va_A ((mQ cI cZ k r ln cn tm se isI we br ma sf pa) ++ (mS cJ k aU aL uU uL) ++ (mT cI cJ k oU oL gi ta gU gL)) sz) := by
  refine Met.ofW (cc := cX4_findTransfers) (maxL := 3) (ret := none) (by decide) rfl ?_
  intro p e s m args below meth c s₁ B hml hv
  obtain ⟨rfl, hsz, hP, hK, hD0⟩ := hv
  have hx := B.exec
  have hb := B.bytes
  have hr := B.returns
  have hts := atoms_spec (ws := wT yX4_findTransfers cX4_findTransfers 3 none) B.pre
  have hT := wT_T hts
  have hown : s.vm.findClass RX4 = some m.cls := findClass_of_methodNamed B.named
  have hlocks := B.notSynchronized
  subst hsz
  have hD := hD0.self (sz := s.heap.size)
  generalize hAe : va_A ((mQ cI cZ k r ln cn tm se isI we br ma sf pa) ++ (mS cJ k aU aL uU uL) ++ (mT cI cJ k oU oL gi ta gU gL)) s.heap.size = A at hD ⊢
  have hA : ∀ q : Nat, s.heap.size ≤ q → A q := fun q h => by rw [← hAe]; exact Or.inr h
  have hS : va_S A s.heap s.heap [] := va_S.rf
  have hl := lv_entry ([.ref (k 0)]) (n := 3) (Nat.le_of_ble_eq_true rfl)
  rw [lg_entry_eq]
  generalize (lg_sl ([.ref (k 0)]) ++ List.replicate (3 - (lg_sl ([.ref (k 0)])).length) Slot.unset).toArray = ls at hl ⊢
  have hl : lv_has ls 3 [(0, .ref (k 0))] := hl
  refine lv_aload_n hx hb dX4_findTransfers_0 rfl (lv_at hl 0 rfl) ?_
  refine fM_v (wc := (mQ cI cZ k r ln cn tm se isI we br ma sf pa) ++ (mS cJ k aU aL uU uL)) (wr := mT cI cJ k oU oL gi ta gU gL) (rMV (wc := (mQ cI cZ k r ln cn tm se isI we br ma sf pa) ++ (mS cJ k aU aL uU uL)) (As := []) (rest := []) ⟨hx, hb, hml, hown, hT⟩ (c_X4_findDues (l := l) s.heap.size hok) (cwTV 0 hT kc_X4_findDues km_X4_154 ki_X4_findDues ks_X4_findDues kn_X4 rfl rfl md_X4_findDues ⟨Nat.le_of_ble_eq_true rfl, Nat.le_of_ble_eq_true rfl⟩) (va_P.sub (ws' := (mQ cI cZ k r ln cn tm se isI we br ma sf pa) ++ (mS cJ k aU aL uU uL)) hP [0, 1, 2, 3, 4, 5, 6, 7, 8, 9, 10, 11] rfl) (va_D.sub (ws' := (mQ cI cZ k r ln cn tm se isI we br ma sf pa) ++ (mS cJ k aU aL uU uL)) hD [0, 1, 2, 3, 4, 5, 6, 7, 8, 9, 10, 11] (by decide) rfl) hK (va_recv hK hP (ci := 4) (q0 := 0) rfl rfl) rfl hl.1 rfl (Nat.le_of_ble_eq_true rfl) dX4_findTransfers_1 ⟨Nat.le_of_ble_eq_true rfl, Nat.le_of_ble_eq_true rfl⟩) hP hD hS hA (fun u_1 H locs hw_1 hP hD hS => ?_)
  have hP : va_P (dC, dI) vwCl ((mQ cI cZ k ((m_re ln cn se isI we ma sf) - (m_duN ln cn se isI we br ma sf 6)) ln cn tm se isI we br ma sf pa) ++ (mS cJ k (vp_updL (vp_updL (vp_updL (vp_updL (vp_updL aU 0 (iL (m_ent ln cn se isI we).num)) 1 (iL (m_crN ln cn se isI we ma sf 6).num)) 2 (iL (m_re ln cn se isI we ma sf).num)) 4 (iL (m_duN ln cn se isI we br ma sf 6).num)) 3 (iL ((m_re ln cn se isI we ma sf) - (m_duN ln cn se isI we br ma sf 6)).num)) (vp_updL (vp_updL (vp_updL (vp_updL (vp_updL aL 0 (iL ((m_ent ln cn se isI we).den : Int))) 1 (iL ((m_crN ln cn se isI we ma sf 6).den : Int))) 2 (iL ((m_re ln cn se isI we ma sf).den : Int))) 4 (iL ((m_duN ln cn se isI we br ma sf 6).den : Int))) 3 (iL (((m_re ln cn se isI we ma sf) - (m_duN ln cn se isI we br ma sf 6)).den : Int))) (m_uUN ln cn se isI we br ma sf uU 6) (m_uLN ln cn se isI we br ma sf uL 6)) ++ (mT cI cJ k oU oL gi ta gU gL)) H := hP
  have hD : va_D A ((mQ cI cZ k ((m_re ln cn se isI we ma sf) - (m_duN ln cn se isI we br ma sf 6)) ln cn tm se isI we br ma sf pa) ++ (mS cJ k (vp_updL (vp_updL (vp_updL (vp_updL (vp_updL aU 0 (iL (m_ent ln cn se isI we).num)) 1 (iL (m_crN ln cn se isI we ma sf 6).num)) 2 (iL (m_re ln cn se isI we ma sf).num)) 4 (iL (m_duN ln cn se isI we br ma sf 6).num)) 3 (iL ((m_re ln cn se isI we ma sf) - (m_duN ln cn se isI we br ma sf 6)).num)) (vp_updL (vp_updL (vp_updL (vp_updL (vp_updL aL 0 (iL ((m_ent ln cn se isI we).den : Int))) 1 (iL ((m_crN ln cn se isI we ma sf 6).den : Int))) 2 (iL ((m_re ln cn se isI we ma sf).den : Int))) 4 (iL ((m_duN ln cn se isI we br ma sf 6).den : Int))) 3 (iL (((m_re ln cn se isI we ma sf) - (m_duN ln cn se isI we br ma sf 6)).den : Int))) (m_uUN ln cn se isI we br ma sf uU 6) (m_uLN ln cn se isI we br ma sf uL 6)) ++ (mT cI cJ k oU oL gi ta gU gL)) := hD
  refine lv_iconst (v := 0) hx hb dX4_findTransfers_4 (by decide) ?_
  refine lv_istore_n (lv' := [(1, .int 0), (0, .ref (k 0))]) hx hb dX4_findTransfers_5 rfl hl (by decide) rfl (fun ls hl => ?_)
  refine loopM (fun nn ls H locs => ∃ i : Nat, ∃ (r1 : Rat), i ≤ 6 ∧ nn = 6 - i ∧ True ∧ lv_has ls 3 [(1, .int (nI i)), (0, .ref (k 0))] ∧ va_P (dC, dI) vwCl ((mQ cI cZ k r1 ln cn tm se isI we br ma sf pa) ++ (mS cJ k (vp_updL (vp_updL (vp_updL (vp_updL (vp_updL aU 0 (iL (m_ent ln cn se isI we).num)) 1 (iL (m_crN ln cn se isI we ma sf 6).num)) 2 (iL (m_re ln cn se isI we ma sf).num)) 4 (iL (m_duN ln cn se isI we br ma sf 6).num)) 3 (iL ((m_re ln cn se isI we ma sf) - (m_duN ln cn se isI we br ma sf 6)).num)) (vp_updL (vp_updL (vp_updL (vp_updL (vp_updL aL 0 (iL ((m_ent ln cn se isI we).den : Int))) 1 (iL ((m_crN ln cn se isI we ma sf 6).den : Int))) 2 (iL ((m_re ln cn se isI we ma sf).den : Int))) 4 (iL ((m_duN ln cn se isI we br ma sf 6).den : Int))) 3 (iL (((m_re ln cn se isI we ma sf) - (m_duN ln cn se isI we br ma sf 6)).den : Int))) (m_uUN ln cn se isI we br ma sf uU 6) (m_uLN ln cn se isI we br ma sf uL 6)) ++ (mT cI cJ k (q_oU (m_f0 ln cn se isI we br ma sf pa) oU i) (q_oL (m_f0 ln cn se isI we br ma sf pa) oL i) gi ta gU gL)) H ∧ va_D A ((mQ cI cZ k r1 ln cn tm se isI we br ma sf pa) ++ (mS cJ k (vp_updL (vp_updL (vp_updL (vp_updL (vp_updL aU 0 (iL (m_ent ln cn se isI we).num)) 1 (iL (m_crN ln cn se isI we ma sf 6).num)) 2 (iL (m_re ln cn se isI we ma sf).num)) 4 (iL (m_duN ln cn se isI we br ma sf 6).num)) 3 (iL ((m_re ln cn se isI we ma sf) - (m_duN ln cn se isI we br ma sf 6)).num)) (vp_updL (vp_updL (vp_updL (vp_updL (vp_updL aL 0 (iL ((m_ent ln cn se isI we).den : Int))) 1 (iL ((m_crN ln cn se isI we ma sf 6).den : Int))) 2 (iL ((m_re ln cn se isI we ma sf).den : Int))) 4 (iL ((m_duN ln cn se isI we br ma sf 6).den : Int))) 3 (iL (((m_re ln cn se isI we ma sf) - (m_duN ln cn se isI we br ma sf 6)).den : Int))) (m_uUN ln cn se isI we br ma sf uU 6) (m_uLN ln cn se isI we br ma sf uL 6)) ++ (mT cI cJ k (q_oU (m_f0 ln cn se isI we br ma sf pa) oU i) (q_oL (m_f0 ln cn se isI we br ma sf pa) oL i) gi ta gU gL)) ∧ va_S A s.heap H locs) (n0 := 6) ⟨0, ((m_re ln cn se isI we ma sf) - (m_duN ln cn se isI we br ma sf 6)), Nat.zero_le _, rfl, trivial, lv_sub hl [0, 1] rfl, hP, hD, hS⟩ (fun nn ls H locs hI ih => ?_)
  obtain ⟨i, r1, hle, hn9, hf, hl, hP, hD, hS⟩ := hI
  rcases Nat.lt_or_ge i 6 with hi | hge
  · refine lv_iload_n hx hb dX4_findTransfers_6 rfl (lv_at hl 0 rfl) ?_
    refine lv_bipush (v := 6) hx hb dX4_findTransfers_7 (by decide) ?_
    refine lv_icmp_ge (tgt := 66) hx hb dX4_findTransfers_9 (by decide) (fun h => absurd h (nI_ge (b := 6) hi (by decide))) (fun c_9 => ?_)
    refine lv_aload_n hx hb dX4_findTransfers_12 rfl (lv_at hl 1 rfl) ?_
    refine va_get (D := (dC, dI)) (ci := 4) (v := .ref (k 12)) (C := RX4) (T := TX4) (N := 22) hx hb hT hiX4 hown hK hP 0 rfl rfl 15 (by decide) (hT _ kf_X4_49) (fun _ h9 => h9) rfl dX4_findTransfers_13 ?_
    refine lv_iload_n hx hb dX4_findTransfers_16 rfl (lv_at hl 0 rfl) ?_
    refine lv_lconst (v := iL 0) hx hb dX4_findTransfers_17 rfl ?_
    refine ast_l hx hb hK hP hD hS 12 1 rfl rfl (by decide) (w := i) rfl (by omega) dX4_findTransfers_18 (fun H locs hP hD hS => ?_)
    have hP : va_P (dC, dI) vwCl ((mQ cI cZ k r1 ln cn tm se isI we br ma sf pa) ++ (mS cJ k (vp_updL (vp_updL (vp_updL (vp_updL (vp_updL aU 0 (iL (m_ent ln cn se isI we).num)) 1 (iL (m_crN ln cn se isI we ma sf 6).num)) 2 (iL (m_re ln cn se isI we ma sf).num)) 4 (iL (m_duN ln cn se isI we br ma sf 6).num)) 3 (iL ((m_re ln cn se isI we ma sf) - (m_duN ln cn se isI we br ma sf 6)).num)) (vp_updL (vp_updL (vp_updL (vp_updL (vp_updL aL 0 (iL ((m_ent ln cn se isI we).den : Int))) 1 (iL ((m_crN ln cn se isI we ma sf 6).den : Int))) 2 (iL ((m_re ln cn se isI we ma sf).den : Int))) 4 (iL ((m_duN ln cn se isI we br ma sf 6).den : Int))) 3 (iL (((m_re ln cn se isI we ma sf) - (m_duN ln cn se isI we br ma sf 6)).den : Int))) (m_uUN ln cn se isI we br ma sf uU 6) (m_uLN ln cn se isI we br ma sf uL 6)) ++ (mT cI cJ k (vp_updL (q_oU (m_f0 ln cn se isI we br ma sf pa) oU i) i (iL 0)) (q_oL (m_f0 ln cn se isI we br ma sf pa) oL i) gi ta gU gL)) H := hP
    have hD : va_D A ((mQ cI cZ k r1 ln cn tm se isI we br ma sf pa) ++ (mS cJ k (vp_updL (vp_updL (vp_updL (vp_updL (vp_updL aU 0 (iL (m_ent ln cn se isI we).num)) 1 (iL (m_crN ln cn se isI we ma sf 6).num)) 2 (iL (m_re ln cn se isI we ma sf).num)) 4 (iL (m_duN ln cn se isI we br ma sf 6).num)) 3 (iL ((m_re ln cn se isI we ma sf) - (m_duN ln cn se isI we br ma sf 6)).num)) (vp_updL (vp_updL (vp_updL (vp_updL (vp_updL aL 0 (iL ((m_ent ln cn se isI we).den : Int))) 1 (iL ((m_crN ln cn se isI we ma sf 6).den : Int))) 2 (iL ((m_re ln cn se isI we ma sf).den : Int))) 4 (iL ((m_duN ln cn se isI we br ma sf 6).den : Int))) 3 (iL (((m_re ln cn se isI we ma sf) - (m_duN ln cn se isI we br ma sf 6)).den : Int))) (m_uUN ln cn se isI we br ma sf uU 6) (m_uLN ln cn se isI we br ma sf uL 6)) ++ (mT cI cJ k (vp_updL (q_oU (m_f0 ln cn se isI we br ma sf pa) oU i) i (iL 0)) (q_oL (m_f0 ln cn se isI we br ma sf pa) oL i) gi ta gU gL)) := hD
    refine lv_aload_n hx hb dX4_findTransfers_19 rfl (lv_at hl 1 rfl) ?_
    refine va_get (D := (dC, dI)) (ci := 4) (v := .ref (k 13)) (C := RX4) (T := TX4) (N := 22) hx hb hT hiX4 hown hK hP 0 rfl rfl 16 (by decide) (hT _ kf_X4_52) (fun _ h9 => h9) rfl dX4_findTransfers_20 ?_
    refine lv_iload_n hx hb dX4_findTransfers_23 rfl (lv_at hl 0 rfl) ?_
    refine lv_lconst (v := iL 1) hx hb dX4_findTransfers_24 rfl ?_
    refine ast_l hx hb hK hP hD hS 13 1 rfl rfl (by decide) (w := i) rfl (by omega) dX4_findTransfers_25 (fun H locs hP hD hS => ?_)
    have hP : va_P (dC, dI) vwCl ((mQ cI cZ k r1 ln cn tm se isI we br ma sf pa) ++ (mS cJ k (vp_updL (vp_updL (vp_updL (vp_updL (vp_updL aU 0 (iL (m_ent ln cn se isI we).num)) 1 (iL (m_crN ln cn se isI we ma sf 6).num)) 2 (iL (m_re ln cn se isI we ma sf).num)) 4 (iL (m_duN ln cn se isI we br ma sf 6).num)) 3 (iL ((m_re ln cn se isI we ma sf) - (m_duN ln cn se isI we br ma sf 6)).num)) (vp_updL (vp_updL (vp_updL (vp_updL (vp_updL aL 0 (iL ((m_ent ln cn se isI we).den : Int))) 1 (iL ((m_crN ln cn se isI we ma sf 6).den : Int))) 2 (iL ((m_re ln cn se isI we ma sf).den : Int))) 4 (iL ((m_duN ln cn se isI we br ma sf 6).den : Int))) 3 (iL (((m_re ln cn se isI we ma sf) - (m_duN ln cn se isI we br ma sf 6)).den : Int))) (m_uUN ln cn se isI we br ma sf uU 6) (m_uLN ln cn se isI we br ma sf uL 6)) ++ (mT cI cJ k (vp_updL (q_oU (m_f0 ln cn se isI we br ma sf pa) oU i) i (iL 0)) (vp_updL (q_oL (m_f0 ln cn se isI we br ma sf pa) oL i) i (iL 1)) gi ta gU gL)) H := hP
    have hD : va_D A ((mQ cI cZ k r1 ln cn tm se isI we br ma sf pa) ++ (mS cJ k (vp_updL (vp_updL (vp_updL (vp_updL (vp_updL aU 0 (iL (m_ent ln cn se isI we).num)) 1 (iL (m_crN ln cn se isI we ma sf 6).num)) 2 (iL (m_re ln cn se isI we ma sf).num)) 4 (iL (m_duN ln cn se isI we br ma sf 6).num)) 3 (iL ((m_re ln cn se isI we ma sf) - (m_duN ln cn se isI we br ma sf 6)).num)) (vp_updL (vp_updL (vp_updL (vp_updL (vp_updL aL 0 (iL ((m_ent ln cn se isI we).den : Int))) 1 (iL ((m_crN ln cn se isI we ma sf 6).den : Int))) 2 (iL ((m_re ln cn se isI we ma sf).den : Int))) 4 (iL ((m_duN ln cn se isI we br ma sf 6).den : Int))) 3 (iL (((m_re ln cn se isI we ma sf) - (m_duN ln cn se isI we br ma sf 6)).den : Int))) (m_uUN ln cn se isI we br ma sf uU 6) (m_uLN ln cn se isI we br ma sf uL 6)) ++ (mT cI cJ k (vp_updL (q_oU (m_f0 ln cn se isI we br ma sf pa) oU i) i (iL 0)) (vp_updL (q_oL (m_f0 ln cn se isI we br ma sf pa) oL i) i (iL 1)) gi ta gU gL)) := hD
    refine lv_aload_n hx hb dX4_findTransfers_26 rfl (lv_at hl 1 rfl) ?_
    refine va_get (D := (dC, dI)) (ci := 4) (v := .ref (k 2)) (C := RX4) (T := TX4) (N := 22) hx hb hT hiX4 hown hK hP 0 rfl rfl 5 (by decide) (hT _ kf_X4_17) (fun _ h9 => h9) rfl dX4_findTransfers_27 ?_
    refine lv_iload_n hx hb dX4_findTransfers_30 rfl (lv_at hl 0 rfl) ?_
    refine ald_z hx hb hK hP 2 2 rfl rfl (by decide) (w := i) rfl (by omega) dX4_findTransfers_31 ?_
    refine lv_if_eq (tgt := 60) hx hb dX4_findTransfers_32 (by decide) (fun c_32 => ?_) (fun c_32 => ?_)
    · refine lv_iinc (v := (nI (i + 1))) (lv' := [(1, .int (nI (i + 1))), (0, .ref (k 0))]) hx hb dX4_findTransfers_60 hl (k := 0) rfl (nI_1 i) (by decide) rfl (fun ls hl => ?_)
      refine lv_goto (tgt := 6) hx hb dX4_findTransfers_63 (by decide) ?_
      have ew0 : vp_updL (q_oU (m_f0 ln cn se isI we br ma sf pa) oU i) i (iL 0) = (q_oU (m_f0 ln cn se isI we br ma sf pa) oU (i + 1)) := (by first | rw [updL_uu, q_oU_s, m_f0_p c_32] | (rw [q_oU_s, m_f0_n c_32]; rfl))
      rw [ew0] at hP hD
      have ew1 : vp_updL (q_oL (m_f0 ln cn se isI we br ma sf pa) oL i) i (iL 1) = (q_oL (m_f0 ln cn se isI we br ma sf pa) oL (i + 1)) := (by first | rw [updL_uu, q_oL_s, m_f0_p c_32] | (rw [q_oL_s, m_f0_n c_32]; rfl))
      rw [ew1] at hP hD
      refine ih (6 - (i + 1)) ls H locs (by omega) ⟨(i + 1), r1, by omega, rfl, trivial, ?_, hP, hD, hS⟩
      exact lv_sub hl [0, 1] rfl
    · refine lv_aload_n hx hb dX4_findTransfers_35 rfl (lv_at hl 1 rfl) ?_
      refine lv_iload_n hx hb dX4_findTransfers_36 rfl (lv_at hl 0 rfl) ?_
      refine fM_v (wc := (mQ cI cZ k r1 ln cn tm se isI we br ma sf pa) ++ (mS cJ k (vp_updL (vp_updL (vp_updL (vp_updL (vp_updL aU 0 (iL (m_ent ln cn se isI we).num)) 1 (iL (m_crN ln cn se isI we ma sf 6).num)) 2 (iL (m_re ln cn se isI we ma sf).num)) 4 (iL (m_duN ln cn se isI we br ma sf 6).num)) 3 (iL ((m_re ln cn se isI we ma sf) - (m_duN ln cn se isI we br ma sf 6)).num)) (vp_updL (vp_updL (vp_updL (vp_updL (vp_updL aL 0 (iL ((m_ent ln cn se isI we).den : Int))) 1 (iL ((m_crN ln cn se isI we ma sf 6).den : Int))) 2 (iL ((m_re ln cn se isI we ma sf).den : Int))) 4 (iL ((m_duN ln cn se isI we br ma sf 6).den : Int))) 3 (iL (((m_re ln cn se isI we ma sf) - (m_duN ln cn se isI we br ma sf 6)).den : Int))) (m_uUN ln cn se isI we br ma sf uU 6) (m_uLN ln cn se isI we br ma sf uL 6))) (wr := mT cI cJ k (vp_updL (q_oU (m_f0 ln cn se isI we br ma sf pa) oU i) i (iL 0)) (vp_updL (q_oL (m_f0 ln cn se isI we br ma sf pa) oL i) i (iL 1)) gi ta gU gL) (rMV (wc := (mQ cI cZ k r1 ln cn tm se isI we br ma sf pa) ++ (mS cJ k (vp_updL (vp_updL (vp_updL (vp_updL (vp_updL aU 0 (iL (m_ent ln cn se isI we).num)) 1 (iL (m_crN ln cn se isI we ma sf 6).num)) 2 (iL (m_re ln cn se isI we ma sf).num)) 4 (iL (m_duN ln cn se isI we br ma sf 6).num)) 3 (iL ((m_re ln cn se isI we ma sf) - (m_duN ln cn se isI we br ma sf 6)).num)) (vp_updL (vp_updL (vp_updL (vp_updL (vp_updL aL 0 (iL ((m_ent ln cn se isI we).den : Int))) 1 (iL ((m_crN ln cn se isI we ma sf 6).den : Int))) 2 (iL ((m_re ln cn se isI we ma sf).den : Int))) 4 (iL ((m_duN ln cn se isI we br ma sf 6).den : Int))) 3 (iL (((m_re ln cn se isI we ma sf) - (m_duN ln cn se isI we br ma sf 6)).den : Int))) (m_uUN ln cn se isI we br ma sf uU 6) (m_uLN ln cn se isI we br ma sf uL 6))) (As := [.int (nI i)]) (rest := []) ⟨hx, hb, hml, hown, hT⟩ (c_X4_findOver (l := l) H.size i (m_dU ln cn se isI we br ma sf (m_un ma i)) hi hok.1 hwe (uUN_at (un_lt hok.1 hi)) (uLN_at (un_lt hok.1 hi)) (dU_fit hok (un_lt hok.1 hi)) (m_duN ln cn se isI we br ma sf 6) rfl rfl (hfo i hi c_32) hpa (hpw i hi)) (cwTV 1 hT kc_X4_findOver km_X4_182 ki_X4_findOver ks_X4_findOver kn_X4 rfl rfl md_X4_findOver ⟨Nat.le_of_ble_eq_true rfl, Nat.le_of_ble_eq_true rfl⟩) (va_P.sub (ws' := (mQ cI cZ k r1 ln cn tm se isI we br ma sf pa) ++ (mS cJ k (vp_updL (vp_updL (vp_updL (vp_updL (vp_updL aU 0 (iL (m_ent ln cn se isI we).num)) 1 (iL (m_crN ln cn se isI we ma sf 6).num)) 2 (iL (m_re ln cn se isI we ma sf).num)) 4 (iL (m_duN ln cn se isI we br ma sf 6).num)) 3 (iL ((m_re ln cn se isI we ma sf) - (m_duN ln cn se isI we br ma sf 6)).num)) (vp_updL (vp_updL (vp_updL (vp_updL (vp_updL aL 0 (iL ((m_ent ln cn se isI we).den : Int))) 1 (iL ((m_crN ln cn se isI we ma sf 6).den : Int))) 2 (iL ((m_re ln cn se isI we ma sf).den : Int))) 4 (iL ((m_duN ln cn se isI we br ma sf 6).den : Int))) 3 (iL (((m_re ln cn se isI we ma sf) - (m_duN ln cn se isI we br ma sf 6)).den : Int))) (m_uUN ln cn se isI we br ma sf uU 6) (m_uLN ln cn se isI we br ma sf uL 6))) hP [0, 1, 2, 3, 4, 5, 6, 7, 8, 9, 10, 11] rfl) (va_D.sub (ws' := (mQ cI cZ k r1 ln cn tm se isI we br ma sf pa) ++ (mS cJ k (vp_updL (vp_updL (vp_updL (vp_updL (vp_updL aU 0 (iL (m_ent ln cn se isI we).num)) 1 (iL (m_crN ln cn se isI we ma sf 6).num)) 2 (iL (m_re ln cn se isI we ma sf).num)) 4 (iL (m_duN ln cn se isI we br ma sf 6).num)) 3 (iL ((m_re ln cn se isI we ma sf) - (m_duN ln cn se isI we br ma sf 6)).num)) (vp_updL (vp_updL (vp_updL (vp_updL (vp_updL aL 0 (iL ((m_ent ln cn se isI we).den : Int))) 1 (iL ((m_crN ln cn se isI we ma sf 6).den : Int))) 2 (iL ((m_re ln cn se isI we ma sf).den : Int))) 4 (iL ((m_duN ln cn se isI we br ma sf 6).den : Int))) 3 (iL (((m_re ln cn se isI we ma sf) - (m_duN ln cn se isI we br ma sf 6)).den : Int))) (m_uUN ln cn se isI we br ma sf uU 6) (m_uLN ln cn se isI we br ma sf uL 6))) hD [0, 1, 2, 3, 4, 5, 6, 7, 8, 9, 10, 11] (by decide) rfl) hK (va_recv hK hP (ci := 4) (q0 := 0) rfl rfl) rfl hl.1 rfl (Nat.le_of_ble_eq_true rfl) dX4_findTransfers_37 ⟨Nat.le_of_ble_eq_true rfl, Nat.le_of_ble_eq_true rfl⟩) hP hD hS hA (fun u_37 H locs hw_37 hP hD hS => ?_)
      have hP : va_P (dC, dI) vwCl ((mQ cI cZ k (iQ ((pa i).toInt) - (m_fair (m_due we br ma i (m_dU ln cn se isI we br ma sf (m_un ma i))) (m_duN ln cn se isI we br ma sf 6) ((m_paN pa 6).toInt))) ln cn tm se isI we br ma sf pa) ++ (mS cJ k (vp_updL (vp_updL (vp_updL (vp_updL (vp_updL aU 0 (iL (m_ent ln cn se isI we).num)) 1 (iL (m_crN ln cn se isI we ma sf 6).num)) 2 (iL (m_re ln cn se isI we ma sf).num)) 4 (iL (m_duN ln cn se isI we br ma sf 6).num)) 3 (iL ((m_re ln cn se isI we ma sf) - (m_duN ln cn se isI we br ma sf 6)).num)) (vp_updL (vp_updL (vp_updL (vp_updL (vp_updL aL 0 (iL ((m_ent ln cn se isI we).den : Int))) 1 (iL ((m_crN ln cn se isI we ma sf 6).den : Int))) 2 (iL ((m_re ln cn se isI we ma sf).den : Int))) 4 (iL ((m_duN ln cn se isI we br ma sf 6).den : Int))) 3 (iL (((m_re ln cn se isI we ma sf) - (m_duN ln cn se isI we br ma sf 6)).den : Int))) (m_uUN ln cn se isI we br ma sf uU 6) (m_uLN ln cn se isI we br ma sf uL 6)) ++ (mT cI cJ k (vp_updL (q_oU (m_f0 ln cn se isI we br ma sf pa) oU i) i (iL 0)) (vp_updL (q_oL (m_f0 ln cn se isI we br ma sf pa) oL i) i (iL 1)) gi ta gU gL)) H := hP
      have hD : va_D A ((mQ cI cZ k (iQ ((pa i).toInt) - (m_fair (m_due we br ma i (m_dU ln cn se isI we br ma sf (m_un ma i))) (m_duN ln cn se isI we br ma sf 6) ((m_paN pa 6).toInt))) ln cn tm se isI we br ma sf pa) ++ (mS cJ k (vp_updL (vp_updL (vp_updL (vp_updL (vp_updL aU 0 (iL (m_ent ln cn se isI we).num)) 1 (iL (m_crN ln cn se isI we ma sf 6).num)) 2 (iL (m_re ln cn se isI we ma sf).num)) 4 (iL (m_duN ln cn se isI we br ma sf 6).num)) 3 (iL ((m_re ln cn se isI we ma sf) - (m_duN ln cn se isI we br ma sf 6)).num)) (vp_updL (vp_updL (vp_updL (vp_updL (vp_updL aL 0 (iL ((m_ent ln cn se isI we).den : Int))) 1 (iL ((m_crN ln cn se isI we ma sf 6).den : Int))) 2 (iL ((m_re ln cn se isI we ma sf).den : Int))) 4 (iL ((m_duN ln cn se isI we br ma sf 6).den : Int))) 3 (iL (((m_re ln cn se isI we ma sf) - (m_duN ln cn se isI we br ma sf 6)).den : Int))) (m_uUN ln cn se isI we br ma sf uU 6) (m_uLN ln cn se isI we br ma sf uL 6)) ++ (mT cI cJ k (vp_updL (q_oU (m_f0 ln cn se isI we br ma sf pa) oU i) i (iL 0)) (vp_updL (q_oL (m_f0 ln cn se isI we br ma sf pa) oL i) i (iL 1)) gi ta gU gL)) := hD
      refine lv_aload_n hx hb dX4_findTransfers_40 rfl (lv_at hl 1 rfl) ?_
      refine va_get (D := (dC, dI)) (ci := 4) (v := .ref (k 12)) (C := RX4) (T := TX4) (N := 22) hx hb hT hiX4 hown hK hP 0 rfl rfl 15 (by decide) (hT _ kf_X4_49) (fun _ h9 => h9) rfl dX4_findTransfers_41 ?_
      refine lv_iload_n hx hb dX4_findTransfers_44 rfl (lv_at hl 0 rfl) ?_
      refine lv_aload_n hx hb dX4_findTransfers_45 rfl (lv_at hl 1 rfl) ?_
      refine va_get (D := (dC, dI)) (ci := 4) (v := .long (iL ((iQ ((pa i).toInt) - (m_fair (m_due we br ma i (m_dU ln cn se isI we br ma sf (m_un ma i))) (m_duN ln cn se isI we br ma sf 6) ((m_paN pa 6).toInt)))).num)) (C := RX4) (T := TX4) (N := 22) hx hb hT hiX4 hown hK hP 0 rfl rfl 0 (by decide) (hT _ kf_X4_75) (fun _ h9 => h9) rfl dX4_findTransfers_46 ?_
      refine ast_l hx hb hK hP hD hS 12 1 rfl rfl (by decide) (w := i) rfl (by omega) dX4_findTransfers_49 (fun H locs hP hD hS => ?_)
      have hP : va_P (dC, dI) vwCl ((mQ cI cZ k (iQ ((pa i).toInt) - (m_fair (m_due we br ma i (m_dU ln cn se isI we br ma sf (m_un ma i))) (m_duN ln cn se isI we br ma sf 6) ((m_paN pa 6).toInt))) ln cn tm se isI we br ma sf pa) ++ (mS cJ k (vp_updL (vp_updL (vp_updL (vp_updL (vp_updL aU 0 (iL (m_ent ln cn se isI we).num)) 1 (iL (m_crN ln cn se isI we ma sf 6).num)) 2 (iL (m_re ln cn se isI we ma sf).num)) 4 (iL (m_duN ln cn se isI we br ma sf 6).num)) 3 (iL ((m_re ln cn se isI we ma sf) - (m_duN ln cn se isI we br ma sf 6)).num)) (vp_updL (vp_updL (vp_updL (vp_updL (vp_updL aL 0 (iL ((m_ent ln cn se isI we).den : Int))) 1 (iL ((m_crN ln cn se isI we ma sf 6).den : Int))) 2 (iL ((m_re ln cn se isI we ma sf).den : Int))) 4 (iL ((m_duN ln cn se isI we br ma sf 6).den : Int))) 3 (iL (((m_re ln cn se isI we ma sf) - (m_duN ln cn se isI we br ma sf 6)).den : Int))) (m_uUN ln cn se isI we br ma sf uU 6) (m_uLN ln cn se isI we br ma sf uL 6)) ++ (mT cI cJ k (vp_updL (vp_updL (q_oU (m_f0 ln cn se isI we br ma sf pa) oU i) i (iL 0)) i (iL ((iQ ((pa i).toInt) - (m_fair (m_due we br ma i (m_dU ln cn se isI we br ma sf (m_un ma i))) (m_duN ln cn se isI we br ma sf 6) ((m_paN pa 6).toInt)))).num)) (vp_updL (q_oL (m_f0 ln cn se isI we br ma sf pa) oL i) i (iL 1)) gi ta gU gL)) H := hP
      have hD : va_D A ((mQ cI cZ k (iQ ((pa i).toInt) - (m_fair (m_due we br ma i (m_dU ln cn se isI we br ma sf (m_un ma i))) (m_duN ln cn se isI we br ma sf 6) ((m_paN pa 6).toInt))) ln cn tm se isI we br ma sf pa) ++ (mS cJ k (vp_updL (vp_updL (vp_updL (vp_updL (vp_updL aU 0 (iL (m_ent ln cn se isI we).num)) 1 (iL (m_crN ln cn se isI we ma sf 6).num)) 2 (iL (m_re ln cn se isI we ma sf).num)) 4 (iL (m_duN ln cn se isI we br ma sf 6).num)) 3 (iL ((m_re ln cn se isI we ma sf) - (m_duN ln cn se isI we br ma sf 6)).num)) (vp_updL (vp_updL (vp_updL (vp_updL (vp_updL aL 0 (iL ((m_ent ln cn se isI we).den : Int))) 1 (iL ((m_crN ln cn se isI we ma sf 6).den : Int))) 2 (iL ((m_re ln cn se isI we ma sf).den : Int))) 4 (iL ((m_duN ln cn se isI we br ma sf 6).den : Int))) 3 (iL (((m_re ln cn se isI we ma sf) - (m_duN ln cn se isI we br ma sf 6)).den : Int))) (m_uUN ln cn se isI we br ma sf uU 6) (m_uLN ln cn se isI we br ma sf uL 6)) ++ (mT cI cJ k (vp_updL (vp_updL (q_oU (m_f0 ln cn se isI we br ma sf pa) oU i) i (iL 0)) i (iL ((iQ ((pa i).toInt) - (m_fair (m_due we br ma i (m_dU ln cn se isI we br ma sf (m_un ma i))) (m_duN ln cn se isI we br ma sf 6) ((m_paN pa 6).toInt)))).num)) (vp_updL (q_oL (m_f0 ln cn se isI we br ma sf pa) oL i) i (iL 1)) gi ta gU gL)) := hD
      refine lv_aload_n hx hb dX4_findTransfers_50 rfl (lv_at hl 1 rfl) ?_
      refine va_get (D := (dC, dI)) (ci := 4) (v := .ref (k 13)) (C := RX4) (T := TX4) (N := 22) hx hb hT hiX4 hown hK hP 0 rfl rfl 16 (by decide) (hT _ kf_X4_52) (fun _ h9 => h9) rfl dX4_findTransfers_51 ?_
      refine lv_iload_n hx hb dX4_findTransfers_54 rfl (lv_at hl 0 rfl) ?_
      refine lv_aload_n hx hb dX4_findTransfers_55 rfl (lv_at hl 1 rfl) ?_
      refine va_get (D := (dC, dI)) (ci := 4) (v := .long (iL (((iQ ((pa i).toInt) - (m_fair (m_due we br ma i (m_dU ln cn se isI we br ma sf (m_un ma i))) (m_duN ln cn se isI we br ma sf 6) ((m_paN pa 6).toInt)))).den : Int))) (C := RX4) (T := TX4) (N := 22) hx hb hT hiX4 hown hK hP 0 rfl rfl 1 (by decide) (hT _ kf_X4_7) (fun _ h9 => h9) rfl dX4_findTransfers_56 ?_
      refine ast_l hx hb hK hP hD hS 13 1 rfl rfl (by decide) (w := i) rfl (by omega) dX4_findTransfers_59 (fun H locs hP hD hS => ?_)
      have hP : va_P (dC, dI) vwCl ((mQ cI cZ k (iQ ((pa i).toInt) - (m_fair (m_due we br ma i (m_dU ln cn se isI we br ma sf (m_un ma i))) (m_duN ln cn se isI we br ma sf 6) ((m_paN pa 6).toInt))) ln cn tm se isI we br ma sf pa) ++ (mS cJ k (vp_updL (vp_updL (vp_updL (vp_updL (vp_updL aU 0 (iL (m_ent ln cn se isI we).num)) 1 (iL (m_crN ln cn se isI we ma sf 6).num)) 2 (iL (m_re ln cn se isI we ma sf).num)) 4 (iL (m_duN ln cn se isI we br ma sf 6).num)) 3 (iL ((m_re ln cn se isI we ma sf) - (m_duN ln cn se isI we br ma sf 6)).num)) (vp_updL (vp_updL (vp_updL (vp_updL (vp_updL aL 0 (iL ((m_ent ln cn se isI we).den : Int))) 1 (iL ((m_crN ln cn se isI we ma sf 6).den : Int))) 2 (iL ((m_re ln cn se isI we ma sf).den : Int))) 4 (iL ((m_duN ln cn se isI we br ma sf 6).den : Int))) 3 (iL (((m_re ln cn se isI we ma sf) - (m_duN ln cn se isI we br ma sf 6)).den : Int))) (m_uUN ln cn se isI we br ma sf uU 6) (m_uLN ln cn se isI we br ma sf uL 6)) ++ (mT cI cJ k (vp_updL (vp_updL (q_oU (m_f0 ln cn se isI we br ma sf pa) oU i) i (iL 0)) i (iL ((iQ ((pa i).toInt) - (m_fair (m_due we br ma i (m_dU ln cn se isI we br ma sf (m_un ma i))) (m_duN ln cn se isI we br ma sf 6) ((m_paN pa 6).toInt)))).num)) (vp_updL (vp_updL (q_oL (m_f0 ln cn se isI we br ma sf pa) oL i) i (iL 1)) i (iL (((iQ ((pa i).toInt) - (m_fair (m_due we br ma i (m_dU ln cn se isI we br ma sf (m_un ma i))) (m_duN ln cn se isI we br ma sf 6) ((m_paN pa 6).toInt)))).den : Int))) gi ta gU gL)) H := hP
      have hD : va_D A ((mQ cI cZ k (iQ ((pa i).toInt) - (m_fair (m_due we br ma i (m_dU ln cn se isI we br ma sf (m_un ma i))) (m_duN ln cn se isI we br ma sf 6) ((m_paN pa 6).toInt))) ln cn tm se isI we br ma sf pa) ++ (mS cJ k (vp_updL (vp_updL (vp_updL (vp_updL (vp_updL aU 0 (iL (m_ent ln cn se isI we).num)) 1 (iL (m_crN ln cn se isI we ma sf 6).num)) 2 (iL (m_re ln cn se isI we ma sf).num)) 4 (iL (m_duN ln cn se isI we br ma sf 6).num)) 3 (iL ((m_re ln cn se isI we ma sf) - (m_duN ln cn se isI we br ma sf 6)).num)) (vp_updL (vp_updL (vp_updL (vp_updL (vp_updL aL 0 (iL ((m_ent ln cn se isI we).den : Int))) 1 (iL ((m_crN ln cn se isI we ma sf 6).den : Int))) 2 (iL ((m_re ln cn se isI we ma sf).den : Int))) 4 (iL ((m_duN ln cn se isI we br ma sf 6).den : Int))) 3 (iL (((m_re ln cn se isI we ma sf) - (m_duN ln cn se isI we br ma sf 6)).den : Int))) (m_uUN ln cn se isI we br ma sf uU 6) (m_uLN ln cn se isI we br ma sf uL 6)) ++ (mT cI cJ k (vp_updL (vp_updL (q_oU (m_f0 ln cn se isI we br ma sf pa) oU i) i (iL 0)) i (iL ((iQ ((pa i).toInt) - (m_fair (m_due we br ma i (m_dU ln cn se isI we br ma sf (m_un ma i))) (m_duN ln cn se isI we br ma sf 6) ((m_paN pa 6).toInt)))).num)) (vp_updL (vp_updL (q_oL (m_f0 ln cn se isI we br ma sf pa) oL i) i (iL 1)) i (iL (((iQ ((pa i).toInt) - (m_fair (m_due we br ma i (m_dU ln cn se isI we br ma sf (m_un ma i))) (m_duN ln cn se isI we br ma sf 6) ((m_paN pa 6).toInt)))).den : Int))) gi ta gU gL)) := hD
      refine lv_iinc (v := (nI (i + 1))) (lv' := [(1, .int (nI (i + 1))), (0, .ref (k 0))]) hx hb dX4_findTransfers_60 hl (k := 0) rfl (nI_1 i) (by decide) rfl (fun ls hl => ?_)
      refine lv_goto (tgt := 6) hx hb dX4_findTransfers_63 (by decide) ?_
      have ew0 : vp_updL (vp_updL (q_oU (m_f0 ln cn se isI we br ma sf pa) oU i) i (iL 0)) i (iL ((iQ ((pa i).toInt) - (m_fair (m_due we br ma i (m_dU ln cn se isI we br ma sf (m_un ma i))) (m_duN ln cn se isI we br ma sf 6) ((m_paN pa 6).toInt)))).num) = (q_oU (m_f0 ln cn se isI we br ma sf pa) oU (i + 1)) := (by first | rw [updL_uu, q_oU_s, m_f0_p c_32] | (rw [q_oU_s, m_f0_n c_32]; rfl))
      rw [ew0] at hP hD
      have ew1 : vp_updL (vp_updL (q_oL (m_f0 ln cn se isI we br ma sf pa) oL i) i (iL 1)) i (iL (((iQ ((pa i).toInt) - (m_fair (m_due we br ma i (m_dU ln cn se isI we br ma sf (m_un ma i))) (m_duN ln cn se isI we br ma sf 6) ((m_paN pa 6).toInt)))).den : Int)) = (q_oL (m_f0 ln cn se isI we br ma sf pa) oL (i + 1)) := (by first | rw [updL_uu, q_oL_s, m_f0_p c_32] | (rw [q_oL_s, m_f0_n c_32]; rfl))
      rw [ew1] at hP hD
      refine ih (6 - (i + 1)) ls H locs (by omega) ⟨(i + 1), (iQ ((pa i).toInt) - (m_fair (m_due we br ma i (m_dU ln cn se isI we br ma sf (m_un ma i))) (m_duN ln cn se isI we br ma sf 6) ((m_paN pa 6).toInt))), by omega, rfl, trivial, ?_, hP, hD, hS⟩
      exact lv_sub hl [0, 1] rfl
  · have hE : i = 6 := by omega
    subst hE
    refine lv_iload_n hx hb dX4_findTransfers_6 rfl (lv_at hl 0 rfl) ?_
    refine lv_bipush (v := 6) hx hb dX4_findTransfers_7 (by decide) ?_
    refine lv_icmp_ge (tgt := 66) hx hb dX4_findTransfers_9 (by decide) (fun c_9 => ?_) (fun h => absurd h (by decide))
    have hI0 := q_inv_0 (gi := gi) (ta := ta) (gU := gU) (gL := gL) (q_o_is (m_f0 ln cn se isI we br ma sf pa) oU oL) hf0
    have hr0 := q_rng hI0 hDq
    refine lv_aload_n hx hb dX4_findTransfers_66 rfl (lv_at hl 1 rfl) ?_
    refine lv_iconst (v := 0) hx hb dX4_findTransfers_67 (by decide) ?_
    refine va_put (D := (dC, dI)) (ci := 4) (v := .int 0) (ty := .int) (C := RX4) (T := TX4) (N := 22) hx hb hT hiX4 tyX4 tyX4_ok nmX4 hown hK hP hD hS 0 rfl rfl 17 (by decide) (hT _ kf_X4_185) (fun _ h9 => h9) rfl (by decide +kernel) rfl rfl (Nat.le_of_ble_eq_true rfl) dX4_findTransfers_68 (fun H locs hP hD hS => ?_)
    have hP : va_P (dC, dI) vwCl ((mQ cI cZ k r1 ln cn 0 se isI we br ma sf pa) ++ (mS cJ k (vp_updL (vp_updL (vp_updL (vp_updL (vp_updL aU 0 (iL (m_ent ln cn se isI we).num)) 1 (iL (m_crN ln cn se isI we ma sf 6).num)) 2 (iL (m_re ln cn se isI we ma sf).num)) 4 (iL (m_duN ln cn se isI we br ma sf 6).num)) 3 (iL ((m_re ln cn se isI we ma sf) - (m_duN ln cn se isI we br ma sf 6)).num)) (vp_updL (vp_updL (vp_updL (vp_updL (vp_updL aL 0 (iL ((m_ent ln cn se isI we).den : Int))) 1 (iL ((m_crN ln cn se isI we ma sf 6).den : Int))) 2 (iL ((m_re ln cn se isI we ma sf).den : Int))) 4 (iL ((m_duN ln cn se isI we br ma sf 6).den : Int))) 3 (iL (((m_re ln cn se isI we ma sf) - (m_duN ln cn se isI we br ma sf 6)).den : Int))) (m_uUN ln cn se isI we br ma sf uU 6) (m_uLN ln cn se isI we br ma sf uL 6)) ++ (mT cI cJ k (q_oU (m_f0 ln cn se isI we br ma sf pa) oU 6) (q_oL (m_f0 ln cn se isI we br ma sf pa) oL 6) gi ta gU gL)) H := hP
    have hD : va_D A ((mQ cI cZ k r1 ln cn 0 se isI we br ma sf pa) ++ (mS cJ k (vp_updL (vp_updL (vp_updL (vp_updL (vp_updL aU 0 (iL (m_ent ln cn se isI we).num)) 1 (iL (m_crN ln cn se isI we ma sf 6).num)) 2 (iL (m_re ln cn se isI we ma sf).num)) 4 (iL (m_duN ln cn se isI we br ma sf 6).num)) 3 (iL ((m_re ln cn se isI we ma sf) - (m_duN ln cn se isI we br ma sf 6)).num)) (vp_updL (vp_updL (vp_updL (vp_updL (vp_updL aL 0 (iL ((m_ent ln cn se isI we).den : Int))) 1 (iL ((m_crN ln cn se isI we ma sf 6).den : Int))) 2 (iL ((m_re ln cn se isI we ma sf).den : Int))) 4 (iL ((m_duN ln cn se isI we br ma sf 6).den : Int))) 3 (iL (((m_re ln cn se isI we ma sf) - (m_duN ln cn se isI we br ma sf 6)).den : Int))) (m_uUN ln cn se isI we br ma sf uU 6) (m_uLN ln cn se isI we br ma sf uL 6)) ++ (mT cI cJ k (q_oU (m_f0 ln cn se isI we br ma sf pa) oU 6) (q_oL (m_f0 ln cn se isI we br ma sf pa) oL 6) gi ta gU gL)) := hD
    refine lv_aload_n hx hb dX4_findTransfers_71 rfl (lv_at hl 1 rfl) ?_
    refine lv_iconst (v := (-1)) hx hb dX4_findTransfers_72 (by decide) ?_
    refine vp_callSi (rRV (As := [.int (-1)]) (rest := []) ⟨hx, hb, hml, hown, hT⟩ (c_X4_firstWith (l := l) (-1)) (cwTV 1 hT kc_X4_firstWith km_X4_188 ki_X4_firstWith ks_X4_firstWith kn_X4 rfl rfl md_X4_firstWith ⟨Nat.le_of_ble_eq_true rfl, Nat.le_of_ble_eq_true rfl⟩) (va_P.sub (ws' := (mW cI cZ k (iL (r1).num) (iL ((r1).den : Int)) ln cn 0 se isI we br ma sf pa) ++ (mT cI cJ k (q_oU (m_f0 ln cn se isI we br ma sf pa) oU 6) (q_oL (m_f0 ln cn se isI we br ma sf pa) oL 6) gi ta gU gL)) hP [0, 1, 2, 3, 4, 5, 6, 7, 12, 13, 14, 15, 16, 17] rfl) hK (va_recv hK hP (ci := 4) (q0 := 0) rfl rfl) rfl hl.1 rfl (Nat.le_of_ble_eq_true rfl) dX4_findTransfers_73 ⟨Nat.le_of_ble_eq_true rfl, Nat.le_of_ble_eq_true rfl⟩) (fun r_73 hw_73 => ?_)
    refine topi_eq (y := (q_cd (q_g (q_it (q_0 (m_f0 ln cn se isI we br ma sf pa)) 0).2.1))) (fw_g hI0.2.2.1 hr0 hw_73) ?_
    refine lv_istore_n (lv' := [(1, .int (q_cd (q_g (q_it (q_0 (m_f0 ln cn se isI we br ma sf pa)) 0).2.1))), (0, .ref (k 0))]) hx hb dX4_findTransfers_76 rfl hl (by decide) rfl (fun ls hl => ?_)
    refine lv_aload_n hx hb dX4_findTransfers_77 rfl (lv_at hl 1 rfl) ?_
    refine lv_iconst (v := 1) hx hb dX4_findTransfers_78 (by decide) ?_
    refine vp_callSi (rRV (As := [.int 1]) (rest := []) ⟨hx, hb, hml, hown, hT⟩ (c_X4_firstWith (l := l) 1) (cwTV 1 hT kc_X4_firstWith km_X4_188 ki_X4_firstWith ks_X4_firstWith kn_X4 rfl rfl md_X4_firstWith ⟨Nat.le_of_ble_eq_true rfl, Nat.le_of_ble_eq_true rfl⟩) (va_P.sub (ws' := (mW cI cZ k (iL (r1).num) (iL ((r1).den : Int)) ln cn 0 se isI we br ma sf pa) ++ (mT cI cJ k (q_oU (m_f0 ln cn se isI we br ma sf pa) oU 6) (q_oL (m_f0 ln cn se isI we br ma sf pa) oL 6) gi ta gU gL)) hP [0, 1, 2, 3, 4, 5, 6, 7, 12, 13, 14, 15, 16, 17] rfl) hK (va_recv hK hP (ci := 4) (q0 := 0) rfl rfl) rfl hl.1 rfl (Nat.le_of_ble_eq_true rfl) dX4_findTransfers_79 ⟨Nat.le_of_ble_eq_true rfl, Nat.le_of_ble_eq_true rfl⟩) (fun r_79 hw_79 => ?_)
    refine topi_eq (y := (q_cd (q_t (q_it (q_0 (m_f0 ln cn se isI we br ma sf pa)) 0).2.1))) (fw_t hI0.2.2.1 hr0 hw_79) ?_
    refine lv_istore_n (lv' := [(2, .int (q_cd (q_t (q_it (q_0 (m_f0 ln cn se isI we br ma sf pa)) 0).2.1))), (1, .int (q_cd (q_g (q_it (q_0 (m_f0 ln cn se isI we br ma sf pa)) 0).2.1))), (0, .ref (k 0))]) hx hb dX4_findTransfers_82 rfl hl (by decide) rfl (fun ls hl => ?_)
    refine loopM (fun nn ls H locs => ∃ (i : Nat) (r1 : Rat) (aU1 aL1 uU1 uL1 oU1 oL1 : Nat → Int64) (gi1 ta1 : Nat → Int32) (gU1 gL1 : Nat → Int64), nn = q_cnt (q_it (q_0 (m_f0 ln cn se isI we br ma sf pa)) i).2.1 ∧ (q_inv (q_it (q_0 (m_f0 ln cn se isI we br ma sf pa)) i) i D oU1 oL1 gi1 ta1 gU1 gL1) ∧ lv_has ls 3 [(2, .int (q_cd (q_t (q_it (q_0 (m_f0 ln cn se isI we br ma sf pa)) i).2.1))), (1, .int (q_cd (q_g (q_it (q_0 (m_f0 ln cn se isI we br ma sf pa)) i).2.1))), (0, .ref (k 0))] ∧ va_P (dC, dI) vwCl ((mQ cI cZ k r1 ln cn (nI i) se isI we br ma sf pa) ++ (mS cJ k aU1 aL1 uU1 uL1) ++ (mT cI cJ k oU1 oL1 gi1 ta1 gU1 gL1)) H ∧ va_D A ((mQ cI cZ k r1 ln cn (nI i) se isI we br ma sf pa) ++ (mS cJ k aU1 aL1 uU1 uL1) ++ (mT cI cJ k oU1 oL1 gi1 ta1 gU1 gL1)) ∧ va_S A s.heap H locs) (n0 := q_cnt (q_it (q_0 (m_f0 ln cn se isI we br ma sf pa)) 0).2.1) ⟨0, r1, (vp_updL (vp_updL (vp_updL (vp_updL (vp_updL aU 0 (iL (m_ent ln cn se isI we).num)) 1 (iL (m_crN ln cn se isI we ma sf 6).num)) 2 (iL (m_re ln cn se isI we ma sf).num)) 4 (iL (m_duN ln cn se isI we br ma sf 6).num)) 3 (iL ((m_re ln cn se isI we ma sf) - (m_duN ln cn se isI we br ma sf 6)).num)), (vp_updL (vp_updL (vp_updL (vp_updL (vp_updL aL 0 (iL ((m_ent ln cn se isI we).den : Int))) 1 (iL ((m_crN ln cn se isI we ma sf 6).den : Int))) 2 (iL ((m_re ln cn se isI we ma sf).den : Int))) 4 (iL ((m_duN ln cn se isI we br ma sf 6).den : Int))) 3 (iL (((m_re ln cn se isI we ma sf) - (m_duN ln cn se isI we br ma sf 6)).den : Int))), (m_uUN ln cn se isI we br ma sf uU 6), (m_uLN ln cn se isI we br ma sf uL 6), (q_oU (m_f0 ln cn se isI we br ma sf pa) oU 6), (q_oL (m_f0 ln cn se isI we br ma sf pa) oL 6), gi, ta, gU, gL, rfl, hI0, lv_sub hl [0, 1, 2] rfl, hP, hD, hS⟩ (fun nn ls H locs hI ih => ?_)
    obtain ⟨i, r1, aU1, aL1, uU1, uL1, oU1, oL1, gi1, ta1, gU1, gL1, hn9, hf, hl, hP, hD, hS⟩ := hI
    refine lv_iload_n hx hb dX4_findTransfers_83 rfl (lv_at hl 1 rfl) ?_
    refine lv_bipush (v := (-9)) hx hb dX4_findTransfers_84 (by decide) ?_
    refine lv_icmp_eq (tgt := 116) hx hb dX4_findTransfers_86 (by decide) (fun c_86 => ?_) (fun c_86 => ?_)
    · exact retM_v (S := TS) (post := fun u => u.2.1 = (m_Z ln cn se isI we br ma sf pa).1 ∧ u.2.1 ≤ 6 ∧ q_hold (m_Z ln cn se isI we br ma sf pa) u.2.2.2.2.1 u.2.2.2.2.2.1 u.2.2.2.2.2.2.1 u.2.2.2.2.2.2.2) (w2 := fun u => mTt cI cJ cZ k ln cn se isI we br ma sf pa u) ((r1, aU1, aL1, uU1, uL1), i, oU1, oL1, gi1, ta1, gU1, gL1) hx hb hr hlocks (q_end hf (Or.inl (q_cd_6 (q_g_le _) c_86))) hP hK hD hS dX4_findTransfers_116
    · have hg := q_g_lt c_86
      refine lv_iload_n hx hb dX4_findTransfers_89 rfl (lv_at hl 0 rfl) ?_
      refine lv_bipush (v := (-9)) hx hb dX4_findTransfers_90 (by decide) ?_
      refine lv_icmp_eq (tgt := 116) hx hb dX4_findTransfers_92 (by decide) (fun c_92 => ?_) (fun c_92 => ?_)
      · exact retM_v (S := TS) (post := fun u => u.2.1 = (m_Z ln cn se isI we br ma sf pa).1 ∧ u.2.1 ≤ 6 ∧ q_hold (m_Z ln cn se isI we br ma sf pa) u.2.2.2.2.1 u.2.2.2.2.2.1 u.2.2.2.2.2.2.1 u.2.2.2.2.2.2.2) (w2 := fun u => mTt cI cJ cZ k ln cn se isI we br ma sf pa u) ((r1, aU1, aL1, uU1, uL1), i, oU1, oL1, gi1, ta1, gU1, gL1) hx hb hr hlocks (q_end hf (Or.inr (q_cd_6 (q_t_le _) c_92))) hP hK hD hS dX4_findTransfers_116
      · have ht := q_t_lt c_92
        have hI2 := q_inv_s hf hg ht
        refine lv_aload_n hx hb dX4_findTransfers_95 rfl (lv_at hl 2 rfl) ?_
        refine lv_iload_n hx hb dX4_findTransfers_96 rfl (lv_at hl 1 rfl) ?_
        refine topi_eq (y := (nI (q_g (q_it (q_0 (m_f0 ln cn se isI we br ma sf pa)) i).2.1))) (q_cd_lt hg) ?_
        refine lv_iload_n hx hb dX4_findTransfers_97 rfl (lv_at hl 0 rfl) ?_
        refine topi_eq (y := (nI (q_t (q_it (q_0 (m_f0 ln cn se isI we br ma sf pa)) i).2.1))) (q_cd_lt ht) ?_
        refine fM_v (wc := (mQ cI cZ k r1 ln cn (nI i) se isI we br ma sf pa) ++ (mS cJ k aU1 aL1 uU1 uL1) ++ (mT cI cJ k oU1 oL1 gi1 ta1 gU1 gL1)) (wr := []) (rMV (wc := (mQ cI cZ k r1 ln cn (nI i) se isI we br ma sf pa) ++ (mS cJ k aU1 aL1 uU1 uL1) ++ (mT cI cJ k oU1 oL1 gi1 ta1 gU1 gL1)) (As := [.int (nI (q_g (q_it (q_0 (m_f0 ln cn se isI we br ma sf pa)) i).2.1)), .int (nI (q_t (q_it (q_0 (m_f0 ln cn se isI we br ma sf pa)) i).2.1))]) (rest := []) ⟨hx, hb, hml, hown, hT⟩ (c_X4_goesOver (l := l) H.size i (q_g (q_it (q_0 (m_f0 ln cn se isI we br ma sf pa)) i).2.1) (q_t (q_it (q_0 (m_f0 ln cn se isI we br ma sf pa)) i).2.1) (q_it (q_0 (m_f0 ln cn se isI we br ma sf pa)) i).2.1 D (2000000 * 2 ^ i) (by have := hf.2.1; omega) hg ht (fun e => by have h1 := q_g_neg hg; have h2 := q_t_pos ht; rw [e] at h1; omega) hf.2.2.1 hDq (by have h1 : 2 ^ i ≤ 2 ^ 4 := Nat.pow_le_pow_right (by omega) (by have := hf.2.1; have := hI2.2.2; omega); have := Nat.mul_le_mul_left 2000000 h1; omega) hf.2.2.2.2) (cwTV 2 hT kc_X4_goesOver km_X4_191 ki_X4_goesOver ks_X4_goesOver kn_X4 rfl rfl md_X4_goesOver ⟨Nat.le_of_ble_eq_true rfl, Nat.le_of_ble_eq_true rfl⟩) hP hD hK (va_recv hK hP (ci := 4) (q0 := 0) rfl rfl) rfl hl.1 rfl (Nat.le_of_ble_eq_true rfl) dX4_findTransfers_98 ⟨Nat.le_of_ble_eq_true rfl, Nat.le_of_ble_eq_true rfl⟩) hP hD hS hA (fun u_98 H locs hw_98 hP hD hS => ?_)
        have hP : va_P (dC, dI) vwCl ((mQ cI cZ k (((q_it (q_0 (m_f0 ln cn se isI we br ma sf pa)) i).2.1) (q_t (q_it (q_0 (m_f0 ln cn se isI we br ma sf pa)) i).2.1) - (m_gift ((q_it (q_0 (m_f0 ln cn se isI we br ma sf pa)) i).2.1) (q_g (q_it (q_0 (m_f0 ln cn se isI we br ma sf pa)) i).2.1) (q_t (q_it (q_0 (m_f0 ln cn se isI we br ma sf pa)) i).2.1))) ln cn (nI (i + 1)) se isI we br ma sf pa) ++ (mS cJ k aU1 aL1 uU1 uL1) ++ (mT cI cJ k (vp_updL (vp_updL oU1 (q_g (q_it (q_0 (m_f0 ln cn se isI we br ma sf pa)) i).2.1) (iL (((q_it (q_0 (m_f0 ln cn se isI we br ma sf pa)) i).2.1) (q_g (q_it (q_0 (m_f0 ln cn se isI we br ma sf pa)) i).2.1) + (m_gift ((q_it (q_0 (m_f0 ln cn se isI we br ma sf pa)) i).2.1) (q_g (q_it (q_0 (m_f0 ln cn se isI we br ma sf pa)) i).2.1) (q_t (q_it (q_0 (m_f0 ln cn se isI we br ma sf pa)) i).2.1))).num)) (q_t (q_it (q_0 (m_f0 ln cn se isI we br ma sf pa)) i).2.1) (iL (((q_it (q_0 (m_f0 ln cn se isI we br ma sf pa)) i).2.1) (q_t (q_it (q_0 (m_f0 ln cn se isI we br ma sf pa)) i).2.1) - (m_gift ((q_it (q_0 (m_f0 ln cn se isI we br ma sf pa)) i).2.1) (q_g (q_it (q_0 (m_f0 ln cn se isI we br ma sf pa)) i).2.1) (q_t (q_it (q_0 (m_f0 ln cn se isI we br ma sf pa)) i).2.1))).num)) (vp_updL (vp_updL oL1 (q_g (q_it (q_0 (m_f0 ln cn se isI we br ma sf pa)) i).2.1) (iL ((((q_it (q_0 (m_f0 ln cn se isI we br ma sf pa)) i).2.1) (q_g (q_it (q_0 (m_f0 ln cn se isI we br ma sf pa)) i).2.1) + (m_gift ((q_it (q_0 (m_f0 ln cn se isI we br ma sf pa)) i).2.1) (q_g (q_it (q_0 (m_f0 ln cn se isI we br ma sf pa)) i).2.1) (q_t (q_it (q_0 (m_f0 ln cn se isI we br ma sf pa)) i).2.1))).den : Int))) (q_t (q_it (q_0 (m_f0 ln cn se isI we br ma sf pa)) i).2.1) (iL ((((q_it (q_0 (m_f0 ln cn se isI we br ma sf pa)) i).2.1) (q_t (q_it (q_0 (m_f0 ln cn se isI we br ma sf pa)) i).2.1) - (m_gift ((q_it (q_0 (m_f0 ln cn se isI we br ma sf pa)) i).2.1) (q_g (q_it (q_0 (m_f0 ln cn se isI we br ma sf pa)) i).2.1) (q_t (q_it (q_0 (m_f0 ln cn se isI we br ma sf pa)) i).2.1))).den : Int))) (upd gi1 i (nI (q_g (q_it (q_0 (m_f0 ln cn se isI we br ma sf pa)) i).2.1))) (upd ta1 i (nI (q_t (q_it (q_0 (m_f0 ln cn se isI we br ma sf pa)) i).2.1))) (vp_updL gU1 i (iL (m_gift ((q_it (q_0 (m_f0 ln cn se isI we br ma sf pa)) i).2.1) (q_g (q_it (q_0 (m_f0 ln cn se isI we br ma sf pa)) i).2.1) (q_t (q_it (q_0 (m_f0 ln cn se isI we br ma sf pa)) i).2.1)).num)) (vp_updL gL1 i (iL ((m_gift ((q_it (q_0 (m_f0 ln cn se isI we br ma sf pa)) i).2.1) (q_g (q_it (q_0 (m_f0 ln cn se isI we br ma sf pa)) i).2.1) (q_t (q_it (q_0 (m_f0 ln cn se isI we br ma sf pa)) i).2.1)).den : Int))))) H := hP
        have hD : va_D A ((mQ cI cZ k (((q_it (q_0 (m_f0 ln cn se isI we br ma sf pa)) i).2.1) (q_t (q_it (q_0 (m_f0 ln cn se isI we br ma sf pa)) i).2.1) - (m_gift ((q_it (q_0 (m_f0 ln cn se isI we br ma sf pa)) i).2.1) (q_g (q_it (q_0 (m_f0 ln cn se isI we br ma sf pa)) i).2.1) (q_t (q_it (q_0 (m_f0 ln cn se isI we br ma sf pa)) i).2.1))) ln cn (nI (i + 1)) se isI we br ma sf pa) ++ (mS cJ k aU1 aL1 uU1 uL1) ++ (mT cI cJ k (vp_updL (vp_updL oU1 (q_g (q_it (q_0 (m_f0 ln cn se isI we br ma sf pa)) i).2.1) (iL (((q_it (q_0 (m_f0 ln cn se isI we br ma sf pa)) i).2.1) (q_g (q_it (q_0 (m_f0 ln cn se isI we br ma sf pa)) i).2.1) + (m_gift ((q_it (q_0 (m_f0 ln cn se isI we br ma sf pa)) i).2.1) (q_g (q_it (q_0 (m_f0 ln cn se isI we br ma sf pa)) i).2.1) (q_t (q_it (q_0 (m_f0 ln cn se isI we br ma sf pa)) i).2.1))).num)) (q_t (q_it (q_0 (m_f0 ln cn se isI we br ma sf pa)) i).2.1) (iL (((q_it (q_0 (m_f0 ln cn se isI we br ma sf pa)) i).2.1) (q_t (q_it (q_0 (m_f0 ln cn se isI we br ma sf pa)) i).2.1) - (m_gift ((q_it (q_0 (m_f0 ln cn se isI we br ma sf pa)) i).2.1) (q_g (q_it (q_0 (m_f0 ln cn se isI we br ma sf pa)) i).2.1) (q_t (q_it (q_0 (m_f0 ln cn se isI we br ma sf pa)) i).2.1))).num)) (vp_updL (vp_updL oL1 (q_g (q_it (q_0 (m_f0 ln cn se isI we br ma sf pa)) i).2.1) (iL ((((q_it (q_0 (m_f0 ln cn se isI we br ma sf pa)) i).2.1) (q_g (q_it (q_0 (m_f0 ln cn se isI we br ma sf pa)) i).2.1) + (m_gift ((q_it (q_0 (m_f0 ln cn se isI we br ma sf pa)) i).2.1) (q_g (q_it (q_0 (m_f0 ln cn se isI we br ma sf pa)) i).2.1) (q_t (q_it (q_0 (m_f0 ln cn se isI we br ma sf pa)) i).2.1))).den : Int))) (q_t (q_it (q_0 (m_f0 ln cn se isI we br ma sf pa)) i).2.1) (iL ((((q_it (q_0 (m_f0 ln cn se isI we br ma sf pa)) i).2.1) (q_t (q_it (q_0 (m_f0 ln cn se isI we br ma sf pa)) i).2.1) - (m_gift ((q_it (q_0 (m_f0 ln cn se isI we br ma sf pa)) i).2.1) (q_g (q_it (q_0 (m_f0 ln cn se isI we br ma sf pa)) i).2.1) (q_t (q_it (q_0 (m_f0 ln cn se isI we br ma sf pa)) i).2.1))).den : Int))) (upd gi1 i (nI (q_g (q_it (q_0 (m_f0 ln cn se isI we br ma sf pa)) i).2.1))) (upd ta1 i (nI (q_t (q_it (q_0 (m_f0 ln cn se isI we br ma sf pa)) i).2.1))) (vp_updL gU1 i (iL (m_gift ((q_it (q_0 (m_f0 ln cn se isI we br ma sf pa)) i).2.1) (q_g (q_it (q_0 (m_f0 ln cn se isI we br ma sf pa)) i).2.1) (q_t (q_it (q_0 (m_f0 ln cn se isI we br ma sf pa)) i).2.1)).num)) (vp_updL gL1 i (iL ((m_gift ((q_it (q_0 (m_f0 ln cn se isI we br ma sf pa)) i).2.1) (q_g (q_it (q_0 (m_f0 ln cn se isI we br ma sf pa)) i).2.1) (q_t (q_it (q_0 (m_f0 ln cn se isI we br ma sf pa)) i).2.1)).den : Int))))) := hD
        have hr2 := q_rng hI2.1 hDq
        refine lv_aload_n hx hb dX4_findTransfers_101 rfl (lv_at hl 2 rfl) ?_
        refine lv_iconst (v := (-1)) hx hb dX4_findTransfers_102 (by decide) ?_
        refine vp_callSi (rRV (As := [.int (-1)]) (rest := []) ⟨hx, hb, hml, hown, hT⟩ (c_X4_firstWith (l := l) (-1)) (cwTV 1 hT kc_X4_firstWith km_X4_188 ki_X4_firstWith ks_X4_firstWith kn_X4 rfl rfl md_X4_firstWith ⟨Nat.le_of_ble_eq_true rfl, Nat.le_of_ble_eq_true rfl⟩) (va_P.sub (ws' := (mW cI cZ k (iL ((((q_it (q_0 (m_f0 ln cn se isI we br ma sf pa)) i).2.1) (q_t (q_it (q_0 (m_f0 ln cn se isI we br ma sf pa)) i).2.1) - (m_gift ((q_it (q_0 (m_f0 ln cn se isI we br ma sf pa)) i).2.1) (q_g (q_it (q_0 (m_f0 ln cn se isI we br ma sf pa)) i).2.1) (q_t (q_it (q_0 (m_f0 ln cn se isI we br ma sf pa)) i).2.1)))).num) (iL (((((q_it (q_0 (m_f0 ln cn se isI we br ma sf pa)) i).2.1) (q_t (q_it (q_0 (m_f0 ln cn se isI we br ma sf pa)) i).2.1) - (m_gift ((q_it (q_0 (m_f0 ln cn se isI we br ma sf pa)) i).2.1) (q_g (q_it (q_0 (m_f0 ln cn se isI we br ma sf pa)) i).2.1) (q_t (q_it (q_0 (m_f0 ln cn se isI we br ma sf pa)) i).2.1)))).den : Int)) ln cn (nI (i + 1)) se isI we br ma sf pa) ++ (mT cI cJ k (vp_updL (vp_updL oU1 (q_g (q_it (q_0 (m_f0 ln cn se isI we br ma sf pa)) i).2.1) (iL (((q_it (q_0 (m_f0 ln cn se isI we br ma sf pa)) i).2.1) (q_g (q_it (q_0 (m_f0 ln cn se isI we br ma sf pa)) i).2.1) + (m_gift ((q_it (q_0 (m_f0 ln cn se isI we br ma sf pa)) i).2.1) (q_g (q_it (q_0 (m_f0 ln cn se isI we br ma sf pa)) i).2.1) (q_t (q_it (q_0 (m_f0 ln cn se isI we br ma sf pa)) i).2.1))).num)) (q_t (q_it (q_0 (m_f0 ln cn se isI we br ma sf pa)) i).2.1) (iL (((q_it (q_0 (m_f0 ln cn se isI we br ma sf pa)) i).2.1) (q_t (q_it (q_0 (m_f0 ln cn se isI we br ma sf pa)) i).2.1) - (m_gift ((q_it (q_0 (m_f0 ln cn se isI we br ma sf pa)) i).2.1) (q_g (q_it (q_0 (m_f0 ln cn se isI we br ma sf pa)) i).2.1) (q_t (q_it (q_0 (m_f0 ln cn se isI we br ma sf pa)) i).2.1))).num)) (vp_updL (vp_updL oL1 (q_g (q_it (q_0 (m_f0 ln cn se isI we br ma sf pa)) i).2.1) (iL ((((q_it (q_0 (m_f0 ln cn se isI we br ma sf pa)) i).2.1) (q_g (q_it (q_0 (m_f0 ln cn se isI we br ma sf pa)) i).2.1) + (m_gift ((q_it (q_0 (m_f0 ln cn se isI we br ma sf pa)) i).2.1) (q_g (q_it (q_0 (m_f0 ln cn se isI we br ma sf pa)) i).2.1) (q_t (q_it (q_0 (m_f0 ln cn se isI we br ma sf pa)) i).2.1))).den : Int))) (q_t (q_it (q_0 (m_f0 ln cn se isI we br ma sf pa)) i).2.1) (iL ((((q_it (q_0 (m_f0 ln cn se isI we br ma sf pa)) i).2.1) (q_t (q_it (q_0 (m_f0 ln cn se isI we br ma sf pa)) i).2.1) - (m_gift ((q_it (q_0 (m_f0 ln cn se isI we br ma sf pa)) i).2.1) (q_g (q_it (q_0 (m_f0 ln cn se isI we br ma sf pa)) i).2.1) (q_t (q_it (q_0 (m_f0 ln cn se isI we br ma sf pa)) i).2.1))).den : Int))) (upd gi1 i (nI (q_g (q_it (q_0 (m_f0 ln cn se isI we br ma sf pa)) i).2.1))) (upd ta1 i (nI (q_t (q_it (q_0 (m_f0 ln cn se isI we br ma sf pa)) i).2.1))) (vp_updL gU1 i (iL (m_gift ((q_it (q_0 (m_f0 ln cn se isI we br ma sf pa)) i).2.1) (q_g (q_it (q_0 (m_f0 ln cn se isI we br ma sf pa)) i).2.1) (q_t (q_it (q_0 (m_f0 ln cn se isI we br ma sf pa)) i).2.1)).num)) (vp_updL gL1 i (iL ((m_gift ((q_it (q_0 (m_f0 ln cn se isI we br ma sf pa)) i).2.1) (q_g (q_it (q_0 (m_f0 ln cn se isI we br ma sf pa)) i).2.1) (q_t (q_it (q_0 (m_f0 ln cn se isI we br ma sf pa)) i).2.1)).den : Int))))) hP [0, 1, 2, 3, 4, 5, 6, 7, 12, 13, 14, 15, 16, 17] rfl) hK (va_recv hK hP (ci := 4) (q0 := 0) rfl rfl) rfl hl.1 rfl (Nat.le_of_ble_eq_true rfl) dX4_findTransfers_103 ⟨Nat.le_of_ble_eq_true rfl, Nat.le_of_ble_eq_true rfl⟩) (fun r_103 hw_103 => ?_)
        refine topi_eq (y := (q_cd (q_g (q_it (q_0 (m_f0 ln cn se isI we br ma sf pa)) (i + 1)).2.1))) (fw_g hI2.1.2.2.1 hr2 hw_103) ?_
        refine lv_istore_n (lv' := [(1, .int (q_cd (q_g (q_it (q_0 (m_f0 ln cn se isI we br ma sf pa)) (i + 1)).2.1))), (2, .int (q_cd (q_t (q_it (q_0 (m_f0 ln cn se isI we br ma sf pa)) i).2.1))), (0, .ref (k 0))]) hx hb dX4_findTransfers_106 rfl hl (by decide) rfl (fun ls hl => ?_)
        refine lv_aload_n hx hb dX4_findTransfers_107 rfl (lv_at hl 2 rfl) ?_
        refine lv_iconst (v := 1) hx hb dX4_findTransfers_108 (by decide) ?_
        refine vp_callSi (rRV (As := [.int 1]) (rest := []) ⟨hx, hb, hml, hown, hT⟩ (c_X4_firstWith (l := l) 1) (cwTV 1 hT kc_X4_firstWith km_X4_188 ki_X4_firstWith ks_X4_firstWith kn_X4 rfl rfl md_X4_firstWith ⟨Nat.le_of_ble_eq_true rfl, Nat.le_of_ble_eq_true rfl⟩) (va_P.sub (ws' := (mW cI cZ k (iL ((((q_it (q_0 (m_f0 ln cn se isI we br ma sf pa)) i).2.1) (q_t (q_it (q_0 (m_f0 ln cn se isI we br ma sf pa)) i).2.1) - (m_gift ((q_it (q_0 (m_f0 ln cn se isI we br ma sf pa)) i).2.1) (q_g (q_it (q_0 (m_f0 ln cn se isI we br ma sf pa)) i).2.1) (q_t (q_it (q_0 (m_f0 ln cn se isI we br ma sf pa)) i).2.1)))).num) (iL (((((q_it (q_0 (m_f0 ln cn se isI we br ma sf pa)) i).2.1) (q_t (q_it (q_0 (m_f0 ln cn se isI we br ma sf pa)) i).2.1) - (m_gift ((q_it (q_0 (m_f0 ln cn se isI we br ma sf pa)) i).2.1) (q_g (q_it (q_0 (m_f0 ln cn se isI we br ma sf pa)) i).2.1) (q_t (q_it (q_0 (m_f0 ln cn se isI we br ma sf pa)) i).2.1)))).den : Int)) ln cn (nI (i + 1)) se isI we br ma sf pa) ++ (mT cI cJ k (vp_updL (vp_updL oU1 (q_g (q_it (q_0 (m_f0 ln cn se isI we br ma sf pa)) i).2.1) (iL (((q_it (q_0 (m_f0 ln cn se isI we br ma sf pa)) i).2.1) (q_g (q_it (q_0 (m_f0 ln cn se isI we br ma sf pa)) i).2.1) + (m_gift ((q_it (q_0 (m_f0 ln cn se isI we br ma sf pa)) i).2.1) (q_g (q_it (q_0 (m_f0 ln cn se isI we br ma sf pa)) i).2.1) (q_t (q_it (q_0 (m_f0 ln cn se isI we br ma sf pa)) i).2.1))).num)) (q_t (q_it (q_0 (m_f0 ln cn se isI we br ma sf pa)) i).2.1) (iL (((q_it (q_0 (m_f0 ln cn se isI we br ma sf pa)) i).2.1) (q_t (q_it (q_0 (m_f0 ln cn se isI we br ma sf pa)) i).2.1) - (m_gift ((q_it (q_0 (m_f0 ln cn se isI we br ma sf pa)) i).2.1) (q_g (q_it (q_0 (m_f0 ln cn se isI we br ma sf pa)) i).2.1) (q_t (q_it (q_0 (m_f0 ln cn se isI we br ma sf pa)) i).2.1))).num)) (vp_updL (vp_updL oL1 (q_g (q_it (q_0 (m_f0 ln cn se isI we br ma sf pa)) i).2.1) (iL ((((q_it (q_0 (m_f0 ln cn se isI we br ma sf pa)) i).2.1) (q_g (q_it (q_0 (m_f0 ln cn se isI we br ma sf pa)) i).2.1) + (m_gift ((q_it (q_0 (m_f0 ln cn se isI we br ma sf pa)) i).2.1) (q_g (q_it (q_0 (m_f0 ln cn se isI we br ma sf pa)) i).2.1) (q_t (q_it (q_0 (m_f0 ln cn se isI we br ma sf pa)) i).2.1))).den : Int))) (q_t (q_it (q_0 (m_f0 ln cn se isI we br ma sf pa)) i).2.1) (iL ((((q_it (q_0 (m_f0 ln cn se isI we br ma sf pa)) i).2.1) (q_t (q_it (q_0 (m_f0 ln cn se isI we br ma sf pa)) i).2.1) - (m_gift ((q_it (q_0 (m_f0 ln cn se isI we br ma sf pa)) i).2.1) (q_g (q_it (q_0 (m_f0 ln cn se isI we br ma sf pa)) i).2.1) (q_t (q_it (q_0 (m_f0 ln cn se isI we br ma sf pa)) i).2.1))).den : Int))) (upd gi1 i (nI (q_g (q_it (q_0 (m_f0 ln cn se isI we br ma sf pa)) i).2.1))) (upd ta1 i (nI (q_t (q_it (q_0 (m_f0 ln cn se isI we br ma sf pa)) i).2.1))) (vp_updL gU1 i (iL (m_gift ((q_it (q_0 (m_f0 ln cn se isI we br ma sf pa)) i).2.1) (q_g (q_it (q_0 (m_f0 ln cn se isI we br ma sf pa)) i).2.1) (q_t (q_it (q_0 (m_f0 ln cn se isI we br ma sf pa)) i).2.1)).num)) (vp_updL gL1 i (iL ((m_gift ((q_it (q_0 (m_f0 ln cn se isI we br ma sf pa)) i).2.1) (q_g (q_it (q_0 (m_f0 ln cn se isI we br ma sf pa)) i).2.1) (q_t (q_it (q_0 (m_f0 ln cn se isI we br ma sf pa)) i).2.1)).den : Int))))) hP [0, 1, 2, 3, 4, 5, 6, 7, 12, 13, 14, 15, 16, 17] rfl) hK (va_recv hK hP (ci := 4) (q0 := 0) rfl rfl) rfl hl.1 rfl (Nat.le_of_ble_eq_true rfl) dX4_findTransfers_109 ⟨Nat.le_of_ble_eq_true rfl, Nat.le_of_ble_eq_true rfl⟩) (fun r_109 hw_109 => ?_)
        refine topi_eq (y := (q_cd (q_t (q_it (q_0 (m_f0 ln cn se isI we br ma sf pa)) (i + 1)).2.1))) (fw_t hI2.1.2.2.1 hr2 hw_109) ?_
        refine lv_istore_n (lv' := [(2, .int (q_cd (q_t (q_it (q_0 (m_f0 ln cn se isI we br ma sf pa)) (i + 1)).2.1))), (1, .int (q_cd (q_g (q_it (q_0 (m_f0 ln cn se isI we br ma sf pa)) (i + 1)).2.1))), (0, .ref (k 0))]) hx hb dX4_findTransfers_112 rfl hl (by decide) rfl (fun ls hl => ?_)
        refine lv_goto (tgt := 83) hx hb dX4_findTransfers_113 (by decide) ?_
        exact ih _ ls H locs (by rw [hn9]; exact hI2.2.1) ⟨(i + 1), (((q_it (q_0 (m_f0 ln cn se isI we br ma sf pa)) i).2.1) (q_t (q_it (q_0 (m_f0 ln cn se isI we br ma sf pa)) i).2.1) - (m_gift ((q_it (q_0 (m_f0 ln cn se isI we br ma sf pa)) i).2.1) (q_g (q_it (q_0 (m_f0 ln cn se isI we br ma sf pa)) i).2.1) (q_t (q_it (q_0 (m_f0 ln cn se isI we br ma sf pa)) i).2.1))), aU1, aL1, uU1, uL1, (vp_updL (vp_updL oU1 (q_g (q_it (q_0 (m_f0 ln cn se isI we br ma sf pa)) i).2.1) (iL (((q_it (q_0 (m_f0 ln cn se isI we br ma sf pa)) i).2.1) (q_g (q_it (q_0 (m_f0 ln cn se isI we br ma sf pa)) i).2.1) + (m_gift ((q_it (q_0 (m_f0 ln cn se isI we br ma sf pa)) i).2.1) (q_g (q_it (q_0 (m_f0 ln cn se isI we br ma sf pa)) i).2.1) (q_t (q_it (q_0 (m_f0 ln cn se isI we br ma sf pa)) i).2.1))).num)) (q_t (q_it (q_0 (m_f0 ln cn se isI we br ma sf pa)) i).2.1) (iL (((q_it (q_0 (m_f0 ln cn se isI we br ma sf pa)) i).2.1) (q_t (q_it (q_0 (m_f0 ln cn se isI we br ma sf pa)) i).2.1) - (m_gift ((q_it (q_0 (m_f0 ln cn se isI we br ma sf pa)) i).2.1) (q_g (q_it (q_0 (m_f0 ln cn se isI we br ma sf pa)) i).2.1) (q_t (q_it (q_0 (m_f0 ln cn se isI we br ma sf pa)) i).2.1))).num)), (vp_updL (vp_updL oL1 (q_g (q_it (q_0 (m_f0 ln cn se isI we br ma sf pa)) i).2.1) (iL ((((q_it (q_0 (m_f0 ln cn se isI we br ma sf pa)) i).2.1) (q_g (q_it (q_0 (m_f0 ln cn se isI we br ma sf pa)) i).2.1) + (m_gift ((q_it (q_0 (m_f0 ln cn se isI we br ma sf pa)) i).2.1) (q_g (q_it (q_0 (m_f0 ln cn se isI we br ma sf pa)) i).2.1) (q_t (q_it (q_0 (m_f0 ln cn se isI we br ma sf pa)) i).2.1))).den : Int))) (q_t (q_it (q_0 (m_f0 ln cn se isI we br ma sf pa)) i).2.1) (iL ((((q_it (q_0 (m_f0 ln cn se isI we br ma sf pa)) i).2.1) (q_t (q_it (q_0 (m_f0 ln cn se isI we br ma sf pa)) i).2.1) - (m_gift ((q_it (q_0 (m_f0 ln cn se isI we br ma sf pa)) i).2.1) (q_g (q_it (q_0 (m_f0 ln cn se isI we br ma sf pa)) i).2.1) (q_t (q_it (q_0 (m_f0 ln cn se isI we br ma sf pa)) i).2.1))).den : Int))), (upd gi1 i (nI (q_g (q_it (q_0 (m_f0 ln cn se isI we br ma sf pa)) i).2.1))), (upd ta1 i (nI (q_t (q_it (q_0 (m_f0 ln cn se isI we br ma sf pa)) i).2.1))), (vp_updL gU1 i (iL (m_gift ((q_it (q_0 (m_f0 ln cn se isI we br ma sf pa)) i).2.1) (q_g (q_it (q_0 (m_f0 ln cn se isI we br ma sf pa)) i).2.1) (q_t (q_it (q_0 (m_f0 ln cn se isI we br ma sf pa)) i).2.1)).num)), (vp_updL gL1 i (iL ((m_gift ((q_it (q_0 (m_f0 ln cn se isI we br ma sf pa)) i).2.1) (q_g (q_it (q_0 (m_f0 ln cn se isI we br ma sf pa)) i).2.1) (q_t (q_it (q_0 (m_f0 ln cn se isI we br ma sf pa)) i).2.1)).den : Int))), rfl, hI2.1, lv_sub hl [0, 1, 2] rfl, hP, hD, hS⟩
