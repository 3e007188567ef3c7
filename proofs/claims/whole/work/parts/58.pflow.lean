/-! ===== who gives whom how much: class and reference ===== -/
theorem l_add {a b : Int64} (ha : a.toInt.natAbs ≤ 1000000000000) (hb : b.toInt.natAbs ≤ 1000000000000) : (a + b).toInt = a.toInt + b.toInt := by
  have e : a + b = iL (a.toInt + b.toInt) := by rw [← iL_add, ← iL_of, ← iL_of]
  rw [e]; exact iL_t (by unfold rng; omega)
theorem l_sub {a b : Int64} (ha : a.toInt.natAbs ≤ 1000000000000) (hb : b.toInt.natAbs ≤ 1000000000000) : (a - b).toInt = a.toInt - b.toInt := by
  have e : a - b = iL (a.toInt - b.toInt) := by rw [← iL_sub, ← iL_of, ← iL_of]
  rw [e]; exact iL_t (by unfold rng; omega)
theorem l_neg {a : Int64} (ha : a.toInt.natAbs ≤ 1000000000000) : (-a).toInt = -a.toInt := by
  have e : -a = iL (-a.toInt) := by rw [← iL_neg, ← iL_of]
  rw [e]; exact iL_t (by unfold rng; omega)
theorem l_lt0 {a : Int64} : a < 0 ↔ a.toInt < 0 := by rw [Int64.lt_iff_toInt_lt]; rfl
theorem l_0lt {a : Int64} : 0 < a ↔ 0 < a.toInt := by rw [Int64.lt_iff_toInt_lt]; rfl
theorem q_sg (n : Int) {d : Int} (h : 0 < d) : ((Rat.divInt n d).num < 0 ↔ n < 0) ∧ (0 < (Rat.divInt n d).num ↔ 0 < n) := by
  have h1 := q_nn n h
  have h2 := q_z0 n h
  have h3 : (Rat.divInt n d).num = 0 ↔ n = 0 := Rat.num_eq_zero.trans h2
  omega
theorem f_min_I {a b : Int64} : (f_min a b).toInt = if b.toInt < a.toInt then b.toInt else a.toInt := by
  unfold f_min
  have h := Int64.lt_iff_toInt_lt (x := b) (y := a)
  by_cases c : b.toInt < a.toInt
  · rw [if_pos c, if_pos (h.mpr c)]
  · rw [if_neg c, if_neg (fun h2 => c (h.mp h2))]
def SIM (D : Int) (M : Nat) (s : FS) (z : QF) : Prop := z.1 = s.1 ∧ (∀ j, j < 6 → z.2.1 j = Rat.divInt (s.2.2.2.1 j).toInt D ∧ (s.2.2.2.1 j).toInt.natAbs ≤ M) ∧ (∀ i, i < s.1 → s.2.2.2.2.1 i = nI (z.2.2.1 i) ∧ s.2.2.2.2.2.1 i = nI (z.2.2.2.1 i) ∧ z.2.2.2.2 i = Rat.divInt (s.2.2.2.2.2.2 i).toInt D ∧ (s.2.2.2.2.2.2 i).toInt.natAbs ≤ M) ∧ (∀ j, j < s.2.1 → j < 6 → 0 ≤ (s.2.2.2.1 j).toInt) ∧ (∀ j, j < s.2.2.1 → j < 6 → (s.2.2.2.1 j).toInt ≤ 0) ∧ s.1 + q_cnt z.2.1 ≤ 6 ∧ s.2.1 ≤ 6 ∧ s.2.2.1 ≤ 6
def fstop (s : FS) : Prop := 6 ≤ s.2.1 ∨ 6 ≤ s.2.2.1 ∨ 6 ≤ s.1
theorem sim_g {D : Int} {M : Nat} {s : FS} {z : QF} (hD : 0 < D) (h : SIM D M s z) (hg : s.2.1 < 6) (hn : (s.2.2.2.1 s.2.1).toInt < 0) : q_g z.2.1 = s.2.1 :=
  q_fst_at hg (decide_eq_true (by rw [(h.2.1 _ hg).1]; exact (q_sg _ hD).1.mpr hn)) (fun j hj hp => by
    have hp := of_decide_eq_true hp
    rw [(h.2.1 j (by omega)).1] at hp
    have := (q_sg _ hD).1.mp hp
    have := h.2.2.2.1 j hj (by omega)
    omega)
theorem sim_t {D : Int} {M : Nat} {s : FS} {z : QF} (hD : 0 < D) (h : SIM D M s z) (ht : s.2.2.1 < 6) (hn : 0 < (s.2.2.2.1 s.2.2.1).toInt) : q_t z.2.1 = s.2.2.1 :=
  q_fst_at ht (decide_eq_true (by rw [(h.2.1 _ ht).1]; exact (q_sg _ hD).2.mpr hn)) (fun j hj hp => by
    have hp := of_decide_eq_true hp
    rw [(h.2.1 j (by omega)).1] at hp
    have := (q_sg _ hD).2.mp hp
    have := h.2.2.2.2.1 j hj (by omega)
    omega)
theorem sim_end {D : Int} {M : Nat} {s : FS} {z : QF} (hD : 0 < D) (h : SIM D M s z) (he : fstop s) : q_g z.2.1 = 6 ∨ q_t z.2.1 = 6 := by
  obtain ⟨h1, h2, h3, h4, h5, h6, h7, h8⟩ := h
  rcases he with he | he | he
  · refine Or.inl (q_fst_6 (fun j hj hp => ?_))
    have hp := of_decide_eq_true hp
    rw [(h2 j hj).1] at hp
    have := (q_sg _ hD).1.mp hp
    have := h4 j (by omega) hj
    omega
  · refine Or.inr (q_fst_6 (fun j hj hp => ?_))
    have hp := of_decide_eq_true hp
    rw [(h2 j hj).1] at hp
    have := (q_sg _ hD).2.mp hp
    have := h5 j (by omega) hj
    omega
  · refine Or.inl (q_fst_6 (fun j hj hp => ?_))
    have hp := of_decide_eq_true hp
    have hc : q_cnt z.2.1 = 0 := by omega
    have hu := q_cnt_up z.2.1 hj 0
    have e := q_nz_1 (num_ne (r := z.2.1 j) (by omega))
    have n0 : q_nz 0 = 0 := if_pos rfl
    omega
theorem sim_nx {D : Int} {M n g t : Nat} {ov gf : Nat → Int64} {gi ta : Nat → Int32} {z : QF} (hD : 0 < D) (hM : M ≤ 1000000000) (h : SIM D M (n, g, t, ov, gi, ta, gf) z) (hg : g < 6) (ht : t < 6) (hn : n < 6) (h1 : (ov g).toInt < 0) (h2 : 0 < (ov t).toInt) :
    SIM D M (n + 1, g, t, f_ov ov g t, upd gi n (nI g), upd ta n (nI t), vp_updL gf n (f_min (-(ov g)) (ov t))) (q_nx z g t) := by
  obtain ⟨s1, s2, s3, s4, s5, s6, s7, s8⟩ := h
  have s1 : z.1 = n := s1
  have s2 : ∀ j, j < 6 → z.2.1 j = Rat.divInt (ov j).toInt D ∧ (ov j).toInt.natAbs ≤ M := s2
  have s3 : ∀ i, i < n → gi i = nI (z.2.2.1 i) ∧ ta i = nI (z.2.2.2.1 i) ∧ z.2.2.2.2 i = Rat.divInt (gf i).toInt D ∧ (gf i).toInt.natAbs ≤ M := s3
  have s4 : ∀ j, j < g → j < 6 → 0 ≤ (ov j).toInt := s4
  have s5 : ∀ j, j < t → j < 6 → (ov j).toInt ≤ 0 := s5
  have s6 : n + q_cnt z.2.1 ≤ 6 := s6
  have hgt : g ≠ t := fun e => by rw [e] at h1; omega
  have bg := s2 g hg
  have bt' := s2 t ht
  have eg : (-(ov g)).toInt = -(ov g).toInt := l_neg (by omega)
  have em : (f_min (-(ov g)) (ov t)).toInt = if (ov t).toInt < -(ov g).toInt then (ov t).toInt else -(ov g).toInt := by rw [f_min_I, eg]
  have hk : 0 < (f_min (-(ov g)) (ov t)).toInt ∧ (f_min (-(ov g)) (ov t)).toInt ≤ -(ov g).toInt ∧ (f_min (-(ov g)) (ov t)).toInt ≤ (ov t).toInt := by
    rw [em]; split <;> omega
  have eq : m_gift z.2.1 g t = Rat.divInt (f_min (-(ov g)) (ov t)).toInt D := by
    unfold m_gift
    rw [bg.1, bt'.1, q_add, em]
    have hs := (q_sg ((ov g).toInt + (ov t).toInt) hD).2
    by_cases c : 0 < (ov g).toInt + (ov t).toInt
    · rw [if_pos (hs.mpr c), if_neg (by omega), rq_eq, rq_eq, Rat.intCast_neg]; grind
    · rw [if_neg (fun h => c (hs.mp h))]
      by_cases c2 : (ov t).toInt < -(ov g).toInt
      · rw [if_pos c2]
      · rw [if_neg c2, show (ov t).toInt = -(ov g).toInt by omega]
  have hf : ∀ j, f_ov ov g t j = if j = t then ov t - f_min (-(ov g)) (ov t) else if j = g then ov g + f_min (-(ov g)) (ov t) else ov j := by
    intro j
    unfold f_ov
    by_cases c : j = t
    · subst c; rw [if_pos rfl, pk_uLs, pk_uLn (Ne.symm hgt)]
    · rw [if_neg c, pk_uLn c]
      by_cases c2 : j = g
      · subst c2; rw [if_pos rfl, pk_uLs]
      · rw [if_neg c2, pk_uLn c2]
  have hq := q_cnt_nx hg ht hgt (z := z) (by rw [bg.1]; exact (q_sg _ hD).1.mpr h1) (by rw [bt'.1]; exact (q_sg _ hD).2.mpr h2)
  clear em eg
  generalize f_min (-(ov g)) (ov t) = k at *
  have e1 : (ov g + k).toInt = (ov g).toInt + k.toInt := l_add (by omega) (by omega)
  have e2 : (ov t - k).toInt = (ov t).toInt - k.toInt := l_sub (by omega) (by omega)
  refine ⟨by show z.1 + 1 = n + 1; rw [s1], ?_, ?_, ?_, ?_, by show n + 1 + _ ≤ 6; omega, s7, s8⟩
  · intro j hj
    show q_up (q_up z.2.1 g (z.2.1 g + m_gift z.2.1 g t)) t (z.2.1 t - m_gift z.2.1 g t) j = Rat.divInt (f_ov ov g t j).toInt D ∧ (f_ov ov g t j).toInt.natAbs ≤ M
    rw [hf j, eq]
    unfold q_up
    by_cases c : j = t
    · rw [if_pos c, if_pos c, bt'.1, q_sub, e2]; exact ⟨rfl, by omega⟩
    · rw [if_neg c, if_neg c]
      by_cases c2 : j = g
      · rw [if_pos c2, if_pos c2, bg.1, q_add, e1]; exact ⟨rfl, by omega⟩
      · rw [if_neg c2, if_neg c2]; exact s2 j hj
  · intro i hi
    have hi : i < n + 1 := hi
    show upd gi n (nI g) i = nI (n_up z.2.2.1 z.1 g i) ∧ upd ta n (nI t) i = nI (n_up z.2.2.2.1 z.1 t i) ∧ q_up z.2.2.2.2 z.1 (m_gift z.2.1 g t) i = Rat.divInt (vp_updL gf n k i).toInt D ∧ (vp_updL gf n k i).toInt.natAbs ≤ M
    rw [s1, eq]
    unfold n_up q_up
    by_cases c : i = n
    · rw [if_pos c, if_pos c, if_pos c, c, pk_us, pk_us, pk_uLs]; exact ⟨rfl, rfl, rfl, by omega⟩
    · rw [if_neg c, if_neg c, if_neg c, pk_un c, pk_un c, pk_uLn c]; exact s3 i (by omega)
  · intro j hj hj6
    have hj : j < g := hj
    show 0 ≤ (f_ov ov g t j).toInt
    rw [hf j]
    by_cases c : j = t
    · rw [if_pos c, e2]; omega
    · rw [if_neg c, if_neg (by omega)]; exact s4 j hj hj6
  · intro j hj hj6
    have hj : j < t := hj
    show (f_ov ov g t j).toInt ≤ 0
    rw [hf j, if_neg (by omega)]
    by_cases c : j = g
    · rw [if_pos c, e1]; omega
    · rw [if_neg c]; exact s5 j hj hj6
theorem sim_step {D : Int} {M : Nat} {s : FS} {z0 : QF} (hD : 0 < D) (hM : M ≤ 1000000000) (h : SIM D M s (q_it z0 s.1)) : SIM D M (f_step s) (q_it z0 (f_step s).1) ∧ ((fstop s ∧ f_step s = s) ∨ (¬ fstop s ∧ (f_step s).1 + (f_step s).2.1 + (f_step s).2.2.1 = s.1 + s.2.1 + s.2.2.1 + 1)) := by
  obtain ⟨n, g, t, ov, gi, ta, gf⟩ := s
  by_cases c : 6 ≤ g ∨ 6 ≤ t ∨ 6 ≤ n
  · have e : f_step (n, g, t, ov, gi, ta, gf) = (n, g, t, ov, gi, ta, gf) := if_pos c
    rw [e]
    exact ⟨h, Or.inl ⟨c, rfl⟩⟩
  · by_cases c1 : ov g < 0
    · by_cases c2 : 0 < ov t
      · have e : f_step (n, g, t, ov, gi, ta, gf) = (n + 1, g, t, f_ov ov g t, upd gi n (nI g), upd ta n (nI t), vp_updL gf n (f_min (-(ov g)) (ov t))) := by
          show (if 6 ≤ g ∨ 6 ≤ t ∨ 6 ≤ n then _ else if ov g < 0 then (if 0 < ov t then _ else _) else _) = _
          rw [if_neg c, if_pos c1, if_pos c2]
        rw [e]
        have d1 := l_lt0.mp c1
        have d2 := l_0lt.mp c2
        have g1 : q_g (q_it z0 n).2.1 = g := sim_g hD h (by show g < 6; omega) d1
        have g2 : q_t (q_it z0 n).2.1 = t := sim_t hD h (by show t < 6; omega) d2
        have e2 : q_it z0 (n + 1) = q_nx (q_it z0 n) g t := by
          show q_step (q_it z0 n) = _
          unfold q_step
          rw [if_neg (by omega), g1, g2]
        refine ⟨?_, Or.inr ⟨c, by show n + 1 + g + t = n + g + t + 1; omega⟩⟩
        show SIM D M _ (q_it z0 (n + 1))
        rw [e2]
        exact sim_nx hD hM h (by omega) (by omega) (by omega) d1 d2
      · have e : f_step (n, g, t, ov, gi, ta, gf) = (n, g, t + 1, ov, gi, ta, gf) := by
          show (if 6 ≤ g ∨ 6 ≤ t ∨ 6 ≤ n then _ else if ov g < 0 then (if 0 < ov t then _ else _) else _) = _
          rw [if_neg c, if_pos c1, if_neg c2]
        rw [e]
        obtain ⟨s1, s2, s3, s4, s5, s6, s7, s8⟩ := h
        refine ⟨⟨s1, s2, s3, s4, fun j hj hj6 => ?_, s6, s7, by show t + 1 ≤ 6; omega⟩, Or.inr ⟨c, by show n + g + (t + 1) = n + g + t + 1; omega⟩⟩
        have hj : j < t + 1 := hj
        rcases (show j < t ∨ j = t by omega) with hj | rfl
        · exact s5 j hj hj6
        · show (ov j).toInt ≤ 0
          have : ¬ 0 < (ov j).toInt := fun h => c2 (l_0lt.mpr h)
          omega
    · have e : f_step (n, g, t, ov, gi, ta, gf) = (n, g + 1, t, ov, gi, ta, gf) := by
        show (if 6 ≤ g ∨ 6 ≤ t ∨ 6 ≤ n then _ else if ov g < 0 then (if 0 < ov t then _ else _) else _) = _
        rw [if_neg c, if_neg c1]
      rw [e]
      obtain ⟨s1, s2, s3, s4, s5, s6, s7, s8⟩ := h
      refine ⟨⟨s1, s2, s3, fun j hj hj6 => ?_, s5, s6, by show g + 1 ≤ 6; omega, s8⟩, Or.inr ⟨c, by show n + (g + 1) + t = n + g + t + 1; omega⟩⟩
      have hj : j < g + 1 := hj
      rcases (show j < g ∨ j = g by omega) with hj | rfl
      · exact s4 j hj hj6
      · show 0 ≤ (ov j).toInt
        have : ¬ (ov j).toInt < 0 := fun h => c1 (l_lt0.mpr h)
        omega
theorem sim_all {D : Int} {M : Nat} {s : FS} {z0 : QF} (hD : 0 < D) (hM : M ≤ 1000000000) (h : SIM D M s (q_it z0 s.1)) (h0 : s.1 + s.2.1 + s.2.2.1 = 0) : ∀ i, SIM D M (f_it s i) (q_it z0 (f_it s i).1) ∧ (fstop (f_it s i) ∨ (f_it s i).1 + (f_it s i).2.1 + (f_it s i).2.2.1 = i) := by
  intro i
  induction i with
  | zero => exact ⟨h, Or.inr h0⟩
  | succ i ih =>
    obtain ⟨ih1, ih2⟩ := ih
    have hs := sim_step hD hM ih1
    show SIM D M (f_step (f_it s i)) (q_it z0 (f_step (f_it s i)).1) ∧ (fstop (f_step (f_it s i)) ∨ (f_step (f_it s i)).1 + (f_step (f_it s i)).2.1 + (f_step (f_it s i)).2.2.1 = i + 1)
    refine ⟨hs.1, ?_⟩
    rcases hs.2 with ⟨a, b⟩ | ⟨a, b⟩
    · rw [b]; exact Or.inl a
    · rcases ih2 with ih2 | ih2
      · exact absurd ih2 a
      · exact Or.inr (by omega)
/-- at the end both have the same -/
theorem sim_done {D : Int} {M : Nat} {s : FS} {z0 : QF} (hD : 0 < D) (hM : M ≤ 1000000000) (h : SIM D M s (q_it z0 s.1)) (h0 : s.1 + s.2.1 + s.2.2.1 = 0) : SIM D M (f_it s 24) (q_it z0 6) := by
  obtain ⟨h1, h2⟩ := sim_all hD hM h h0 24
  have hn : (f_it s 24).1 ≤ 6 := by have := h1.2.2.2.2.2.1; omega
  have hst : fstop (f_it s 24) := by
    rcases h2 with h2 | h2
    · exact h2
    · have := h1.2.2.2.2.2.2.1
      have := h1.2.2.2.2.2.2.2
      omega
  have e := q_stuck (sim_end hD h1 hst) (6 - (f_it s 24).1)
  rw [Nat.add_sub_cancel' hn] at e
  rw [e]
  exact h1
section FLW
variable {ln cw ic bs ss : Int32} {se we un sf pa isI br ma sfr : Nat → Int32} {j : Nat} {ov gf : Nat → Int64} {gi ta : Nat → Int32}
theorem ovN_at {du fd : Int64} : ∀ i j, j < i → x_ovN ic bs ss we un pa du fd ov i j = if bt ic j = true then x_overUp ic bs ss we un pa j du fd else 0 := by
  intro i
  induction i with
  | zero => intro j hj; omega
  | succ i ih =>
    intro j hj
    show vp_updL (x_ovN ic bs ss we un pa du fd ov i) i (if bt ic i = true then x_overUp ic bs ss we un pa i du fd else 0) j = _
    by_cases e : j = i
    · subst e; exact pk_uLs
    · rw [pk_uLn e]; exact ih j (by omega)
theorem f0_q (I : INV ln cw ic bs ss se we un sf pa isI br ma sfr) (hj : j < 6) : m_f0 ln cw se isI we br ma sfr pa j = Rat.divInt (x_ovN ic bs ss we un pa (iL (xDU ln cw ic se we un sf (se 0) (se 1) ss bs).num) (iL (xFD ln cw ic se we un sf (se 0) (se 1) ss bs)) ov 6 j).toInt (xFD ln cw ic se we un sf (se 0) (se 1) ss bs) ∧ (x_ovN ic bs ss we un pa (iL (xDU ln cw ic se we un sf (se 0) (se 1) ss bs).num) (iL (xFD ln cw ic se we un sf (se 0) (se 1) ss bs)) ov 6 j).toInt.natAbs ≤ 1000000000 := by
  rw [ovN_at 6 j hj]
  by_cases c : isI j = 0
  · rw [m_f0_n c, if_neg (((I_rb I).2.1 j hj).mp c)]
    exact ⟨(q_z _).symm, by decide⟩
  · have hb := ou_I I hj
    rw [m_f0_p c, if_pos ((RB_bt (I_rb I) hj).mpr c)]
    exact ⟨I_over I hj c, by omega⟩
theorem be_le (I : INV ln cw ic bs ss se we un sf pa isI br ma sfr) (hj : j < 6) (hin : ¬ isI j = 0) : (x_bears bs ss we un j).toInt ≤ (x_op ic we ss).toInt - (x_la ic we un ss bs).toInt := by
  obtain ⟨o1, o2, o3, o4, o5⟩ := op_all (I_rb I) (I_rs I) (I_rr I) (I_w I)
  have hw := I_w I j hj
  have hm := mt_inv (I_rb I).1 j hj
  have hw2 := I_w I _ hm.1
  unfold x_bears
  by_cases c : bt (ss ||| bs) j = true
  · rw [if_pos c]; show (0 : Int) ≤ _; omega
  · rw [if_neg c]
    have c : ¬ (bt ss j = true ∨ bt bs j = true) := fun h => c (by rw [b_or, Bool.or_eq_true]; exact h)
    have c1 : sfr j = -9 := ((I_rs I).1 j hj).mpr (fun h => c (Or.inl h))
    have c2 : br j = 0 := ((I_rr I) j hj).mpr (fun h => c (Or.inr h))
    have hub : ¬ m_ubr br ma j := fun h => h.1 c2
    have hu : (m_uw we ma j).toInt ≤ (m_opN 0 isI we br ma sfr 6).toInt := by
      rcases Nat.le_total j (mtt ma j) with k | k
      · exact (op0_I (br := br) (I_rb I) (I_rs I) (I_w I)).2 j hj ((isU_iff (I_rb I).1 hj).mpr ⟨hin, k⟩) c1 hub
      · rw [← uw_mt (I_rb I).1 hj (I_w I)]
        refine (op0_I (br := br) (I_rb I) (I_rs I) (I_w I)).2 _ hm.1 ((isU_iff (I_rb I).1 hm.1).mpr ⟨fun e => hin ((RB_in (I_rb I) hj).mp e), by rw [hm.2]; exact k⟩) (by rw [(I_rs I).2.2 j hj]; exact c1) ?_
        exact fun h => hub ((decide_eq_decide.mp (p2_mt (br := br) (I_rb I).1 hj)).mp h)
    have hv : (we j).toInt ≤ (m_uw we ma j).toInt := by rw [uw_I (I_rb I).1 hj (I_w I)]; split <;> omega
    rw [o2] at hu
    split
    · omega
    · rw [x_uw (I_rb I) hj hin (I_w I)]; exact hu
theorem f0_bd (I : INV ln cw ic bs ss se we un sf pa isI br ma sfr) (hj : j < 6) : bd (m_f0 ln cw se isI we br ma sfr pa j) (xFD ln cw ic se we un sf (se 0) (se 1) ss bs).natAbs 2000000 := by
  have hd := fd_I I
  by_cases c : isI j = 0
  · rw [m_f0_n c]; exact bd_zero _ _
  · rw [m_f0_p c, I_over I hj c, rq_eq]
    refine bd_q (by omega) (by omega) (Nat.dvd_refl _) ?_
    have ho := ou_I I hj
    have hf := fu_I I hj
    have hp := pa_le (I_p I) hj
    have h1 := pa_nn (I_p I)
    have h2 := (I_p I).2
    have hb := be_bd (bs := bs) (ss := ss) (un := un) (I_w I) hj
    have hm := mul_bd hp.1 hp.2 (b := (xFD ln cw ic se we un sf (se 0) (se 1) ss bs)) (y := (xFD ln cw ic se we un sf (se 0) (se 1) ss bs)) (by omega) (Int.le_refl _)
    have hfu : (x_fairUp ic bs ss we un pa j (iL (xDU ln cw ic se we un sf (se 0) (se 1) ss bs).num)).toInt ≤ 1000000 * (xFD ln cw ic se we un sf (se 0) (se 1) ss bs) := by
      rw [hf.1]
      split
      · omega
      · rename_i hz
        have ef : (xFD ln cw ic se we un sf (se 0) (se 1) ss bs) = (x_op ic we ss).toInt - (x_la ic we un ss bs).toInt := by
          show o_fd _ _ _ _ _ _ = _
          unfold o_fd
          exact if_neg hz
        have hl := be_le I hj c
        rw [← ef] at hl
        exact (mul_bd h1 h2 hb.1 hl).2
    rw [ho.1]
    omega
theorem flow_eq (I : INV ln cw ic bs ss se we un sf pa isI br ma sfr) : SIM (xFD ln cw ic se we un sf (se 0) (se 1) ss bs) 1000000000 (x_flow ic bs ss we un pa (iL (xDU ln cw ic se we un sf (se 0) (se 1) ss bs).num) (iL (xFD ln cw ic se we un sf (se 0) (se 1) ss bs)) ov gi ta gf) (m_Z ln cw se isI we br ma sfr pa) := by
  have hd := fd_I I
  refine sim_done (by omega) (Nat.le_refl _) (z0 := q_0 (m_f0 ln cw se isI we br ma sfr pa)) ⟨rfl, fun j hj => f0_q I hj, fun i hi => absurd hi (Nat.not_lt_zero i), fun j hj => absurd hj (Nat.not_lt_zero j), fun j hj => absurd hj (Nat.not_lt_zero j), ?_, Nat.zero_le _, Nat.zero_le _⟩ rfl
  have := q_cnt_le (m_f0 ln cw se isI we br ma sfr pa)
  show 0 + q_cnt (m_f0 ln cw se isI we br ma sfr pa) ≤ 6
  omega
theorem flow_le (I : INV ln cw ic bs ss se we un sf pa isI br ma sfr) : (x_flow ic bs ss we un pa (iL (xDU ln cw ic se we un sf (se 0) (se 1) ss bs).num) (iL (xFD ln cw ic se we un sf (se 0) (se 1) ss bs)) ov gi ta gf).1 ≤ 6 := by
  have := (flow_eq (ov := ov) (gi := gi) (ta := ta) (gf := gf) I).2.2.2.2.2.1
  omega
theorem flow_gf (I : INV ln cw ic bs ss se we un sf pa isI br ma sfr) : ∀ n, n < 6 → nI n < nI (x_flow ic bs ss we un pa (iL (xDU ln cw ic se we un sf (se 0) (se 1) ss bs).num) (iL (xFD ln cw ic se we un sf (se 0) (se 1) ss bs)) ov gi ta gf).1 → rng ((x_flow ic bs ss we un pa (iL (xDU ln cw ic se we un sf (se 0) (se 1) ss bs).num) (iL (xFD ln cw ic se we un sf (se 0) (se 1) ss bs)) ov gi ta gf).2.2.2.2.2.2 n).toInt := by
  intro n hn h
  have hl := flow_le (ov := ov) (gi := gi) (ta := ta) (gf := gf) I
  have h2 : n < (x_flow ic bs ss we un pa (iL (xDU ln cw ic se we un sf (se 0) (se 1) ss bs).num) (iL (xFD ln cw ic se we un sf (se 0) (se 1) ss bs)) ov gi ta gf).1 := Nat.lt_of_not_le (fun h3 => nI_nlt h3 (by omega) h)
  have := ((flow_eq (ov := ov) (gi := gi) (ta := ta) (gf := gf) I).2.2.1 n h2).2.2.2
  unfold rng
  omega
end FLW
theorem a_transfers {ln cw ic bs ss : Int32} {se we un sf pa isI br ma sfr : Nat → Int32} {u1 : FV} {u2 : TS × Int32} {ov gf : Nat → Int64} {gi ta : Nat → Int32} {r1 r2 : Int32} (I : INV ln cw ic bs ss se we un sf pa isI br ma sfr) (h1 : (fun r _ => r = nI (x_flow ic bs ss we un pa (iL (o_du (x_E ln cw ic se we) (x_C ln cw ic we un sf (se 0) ss) (x_dn cw ic we) ((x_op ic we ss).toInt) ((x_la ic we un ss bs).toInt) ((x_sh cw ic we un (se 1) ss bs).toInt)).num) (iL (o_fd (x_E ln cw ic se we) (x_C ln cw ic we un sf (se 0) ss) (x_dn cw ic we) ((x_op ic we ss).toInt) ((x_la ic we un ss bs).toInt) ((x_sh cw ic we un (se 1) ss bs).toInt))) ov gi ta gf).1) r1 u1) (h2 : (fun r _ => r = nI (m_Z ln cw se isI we br ma sfr pa).1) r2 u2) : r1 = r2 := by
  have h1 : r1 = nI (x_flow ic bs ss we un pa (iL (xDU ln cw ic se we un sf (se 0) (se 1) ss bs).num) (iL (xFD ln cw ic se we un sf (se 0) (se 1) ss bs)) ov gi ta gf).1 := h1
  have h2 : r2 = nI (m_Z ln cw se isI we br ma sfr pa).1 := h2
  rw [h1, h2, (flow_eq (ov := ov) (gi := gi) (ta := ta) (gf := gf) I).1]
theorem a_transfer {ln cw ic bs ss : Int32} {se we un sf pa isI br ma sfr : Nat → Int32} {v x : Int32} {u1 : FV} {u2 : TS × Int32} {ov gf : Nat → Int64} {gi ta : Nat → Int32} {r1 r2 : Int32} (I : INV ln cw ic bs ss se we un sf pa isI br ma sfr) (h1 : (fun r _ => ((v < 0 ∨ (x < 0 ∨ 1 < x)) ∧ r = -2) ∨ (¬ (v < 0 ∨ (x < 0 ∨ 1 < x)) ∧ ((∃ n7, n7 < 6 ∧ v = nI n7 ∧ nI n7 < nI (x_flow ic bs ss we un pa (iL (o_du (x_E ln cw ic se we) (x_C ln cw ic we un sf (se 0) ss) (x_dn cw ic we) ((x_op ic we ss).toInt) ((x_la ic we un ss bs).toInt) ((x_sh cw ic we un (se 1) ss bs).toInt)).num) (iL (o_fd (x_E ln cw ic se we) (x_C ln cw ic we un sf (se 0) ss) (x_dn cw ic we) ((x_op ic we ss).toInt) ((x_la ic we un ss bs).toInt) ((x_sh cw ic we un (se 1) ss bs).toInt))) ov gi ta gf).1 ∧ r = if x = 0 then (x_flow ic bs ss we un pa (iL (o_du (x_E ln cw ic se we) (x_C ln cw ic we un sf (se 0) ss) (x_dn cw ic we) ((x_op ic we ss).toInt) ((x_la ic we un ss bs).toInt) ((x_sh cw ic we un (se 1) ss bs).toInt)).num) (iL (o_fd (x_E ln cw ic se we) (x_C ln cw ic we un sf (se 0) ss) (x_dn cw ic we) ((x_op ic we ss).toInt) ((x_la ic we un ss bs).toInt) ((x_sh cw ic we un (se 1) ss bs).toInt))) ov gi ta gf).2.2.2.2.1 n7 else (x_flow ic bs ss we un pa (iL (o_du (x_E ln cw ic se we) (x_C ln cw ic we un sf (se 0) ss) (x_dn cw ic we) ((x_op ic we ss).toInt) ((x_la ic we un ss bs).toInt) ((x_sh cw ic we un (se 1) ss bs).toInt)).num) (iL (o_fd (x_E ln cw ic se we) (x_C ln cw ic we un sf (se 0) ss) (x_dn cw ic we) ((x_op ic we ss).toInt) ((x_la ic we un ss bs).toInt) ((x_sh cw ic we un (se 1) ss bs).toInt))) ov gi ta gf).2.2.2.2.2.1 n7) ∨ (¬ (∃ n7, n7 < 6 ∧ v = nI n7 ∧ nI n7 < nI (x_flow ic bs ss we un pa (iL (o_du (x_E ln cw ic se we) (x_C ln cw ic we un sf (se 0) ss) (x_dn cw ic we) ((x_op ic we ss).toInt) ((x_la ic we un ss bs).toInt) ((x_sh cw ic we un (se 1) ss bs).toInt)).num) (iL (o_fd (x_E ln cw ic se we) (x_C ln cw ic we un sf (se 0) ss) (x_dn cw ic we) ((x_op ic we ss).toInt) ((x_la ic we un ss bs).toInt) ((x_sh cw ic we un (se 1) ss bs).toInt))) ov gi ta gf).1) ∧ r = -9)))) r1 u1) (h2 : (fun r _ => ((v < 0 ∨ ¬ (0 ≤ x ∧ x ≤ 1)) ∧ r = -2) ∨ (¬ (v < 0 ∨ ¬ (0 ≤ x ∧ x ≤ 1)) ∧ ((nI (m_Z ln cw se isI we br ma sfr pa).1 ≤ v ∧ r = -9) ∨ (∃ i7, i7 < (m_Z ln cw se isI we br ma sfr pa).1 ∧ v = nI i7 ∧ r = if x = 0 then nI ((m_Z ln cw se isI we br ma sfr pa).2.2.1 i7) else nI ((m_Z ln cw se isI we br ma sfr pa).2.2.2.1 i7))))) r2 u2) : r1 = r2 := by
  have hF := flow_eq (ov := ov) (gi := gi) (ta := ta) (gf := gf) I
  have hl := flow_le (ov := ov) (gi := gi) (ta := ta) (gf := gf) I
  have hl3 : (x_flow ic bs ss we un pa (iL (xDU ln cw ic se we un sf (se 0) (se 1) ss bs).num) (iL (xFD ln cw ic se we un sf (se 0) (se 1) ss bs)) ov gi ta gf).1 < 2 ^ 31 := by omega
  have ho : (v < 0 ∨ (x < 0 ∨ 1 < x)) ↔ (v < 0 ∨ ¬ (0 ≤ x ∧ x ≤ 1)) := by rw [out_iff (v := x)]
  rcases h1 with ⟨a, e1⟩ | ⟨a, h1⟩
  · rcases h2 with ⟨b, e2⟩ | ⟨b, h2⟩
    · rw [e1, e2]
    · exact absurd (ho.mp a) b
  · rcases h2 with ⟨b, e2⟩ | ⟨b, h2⟩
    · exact absurd (ho.mpr b) a
    · have hv : 0 ≤ v := Int32.not_lt.mp (fun h => a (Or.inl h))
      have hz := hF.1
      rcases h1 with ⟨n, hn, ev, hlt, e1⟩ | ⟨h1, e1⟩
      · have hlt2 : n < (x_flow ic bs ss we un pa (iL (xDU ln cw ic se we un sf (se 0) (se 1) ss bs).num) (iL (xFD ln cw ic se we un sf (se 0) (se 1) ss bs)) ov gi ta gf).1 := Nat.lt_of_not_le (fun h3 => nI_nlt h3 (by omega) hlt)
        rcases h2 with ⟨h2, e2⟩ | ⟨j, hj, ev2, e2⟩
        · rw [hz, ev] at h2
          exact absurd h2 (nI_ge hlt2 (by omega))
        · have : j = n := nI6 (by rw [hz] at hj; omega) hn (by rw [← ev2, ev])
          subst this
          have hs := hF.2.2.1 j hlt2
          rw [e1, e2, hs.1, hs.2.1]
      · rcases h2 with ⟨h2, e2⟩ | ⟨j, hj, ev2, e2⟩
        · rw [e1, e2]
        · rw [hz] at hj
          exact absurd ⟨j, by omega, ev2, nI_lt hj hl3⟩ h1
theorem a_given {ln cw ic bs ss : Int32} {se we un sf pa isI br ma sfr : Nat → Int32} {v wh : Int32} {u1 : FV} {u2 : TS × Int32} {ov gf : Nat → Int64} {gi ta : Nat → Int32} {r1 r2 : Int64} (I : INV ln cw ic bs ss se we un sf pa isI br ma sfr) (h1 : (fun r _ => ((v < 0 ∨ (wh < 0 ∨ 1 < wh)) ∧ r = (-9223372036854775808)) ∨ (¬ (v < 0 ∨ (wh < 0 ∨ 1 < wh)) ∧ ((∃ n7, n7 < 6 ∧ v = nI n7 ∧ nI n7 < nI (x_flow ic bs ss we un pa (iL (o_du (x_E ln cw ic se we) (x_C ln cw ic we un sf (se 0) ss) (x_dn cw ic we) ((x_op ic we ss).toInt) ((x_la ic we un ss bs).toInt) ((x_sh cw ic we un (se 1) ss bs).toInt)).num) (iL (o_fd (x_E ln cw ic se we) (x_C ln cw ic we un sf (se 0) ss) (x_dn cw ic we) ((x_op ic we ss).toInt) ((x_la ic we un ss bs).toInt) ((x_sh cw ic we un (se 1) ss bs).toInt))) ov gi ta gf).1 ∧ r = tellQ (Rat.divInt ((x_flow ic bs ss we un pa (iL (o_du (x_E ln cw ic se we) (x_C ln cw ic we un sf (se 0) ss) (x_dn cw ic we) ((x_op ic we ss).toInt) ((x_la ic we un ss bs).toInt) ((x_sh cw ic we un (se 1) ss bs).toInt)).num) (iL (o_fd (x_E ln cw ic se we) (x_C ln cw ic we un sf (se 0) ss) (x_dn cw ic we) ((x_op ic we ss).toInt) ((x_la ic we un ss bs).toInt) ((x_sh cw ic we un (se 1) ss bs).toInt))) ov gi ta gf).2.2.2.2.2.2 n7).toInt (o_fd (x_E ln cw ic se we) (x_C ln cw ic we un sf (se 0) ss) (x_dn cw ic we) ((x_op ic we ss).toInt) ((x_la ic we un ss bs).toInt) ((x_sh cw ic we un (se 1) ss bs).toInt))) wh) ∨ (¬ (∃ n7, n7 < 6 ∧ v = nI n7 ∧ nI n7 < nI (x_flow ic bs ss we un pa (iL (o_du (x_E ln cw ic se we) (x_C ln cw ic we un sf (se 0) ss) (x_dn cw ic we) ((x_op ic we ss).toInt) ((x_la ic we un ss bs).toInt) ((x_sh cw ic we un (se 1) ss bs).toInt)).num) (iL (o_fd (x_E ln cw ic se we) (x_C ln cw ic we un sf (se 0) ss) (x_dn cw ic we) ((x_op ic we ss).toInt) ((x_la ic we un ss bs).toInt) ((x_sh cw ic we un (se 1) ss bs).toInt))) ov gi ta gf).1) ∧ r = (-9223372036854775808))))) r1 u1) (h2 : (fun r _ => ((v < 0 ∨ ¬ (0 ≤ wh ∧ wh ≤ 1)) ∧ r = (-9223372036854775808)) ∨ (¬ (v < 0 ∨ ¬ (0 ≤ wh ∧ wh ≤ 1)) ∧ ((nI (m_Z ln cw se isI we br ma sfr pa).1 ≤ v ∧ r = (-9223372036854775808)) ∨ (∃ i7, i7 < (m_Z ln cw se isI we br ma sfr pa).1 ∧ v = nI i7 ∧ r = tellQ ((m_Z ln cw se isI we br ma sfr pa).2.2.2.2 i7) wh)))) r2 u2) : r1 = r2 := by
  have hF := flow_eq (ov := ov) (gi := gi) (ta := ta) (gf := gf) I
  have hl := flow_le (ov := ov) (gi := gi) (ta := ta) (gf := gf) I
  have hl3 : (x_flow ic bs ss we un pa (iL (xDU ln cw ic se we un sf (se 0) (se 1) ss bs).num) (iL (xFD ln cw ic se we un sf (se 0) (se 1) ss bs)) ov gi ta gf).1 < 2 ^ 31 := by omega
  have ho : (v < 0 ∨ (wh < 0 ∨ 1 < wh)) ↔ (v < 0 ∨ ¬ (0 ≤ wh ∧ wh ≤ 1)) := by rw [out_iff (v := wh)]
  rcases h1 with ⟨a, e1⟩ | ⟨a, h1⟩
  · rcases h2 with ⟨b, e2⟩ | ⟨b, h2⟩
    · rw [e1, e2]
    · exact absurd (ho.mp a) b
  · rcases h2 with ⟨b, e2⟩ | ⟨b, h2⟩
    · exact absurd (ho.mpr b) a
    · have hv : 0 ≤ v := Int32.not_lt.mp (fun h => a (Or.inl h))
      have hz := hF.1
      rcases h1 with ⟨n, hn, ev, hlt, e1⟩ | ⟨h1, e1⟩
      · have hlt2 : n < (x_flow ic bs ss we un pa (iL (xDU ln cw ic se we un sf (se 0) (se 1) ss bs).num) (iL (xFD ln cw ic se we un sf (se 0) (se 1) ss bs)) ov gi ta gf).1 := Nat.lt_of_not_le (fun h3 => nI_nlt h3 (by omega) hlt)
        rcases h2 with ⟨h2, e2⟩ | ⟨j, hj, ev2, e2⟩
        · rw [hz, ev] at h2
          exact absurd h2 (nI_ge hlt2 (by omega))
        · have : j = n := nI6 (by rw [hz] at hj; omega) hn (by rw [← ev2, ev])
          subst this
          have hs := hF.2.2.1 j hlt2
          rw [e1, e2, hs.2.2.1]
      · rcases h2 with ⟨h2, e2⟩ | ⟨j, hj, ev2, e2⟩
        · rw [e1, e2]
        · rw [hz] at hj
          exact absurd ⟨j, by omega, ev2, nI_lt hj hl3⟩ h1
