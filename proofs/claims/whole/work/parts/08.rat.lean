/-! ===== shares as rationals: with a lower number that divides D, and at most V ===== -/
def bd (r : Rat) (D V : Nat) : Prop := ∃ n : Int, r = (n : Rat) / ((D : Int) : Rat) ∧ n.natAbs ≤ V * D
theorem ic_ne {D : Nat} (h : 0 < D) : ((D : Int) : Rat) ≠ 0 := fun h2 => by have := Rat.intCast_eq_zero_iff.mp h2; omega
theorem ii_ne {z : Int} (h : z ≠ 0) : (z : Rat) ≠ 0 := fun h2 => h (Rat.intCast_eq_zero_iff.mp h2)
theorem bd_zero (D V : Nat) : bd 0 D V := ⟨0, by rw [Rat.intCast_zero, Rat.div_def, Rat.zero_mul], by simp⟩
theorem bd_add {r t : Rat} {D V U : Nat} (h1 : bd r D V) (h2 : bd t D U) : bd (r + t) D (V + U) := by
  obtain ⟨a, rfl, ha⟩ := h1
  obtain ⟨b, rfl, hb⟩ := h2
  refine ⟨a + b, ?_, ?_⟩
  · rw [Rat.intCast_add, Rat.div_def, Rat.div_def, Rat.div_def, Rat.add_mul]
  · rw [Nat.add_mul]; omega
theorem bd_sub {r t : Rat} {D V U : Nat} (h1 : bd r D V) (h2 : bd t D U) : bd (r - t) D (V + U) := by
  obtain ⟨a, rfl, ha⟩ := h1
  obtain ⟨b, rfl, hb⟩ := h2
  refine ⟨a - b, ?_, ?_⟩
  · rw [Rat.intCast_sub]; grind
  · rw [Nat.add_mul]; omega
theorem bd_mono {r : Rat} {D V U : Nat} (h : bd r D V) (hV : V ≤ U) : bd r D U := by
  obtain ⟨a, e, ha⟩ := h
  exact ⟨a, e, Nat.le_trans ha (Nat.mul_le_mul_right D hV)⟩
theorem bd_dvd {r : Rat} {D E V : Nat} (h : bd r D V) (hE : 0 < E) (hD : D ∣ E) : bd r E V := by
  obtain ⟨k, rfl⟩ := hD
  obtain ⟨a, rfl, ha⟩ := h
  have h1 : D ≠ 0 := fun h => by subst h; omega
  have h2 : k ≠ 0 := fun h => by subst h; omega
  refine ⟨a * k, ?_, ?_⟩
  · have e1 := ic_ne (D := D) (by omega)
    have e2 := ic_ne (D := k) (by omega)
    rw [Int.natCast_mul, Rat.intCast_mul, Rat.intCast_mul]
    grind
  · rw [Int.natAbs_mul, Int.natAbs_natCast, ← Nat.mul_assoc]
    exact Nat.mul_le_mul_right k ha
theorem bd_mulI {r : Rat} {D V : Nat} (z : Int) (h : bd r D V) : bd (r * (z : Rat)) D (V * z.natAbs) := by
  obtain ⟨a, rfl, ha⟩ := h
  refine ⟨a * z, ?_, ?_⟩
  · rw [Rat.intCast_mul]; grind
  · rw [Int.natAbs_mul, Nat.mul_right_comm]
    exact Nat.mul_le_mul_right _ ha
theorem bd_q {a b : Int} {D V : Nat} (hb : 0 < b) (hD : 0 < D) (hd : b.natAbs ∣ D) (ha : a.natAbs ≤ V * b.natAbs) : bd ((a : Rat) / (b : Rat)) D V := by
  have h : bd ((a : Rat) / (b : Rat)) b.natAbs V := ⟨a, by rw [Int.natAbs_of_nonneg (by omega)], ha⟩
  exact bd_dvd h hD hd
theorem bd_int {z : Int} {D V : Nat} (hD : 0 < D) (h : z.natAbs ≤ V) : bd (z : Rat) D V := by
  refine ⟨z * D, ?_, ?_⟩
  · have := ic_ne hD
    rw [Rat.intCast_mul]; grind
  · rw [Int.natAbs_mul, Int.natAbs_natCast]
    exact Nat.mul_le_mul_right D h
theorem bd_nd {r : Rat} {D V : Nat} (hD : 0 < D) (h : bd r D V) : r.den ∣ D ∧ r.num.natAbs ≤ V * r.den := by
  obtain ⟨n, e, hn⟩ := h
  rw [← rq_eq] at e
  have h1 := rq_num n D (by omega)
  have h2 := rq_den n D (by omega)
  rw [← e] at h1 h2
  rw [Int.natAbs_natCast] at h1 h2
  have hg : 0 < Nat.gcd n.natAbs D := Nat.gcd_pos_of_pos_right _ hD
  obtain ⟨k, hk⟩ := Nat.gcd_dvd_right n.natAbs D
  obtain ⟨j, hj⟩ := Nat.gcd_dvd_left n.natAbs D
  generalize Nat.gcd n.natAbs D = g at h1 h2 hg hk hj
  have e2 : r.den = k := by
    have : (r.den : Int) = (k : Int) := by
      rw [h2, hk, Int.natCast_mul]
      exact Int.mul_tdiv_cancel_left _ (by omega)
    omega
  have e1 : r.num.natAbs = j := by
    rw [h1, Int.natAbs_tdiv, hj, Int.natAbs_natCast]
    exact Nat.mul_div_cancel_left _ hg
  refine ⟨⟨g, by rw [e2, hk, Nat.mul_comm]⟩, ?_⟩
  rw [e1, e2]
  rw [hj, hk] at hn
  have : g * j ≤ g * (V * k) := by rw [Nat.mul_left_comm]; exact hn
  exact Nat.le_of_mul_le_mul_left this hg
theorem bd_den_le {r : Rat} {D V : Nat} (hD : 0 < D) (h : bd r D V) : r.den ≤ D := Nat.le_of_dvd hD (bd_nd hD h).1
theorem bd_num_le {r : Rat} {D V : Nat} (hD : 0 < D) (h : bd r D V) : r.num.natAbs ≤ V * D := Nat.le_trans (bd_nd hD h).2 (Nat.mul_le_mul_left V (bd_den_le hD h))
/-- a share by its two numbers -/
theorem rat_nd (r : Rat) : r = (r.num : Rat) / ((r.den : Int) : Rat) := by
  rw [← rq_eq]; exact (Rat.num_divInt_den r).symm
theorem den_pos (r : Rat) : 0 < r.den := r.den_pos
/-- two shares on the least common lower number -/
theorem lcm_le {a b D : Nat} (hD : 0 < D) (ha : a ∣ D) (hb : b ∣ D) : a * (b / Nat.gcd a b) ≤ D := by
  have : a * (b / Nat.gcd a b) = Nat.lcm a b := by
    rw [Nat.lcm, Nat.mul_div_assoc _ (Nat.gcd_dvd_right a b)]
  rw [this]
  exact Nat.le_of_dvd hD (Nat.lcm_dvd ha hb)
theorem gcd_parts (a b : Nat) (ha : 0 < a) : ∃ g x y, 0 < g ∧ Nat.gcd a b = g ∧ a = g * x ∧ b = g * y ∧ a / Nat.gcd a b = x ∧ b / Nat.gcd a b = y := by
  have hg : 0 < Nat.gcd a b := Nat.gcd_pos_of_pos_left _ ha
  obtain ⟨x, hx⟩ := Nat.gcd_dvd_left a b
  obtain ⟨y, hy⟩ := Nat.gcd_dvd_right a b
  refine ⟨_, x, y, hg, rfl, hx, hy, ?_, ?_⟩
  · conv => lhs; lhs; rw [hx]
    exact Nat.mul_div_cancel_left _ hg
  · conv => lhs; lhs; rw [hy]
    exact Nat.mul_div_cancel_left _ hg
theorem q_comb (x y g a b : Rat) (hg : g ≠ 0) (ha : a ≠ 0) (hb : b ≠ 0) : (x * b + y * a) / ((g * a) * b) = x / (g * a) + y / (g * b) := by grind
/-- x by a and y by b, on the lower number a (b / gcd) -/
theorem comb_eq (x y : Int) (a b : Nat) (ha : 0 < a) (hb : 0 < b) : Rat.divInt (x * ((b / Nat.gcd a b : Nat) : Int) + y * ((a / Nat.gcd a b : Nat) : Int)) ((a * (b / Nat.gcd a b) : Nat) : Int) = (x : Rat) / ((a : Int) : Rat) + (y : Rat) / ((b : Int) : Rat) := by
  obtain ⟨g, u, v, hg, e, ea, eb, h1, h2⟩ := gcd_parts a b ha
  rw [h1, h2, rq_eq]
  have hu : 0 < u := Nat.pos_of_ne_zero (fun h => by subst h; omega)
  have hv : 0 < v := Nat.pos_of_ne_zero (fun h => by subst h; omega)
  rw [ea, eb]
  rw [Rat.intCast_add, Rat.intCast_mul, Rat.intCast_mul, Int.natCast_mul, Int.natCast_mul, Int.natCast_mul, Rat.intCast_mul, Rat.intCast_mul, Rat.intCast_mul]
  exact q_comb _ _ _ _ _ (ic_ne hg) (ic_ne hu) (ic_ne hv)
theorem comb_bd {x y : Int} {a b D V U : Nat} (ha : 0 < a) (hD : 0 < D) (h1 : a ∣ D) (h2 : b ∣ D) (hx : x.natAbs ≤ V * a) (hy : y.natAbs ≤ U * b) : (x * ((b / Nat.gcd a b : Nat) : Int)).natAbs ≤ V * D ∧ (y * ((a / Nat.gcd a b : Nat) : Int)).natAbs ≤ U * D := by
  have hl := lcm_le hD h1 h2
  have hl2 : b * (a / Nat.gcd a b) ≤ D := by have := lcm_le hD h2 h1; rwa [Nat.gcd_comm b a] at this
  rw [Int.natAbs_mul, Int.natAbs_mul, Int.natAbs_natCast, Int.natAbs_natCast]
  constructor
  · exact Nat.le_trans (Nat.mul_le_mul_right _ hx) (by rw [Nat.mul_assoc]; exact Nat.mul_le_mul_left V hl)
  · exact Nat.le_trans (Nat.mul_le_mul_right _ hy) (by rw [Nat.mul_assoc]; exact Nat.mul_le_mul_left U hl2)
theorem iL_abs {a : Int} (h : rng a) : (if 0 < iL a then iL a else -iL a) = iL (a.natAbs : Int) := by
  have h0 : (0 : Int64) < iL a ↔ 0 < a := iL_lt rng_0 h
  by_cases h1 : 0 < a
  · rw [if_pos (h0.mpr h1)]; congr 1; omega
  · rw [if_neg (fun h2 => h1 (h0.mp h2)), iL_neg]; congr 1; omega
theorem iL_max0 {a : Int} (h : rng a) : (if iL 0 < iL a then iL a else iL 0) = iL (if 0 < a then a else 0) := by
  have h0 : iL 0 < iL a ↔ 0 < a := iL_lt rng_0 h
  by_cases h1 : 0 < a
  · rw [if_pos (h0.mpr h1), if_pos h1]
  · rw [if_neg (fun h2 => h1 (h0.mp h2)), if_neg h1]
