/-! ===== longs as integers ===== -/
def iL (z : Int) : Int64 := Int64.ofInt z
theorem iL_add (a b : Int) : iL a + iL b = iL (a + b) := (Int64.ofInt_add a b).symm
theorem iL_sub (a b : Int) : iL a - iL b = iL (a - b) := (Int64.ofInt_sub a b).symm
theorem iL_mul (a b : Int) : iL a * iL b = iL (a * b) := (Int64.ofInt_mul a b).symm
theorem iL_neg (a : Int) : -iL a = iL (-a) := (Int64.ofInt_neg a).symm
theorem iL_32 (x : Int32) : x.toInt64 = iL x.toInt := rfl
theorem iL_of (x : Int64) : x = iL x.toInt := (Int64.ofInt_toInt x).symm
/-- far from the ends -/
def rng (a : Int) : Prop := -4611686018427387904 < a ∧ a < 4611686018427387904
theorem iL_t {a : Int} (h : rng a) : (iL a).toInt = a := Int64.toInt_ofInt_of_le (by unfold rng at h; omega) (by unfold rng at h; omega)
theorem iL_le {a b : Int} (ha : rng a) (hb : rng b) : iL a ≤ iL b ↔ a ≤ b := by rw [Int64.le_iff_toInt_le, iL_t ha, iL_t hb]
theorem iL_lt {a b : Int} (ha : rng a) (hb : rng b) : iL a < iL b ↔ a < b := by rw [Int64.lt_iff_toInt_lt, iL_t ha, iL_t hb]
theorem iL_eq {a b : Int} (ha : rng a) (hb : rng b) : iL a = iL b ↔ a = b := by rw [← Int64.toInt_inj, iL_t ha, iL_t hb]
theorem iL_div {a b : Int} (ha : rng a) (hb : rng b) : iL a / iL b = iL (a.tdiv b) := by
  unfold rng at ha hb
  exact (Int64.ofInt_tdiv (by show (-9223372036854775808 : Int) ≤ a; omega) (by show a ≤ (9223372036854775807 : Int); omega) (by show (-9223372036854775808 : Int) ≤ b; omega) (by show b ≤ (9223372036854775807 : Int); omega)).symm
theorem iL_rem {x y : Nat} (hx : rng x) (hy : rng y) : iL x - iL x / iL y * iL y = iL ((x % y : Nat) : Int) := by
  rw [iL_div hx hy, iL_mul, iL_sub]
  congr 1
  rw [Int.tdiv_eq_ediv_of_nonneg (Int.natCast_nonneg x), Int.natCast_emod, Int.emod_def, Int.mul_comm]
theorem rng_0 : rng 0 := by unfold rng; omega
theorem rng_1 : rng 1 := by unfold rng; omega
theorem rng_le {a : Int} {b : Nat} (h : a.natAbs ≤ b) (hb : b < 4611686018427387904) : rng a := by unfold rng; omega
/-! ===== shares ===== -/
theorem rq_num (a b : Int) (hb : 0 < b) : (Rat.divInt a b).num = a.tdiv ((Nat.gcd a.natAbs b.natAbs : Nat) : Int) := by
  rw [Rat.num_divInt, Int.sign_eq_one_of_pos hb, Int.one_mul]
  have e : b.gcd a = Nat.gcd a.natAbs b.natAbs := by rw [Int.gcd_comm]; rfl
  rw [e, Int.tdiv_eq_ediv_of_dvd]
  have := Int.gcd_dvd_left (a := a) (b := b)
  exact this
theorem rq_den (a b : Int) (hb : 0 < b) : ((Rat.divInt a b).den : Int) = b.tdiv ((Nat.gcd a.natAbs b.natAbs : Nat) : Int) := by
  rw [Rat.den_divInt, if_neg (by omega)]
  have e : b.gcd a = Nat.gcd a.natAbs b.natAbs := by rw [Int.gcd_comm]; rfl
  have h : ((Nat.gcd a.natAbs b.natAbs : Nat) : Int) ∣ b := Int.gcd_dvd_right (a := a) (b := b)
  rw [e, Int.tdiv_eq_ediv_of_dvd h]
  rw [Int.natCast_ediv]
  congr 1
  omega
theorem rq_eq (a b : Int) : Rat.divInt a b = (a : Rat) / (b : Rat) := Rat.divInt_eq_div a b
theorem gcd_pos_r {a : Nat} {b : Int} (hb : 0 < b) : 0 < Nat.gcd a b.natAbs := Nat.gcd_pos_of_pos_right _ (by omega)
theorem gcd_le_r {a : Nat} {b : Int} (hb : 0 < b) : ((Nat.gcd a b.natAbs : Nat) : Int) ≤ b := by
  have := Nat.gcd_le_right (n := b.natAbs) a (by omega)
  omega
/-- Euclid's own step, and how fast it goes down -/
theorem eu_step {x y n : Nat} (h1 : y < x) (h0 : y ≠ 0) (h : x * y < 2 ^ (n + 1)) : y * (x % y) < 2 ^ n := by
  have hd := Nat.div_add_mod x y
  have hp : 1 ≤ x / y := Nat.div_pos (by omega) (by omega)
  have h3 : y * 1 ≤ y * (x / y) := Nat.mul_le_mul_left y hp
  have hm : x % y < y := Nat.mod_lt _ (by omega)
  have h4 : 2 * (x % y) < x := by omega
  have h5 : y * (2 * (x % y)) < y * x := Nat.mul_lt_mul_of_pos_left h4 (by omega)
  have h6 : y * (2 * (x % y)) = 2 * (y * (x % y)) := by rw [Nat.mul_left_comm]
  have h7 : y * x = x * y := Nat.mul_comm _ _
  rw [Nat.pow_succ] at h
  omega
/-- what a loop of Euclid's keeps: i steps done of a hundred -/
def eu_I (a b i x y : Nat) : Prop := Nat.gcd x y = Nat.gcd a b ∧ x ≤ max a b ∧ y ≤ max a b ∧ ((i = 0 ∧ x = a ∧ y = b) ∨ (1 ≤ i ∧ y < x ∧ x * y < 2 ^ (97 - i)))
theorem eu_0 (a b : Nat) : eu_I a b 0 a b := ⟨rfl, Nat.le_max_left _ _, Nat.le_max_right _ _, Or.inl ⟨rfl, rfl, rfl⟩⟩
theorem eu_s {a b i x y : Nat} (hb : b < 2 ^ 48) (h : eu_I a b i x y) (h0 : y ≠ 0) : eu_I a b (i + 1) y (x % y) := by
  obtain ⟨h1, h2, h3, h4⟩ := h
  have hm : x % y < y := Nat.mod_lt _ (by omega)
  refine ⟨by rw [← h1, Nat.gcd_comm y, ← Nat.gcd_rec y x, Nat.gcd_comm], h3, by omega, Or.inr ⟨by omega, hm, ?_⟩⟩
  rcases h4 with ⟨rfl, rfl, rfl⟩ | ⟨h5, h6, h7⟩
  · have h8 : y * (x % y) ≤ y * y := Nat.mul_le_mul_left y (by omega)
    have h9 : y * y ≤ (2 ^ 48 - 1) * (2 ^ 48 - 1) := Nat.mul_le_mul (by omega) (by omega)
    have h10 : (2 ^ 48 - 1) * (2 ^ 48 - 1) < 2 ^ (97 - (0 + 1)) := by decide
    omega
  · rcases Nat.lt_or_ge i 97 with h8 | h8
    · have e : 97 - i = (97 - (i + 1)) + 1 := by omega
      rw [e] at h7
      exact eu_step h6 h0 h7
    · have e : 97 - i = 0 := by omega
      rw [e] at h7
      have : 1 * 1 ≤ x * y := Nat.mul_le_mul (by omega) (by omega)
      omega
theorem eu_end {a b x y : Nat} (h : eu_I a b 100 x y) : y = 0 := by
  obtain ⟨-, -, -, h4⟩ := h
  rcases h4 with ⟨h, -, -⟩ | ⟨-, h6, h7⟩
  · omega
  · rcases Nat.eq_zero_or_pos y with h | h
    · exact h
    · have h7 : x * y < 1 := h7
      have : 1 * 1 ≤ x * y := Nat.mul_le_mul (by omega) (by omega)
      omega
theorem eu_out {a b i x : Nat} (h : eu_I a b i x 0) : x = Nat.gcd a b := by rw [← h.1, Nat.gcd_zero_right]
theorem i10 : ((1 : Int32) = 0) = False := eq_false (by decide)
section LI
variable {p : Program} {l : Launch} {e : Env} {R : Room} {s : State} {m : MethodId} {args : Array Value} {below : List Frame} {meth : Method} {c : Code} {H : Heap} {locs : List Loc} {cells slots : Nat} {Q : State → Prop}
variable {pc : Nat} {ls : Array Slot} {rest : List Value} {cc : ByteArray}
theorem li_add (hx : p.tables.exec = Jvm.exec) (hb : c.code = cc) {a b : Int} (hdg : decode cc pc = .ok (.ladd, 1)) (k : W p l e R s m args below meth c H locs cells slots Q (F0 m (pc + 1) ls (.long (iL (a + b)) :: rest))) : W p l e R s m args below meth c H locs cells slots Q (F0 m pc ls (.long (iL b) :: .long (iL a) :: rest)) := lv_ladd hx hb hdg (by rw [iL_add]; exact k)
theorem li_sub (hx : p.tables.exec = Jvm.exec) (hb : c.code = cc) {a b : Int} (hdg : decode cc pc = .ok (.lsub, 1)) (k : W p l e R s m args below meth c H locs cells slots Q (F0 m (pc + 1) ls (.long (iL (a - b)) :: rest))) : W p l e R s m args below meth c H locs cells slots Q (F0 m pc ls (.long (iL b) :: .long (iL a) :: rest)) := lv_lsub hx hb hdg (by rw [iL_sub]; exact k)
theorem li_mul (hx : p.tables.exec = Jvm.exec) (hb : c.code = cc) {a b : Int} (hdg : decode cc pc = .ok (.lmul, 1)) (k : W p l e R s m args below meth c H locs cells slots Q (F0 m (pc + 1) ls (.long (iL (a * b)) :: rest))) : W p l e R s m args below meth c H locs cells slots Q (F0 m pc ls (.long (iL b) :: .long (iL a) :: rest)) := lv_lmul hx hb hdg (by rw [iL_mul]; exact k)
theorem li_neg (hx : p.tables.exec = Jvm.exec) (hb : c.code = cc) {a : Int} (hdg : decode cc pc = .ok (.lneg, 1)) (k : W p l e R s m args below meth c H locs cells slots Q (F0 m (pc + 1) ls (.long (iL (-a)) :: rest))) : W p l e R s m args below meth c H locs cells slots Q (F0 m pc ls (.long (iL a) :: rest)) := lv_lneg hx hb hdg (by rw [iL_neg]; exact k)
theorem li_div (hx : p.tables.exec = Jvm.exec) (hb : c.code = cc) {a b : Int} (ha : rng a) (hb2 : rng b) (h0 : b ≠ 0) (hdg : decode cc pc = .ok (.ldiv, 1)) (k : W p l e R s m args below meth c H locs cells slots Q (F0 m (pc + 1) ls (.long (iL (a.tdiv b)) :: rest))) : W p l e R s m args below meth c H locs cells slots Q (F0 m pc ls (.long (iL b) :: .long (iL a) :: rest)) := lv_ldiv hx hb hdg (fun h => h0 ((iL_eq hb2 rng_0).mp h)) (by rw [iL_div ha hb2]; exact k)
theorem li_rem (hx : p.tables.exec = Jvm.exec) (hb : c.code = cc) {a b : Nat} (ha : rng a) (hb2 : rng b) (h0 : b ≠ 0) (hdg : decode cc pc = .ok (.lrem, 1)) (k : W p l e R s m args below meth c H locs cells slots Q (F0 m (pc + 1) ls (.long (iL ((a % b : Nat) : Int)) :: rest))) : W p l e R s m args below meth c H locs cells slots Q (F0 m pc ls (.long (iL (b : Int)) :: .long (iL (a : Int)) :: rest)) := lv_lrem hx hb hdg (fun h => h0 (by have := (iL_eq hb2 rng_0).mp h; omega)) (by rw [iL_rem ha hb2]; exact k)
theorem topl_eq {x y : Int64} (h : x = y) (k : W p l e R s m args below meth c H locs cells slots Q (F0 m pc ls (.long y :: rest))) : W p l e R s m args below meth c H locs cells slots Q (F0 m pc ls (.long x :: rest)) := h ▸ k
theorem topi_eq {x y : Int32} (h : x = y) (k : W p l e R s m args below meth c H locs cells slots Q (F0 m pc ls (.int y :: rest))) : W p l e R s m args below meth c H locs cells slots Q (F0 m pc ls (.int x :: rest)) := h ▸ k
end LI
