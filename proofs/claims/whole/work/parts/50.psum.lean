/-! ===== sums of six, bits of sets ===== -/
def sN (f : Nat → Int) : Nat → Int
  | 0 => 0
  | i + 1 => sN f i + f i
theorem sN_congr {f g : Nat → Int} {n : Nat} (h : ∀ i, i < n → f i = g i) : sN f n = sN g n := by
  induction n with
  | zero => rfl
  | succ n ih =>
    show sN f n + f n = sN g n + g n
    rw [ih (fun i hi => h i (by omega)), h n (by omega)]
theorem sN_add (f g : Nat → Int) (n : Nat) : sN (fun i => f i + g i) n = sN f n + sN g n := by
  induction n with
  | zero => rfl
  | succ n ih =>
    show sN (fun i => f i + g i) n + (f n + g n) = (sN f n + f n) + (sN g n + g n)
    rw [ih]; omega
theorem sN_sub (f g : Nat → Int) (n : Nat) : sN (fun i => f i - g i) n = sN f n - sN g n := by
  induction n with
  | zero => rfl
  | succ n ih =>
    show sN (fun i => f i - g i) n + (f n - g n) = (sN f n + f n) - (sN g n + g n)
    rw [ih]; omega
theorem sN_zero (n : Nat) : sN (fun _ => 0) n = 0 := by
  induction n with
  | zero => rfl
  | succ n ih => show sN (fun _ => 0) n + 0 = 0; rw [ih]; rfl
theorem sN_le {f g : Nat → Int} {n : Nat} (h : ∀ i, i < n → f i ≤ g i) : sN f n ≤ sN g n := by
  induction n with
  | zero => exact Int.le_refl _
  | succ n ih =>
    have h1 := ih (fun i hi => h i (by omega))
    have h2 := h n (by omega)
    show sN f n + f n ≤ sN g n + g n
    omega
theorem sN_bd {f : Nat → Int} {M : Nat} {n : Nat} (h : ∀ i, i < n → 0 ≤ f i ∧ f i ≤ M) : 0 ≤ sN f n ∧ sN f n ≤ ((n * M : Nat) : Int) := by
  induction n with
  | zero => exact ⟨Int.le_refl _, by show (0 : Int) ≤ _; omega⟩
  | succ n ih =>
    have h1 := ih (fun i hi => h i (by omega))
    have h2 := h n (by omega)
    have e : (n + 1) * M = n * M + M := Nat.succ_mul n M
    show 0 ≤ sN f n + f n ∧ sN f n + f n ≤ _
    rw [e]
    omega
theorem sN_nn {f : Nat → Int} {n : Nat} (h : ∀ i, i < n → 0 ≤ f i) : 0 ≤ sN f n := by
  have := sN_le (f := fun _ => 0) (g := f) (n := n) (fun i hi => h i hi)
  rw [sN_zero] at this
  exact this
theorem sN_one (g : Nat → Int) (c n : Nat) : sN (fun w => if w = c then g w else 0) n = if c < n then g c else 0 := by
  induction n with
  | zero => rfl
  | succ n ih =>
    show sN (fun w => if w = c then g w else 0) n + (if n = c then g n else 0) = _
    rw [ih]
    by_cases e : n = c
    · subst e
      rw [if_pos rfl, if_neg (by omega), if_pos (by omega)]; omega
    · rw [if_neg e]
      by_cases h : c < n
      · rw [if_pos h, if_pos (by omega)]; omega
      · rw [if_neg h, if_neg (by omega)]; rfl
theorem sN_ge {f : Nat → Int} {n j : Nat} (h : ∀ i, i < n → 0 ≤ f i) (hj : j < n) : f j ≤ sN f n := by
  have h1 := sN_one f j n
  rw [if_pos hj] at h1
  have h2 : sN (fun w => if w = j then f w else 0) n ≤ sN f n := sN_le (fun i hi => by
    have := h i hi
    show (if i = j then f i else 0) ≤ f i
    split <;> omega)
  omega
theorem sN_swap (a : Nat → Nat → Int) (k n : Nat) : sN (fun u => sN (a u) n) k = sN (fun w => sN (fun u => a u w) k) n := by
  induction k with
  | zero => exact (sN_zero n).symm
  | succ k ih =>
    show sN (fun u => sN (a u) n) k + sN (a k) n = sN (fun w => sN (fun u => a u w) k + a k w) n
    rw [ih, sN_add]
def inv6 (m : Nat → Nat) : Prop := ∀ w, w < 6 → m w < 6 ∧ m (m w) = w
theorem sN_perm {m : Nat → Nat} (h : inv6 m) (g : Nat → Int) : sN (fun u => g (m u)) 6 = sN g 6 := by
  have e1 : sN (fun u => g (m u)) 6 = sN (fun u => sN (fun w => if w = m u then g w else 0) 6) 6 := sN_congr (fun u hu => by
    rw [sN_one g (m u) 6, if_pos (h u hu).1])
  rw [e1, sN_swap]
  refine sN_congr (fun w hw => ?_)
  have e2 : sN (fun u => if w = m u then g w else 0) 6 = sN (fun u => if u = m w then (fun _ => g w) u else 0) 6 := sN_congr (fun u hu => by
    by_cases e : w = m u
    · rw [if_pos e, if_pos (by rw [e]; exact (h u hu).2.symm)]
    · rw [if_neg e, if_neg (fun e3 => e (by rw [e3]; exact (h w hw).2.symm))])
  rw [e2, sN_one, if_pos (h w hw).1]
theorem sN_unit {m : Nat → Nat} (hm : inv6 m) (p : Nat → Bool) (hp : ∀ w, w < 6 → p (m w) = p w) (V : Nat → Int) : sN (fun u => if p u = true ∧ u ≤ m u then V u + (if m u = u then 0 else V (m u)) else 0) 6 = sN (fun w => if p w = true then V w else 0) 6 := by
  have e1 : sN (fun u => if p u = true ∧ u ≤ m u then V u + (if m u = u then 0 else V (m u)) else 0) 6 = sN (fun u => (if p u = true ∧ u ≤ m u then V u else 0) + (fun w => if p w = true ∧ m w < w then V w else 0) (m u)) 6 := sN_congr (fun u hu => by
    show _ = (if p u = true ∧ u ≤ m u then V u else 0) + (if p (m u) = true ∧ m (m u) < m u then V (m u) else 0)
    rw [hp u hu, (hm u hu).2]
    by_cases hpu : p u = true
    · rcases Nat.lt_trichotomy u (m u) with h | h | h
      · have c1 : p u = true ∧ u ≤ m u := ⟨hpu, by omega⟩
        have c2 : p u = true ∧ u < m u := ⟨hpu, h⟩
        have c3 : ¬ m u = u := by omega
        simp only [c1, c2, c3, and_self, if_true, if_false]
      · have c1 : p u = true ∧ u ≤ m u := ⟨hpu, by omega⟩
        have c2 : ¬ (p u = true ∧ u < m u) := fun h2 => by omega
        have c3 : m u = u := h.symm
        rw [if_pos c1, if_pos c1, if_neg c2, if_pos c3]
      · have c1 : ¬ (p u = true ∧ u ≤ m u) := fun h2 => by omega
        have c2 : ¬ (p u = true ∧ u < m u) := fun h2 => by omega
        rw [if_neg c1, if_neg c1, if_neg c2]; rfl
    · have c1 : ¬ (p u = true ∧ u ≤ m u) := fun h2 => hpu h2.1
      have c2 : ¬ (p u = true ∧ u < m u) := fun h2 => hpu h2.1
      rw [if_neg c1, if_neg c1, if_neg c2]; rfl)
  rw [e1, sN_add, sN_perm hm (fun w => if p w = true ∧ m w < w then V w else 0), ← sN_add]
  refine sN_congr (fun u hu => ?_)
  by_cases hpu : p u = true
  · rw [if_pos hpu]
    rcases Nat.lt_or_ge (m u) u with h | h
    · rw [if_neg (fun h2 => by omega), if_pos ⟨hpu, h⟩]; omega
    · rw [if_pos ⟨hpu, h⟩, if_neg (fun h2 => by omega)]; omega
  · rw [if_neg hpu, if_neg (fun h => hpu h.1), if_neg (fun h => hpu h.1)]; rfl
theorem acc_I {z d : Nat → Int32} {c : Int} {M : Nat} (h0 : (z 0).toInt = c) (hc : 0 ≤ c ∧ c ≤ 1000) (hs : ∀ i, i < 6 → z (i + 1) = z i + d i) (hd : ∀ i, i < 6 → 0 ≤ (d i).toInt ∧ (d i).toInt ≤ M) (hM : M ≤ 10000000) : ∀ n, n ≤ 6 → (z n).toInt = c + sN (fun i => (d i).toInt) n := by
  intro n
  induction n with
  | zero => intro _; rw [h0]; show c = c + 0; omega
  | succ n ih =>
    intro hn
    have h1 := ih (by omega)
    have h2 := sN_bd (f := fun i => (d i).toInt) (M := M) (n := n) (fun i hi => hd i (by omega))
    have h3 := hd n (by omega)
    have h4 : n * M ≤ 6 * 10000000 := Nat.mul_le_mul (by omega) hM
    rw [hs n (by omega), i32_add (by omega) (by omega), h1]
    exact Int.add_assoc _ _ _
-- ---- bits
theorem bt_bit : ∀ a, a < 6 → ∀ i, i < 32 → bt (x_bit a) i = decide (i = a) := by decide +kernel
theorem bt_b {a i : Nat} (ha : a < 6) : bt (x_bit a) i = decide (i = a) := by
  rcases Nat.lt_or_ge i 32 with h | h
  · exact bt_bit a ha i h
  · rw [b_big h]; exact (decide_eq_false (by omega)).symm
theorem bt_not (x : Int32) {i : Nat} (hi : i < 32) : bt (x ^^^ (-1)) i = !bt x i := by rw [b_xor, b_m1 i hi, Bool.xor_true]
theorem un_low : ∀ a, a < 6 → ∀ b, b < 6 → (x_bit a ||| x_bit b) &&& -(x_bit a ||| x_bit b) = x_bit (min a b) := by decide +kernel
theorem bt_un {a b i : Nat} (ha : a < 6) (hb : b < 6) : bt (x_bit a ||| x_bit b) i = true ↔ i = a ∨ i = b := by
  rw [b_or, bt_b ha, bt_b hb, Bool.or_eq_true, decide_eq_true_iff, decide_eq_true_iff]
theorem z_iff {x : Int32} : x = 0 ↔ ∀ i, i < 32 → bt x i = false := ⟨fun h i _ => by rw [h]; exact b_0 i, fun h => b_ext (fun i hi => by rw [h i hi, b_0])⟩
theorem un_sub {a b : Nat} (ha : a < 6) (hb : b < 6) (y : Int32) : (x_bit a ||| x_bit b) &&& (y ^^^ (-1)) = 0 ↔ (bt y a = true ∧ bt y b = true) := by
  rw [z_iff]
  constructor
  · intro h
    have g : ∀ i, i < 6 → (i = a ∨ i = b) → bt y i = true := by
      intro i hi h2
      have h3 := h i (by omega)
      rw [b_and, bt_not y (by omega), (bt_un ha hb).mpr h2] at h3
      revert h3
      cases bt y i <;> simp
    exact ⟨g a ha (Or.inl rfl), g b hb (Or.inr rfl)⟩
  · intro h i hi
    rw [b_and, bt_not y hi]
    cases e : bt (x_bit a ||| x_bit b) i with
    | false => rfl
    | true =>
      rcases (bt_un ha hb).mp e with rfl | rfl
      · rw [h.1]; rfl
      · rw [h.2]; rfl
theorem un_and {a b : Nat} (ha : a < 6) (hb : b < 6) (y : Int32) : (x_bit a ||| x_bit b) &&& y = 0 ↔ (¬ bt y a = true ∧ ¬ bt y b = true) := by
  rw [z_iff]
  constructor
  · intro h
    have g : ∀ i, i < 6 → (i = a ∨ i = b) → ¬ bt y i = true := by
      intro i hi h2 h4
      have h3 := h i (by omega)
      rw [b_and, (bt_un ha hb).mpr h2, h4] at h3
      cases h3
    exact ⟨g a ha (Or.inl rfl), g b hb (Or.inr rfl)⟩
  · intro h i hi
    rw [b_and]
    cases e : bt (x_bit a ||| x_bit b) i with
    | false => rfl
    | true =>
      rcases (bt_un ha hb).mp e with rfl | rfl
      · rw [Bool.eq_false_iff.mpr h.1]; rfl
      · rw [Bool.eq_false_iff.mpr h.2]; rfl
-- ---- how many bits
def nb (b : Bool) : Int32 := if b = true then 1 else 0
def nB (b0 b1 b2 b3 b4 b5 : Bool) : Nat := b0.toNat + 2 * b1.toNat + 4 * b2.toNat + 8 * b3.toNat + 16 * b4.toNat + 32 * b5.toNat
theorem nB_bt : ∀ b0 b1 b2 b3 b4 b5 : Bool, ∀ i, i < 32 → bt (nI (nB b0 b1 b2 b3 b4 b5)) i = (if i = 0 then b0 else if i = 1 then b1 else if i = 2 then b2 else if i = 3 then b3 else if i = 4 then b4 else if i = 5 then b5 else false) := by decide +kernel
theorem nB_pc : ∀ b0 b1 b2 b3 b4 b5 : Bool, x_pc (nI (nB b0 b1 b2 b3 b4 b5)) = 0 + nb b0 + nb b1 + nb b2 + nb b3 + nb b4 + nb b5 := by decide +kernel
theorem pc_sum {x : Int32} (h : ∀ i, 6 ≤ i → i < 32 → bt x i = false) : x_pc x = 0 + nb (bt x 0) + nb (bt x 1) + nb (bt x 2) + nb (bt x 3) + nb (bt x 4) + nb (bt x 5) := by
  have e : x = nI (nB (bt x 0) (bt x 1) (bt x 2) (bt x 3) (bt x 4) (bt x 5)) := b_ext (fun i hi => by
    rw [nB_bt _ _ _ _ _ _ i hi]
    rcases Nat.lt_or_ge i 6 with h6 | h6
    · rcases (show i = 0 ∨ i = 1 ∨ i = 2 ∨ i = 3 ∨ i = 4 ∨ i = 5 by omega) with rfl | rfl | rfl | rfl | rfl | rfl <;> rfl
    · rw [h i h6 hi, if_neg (by omega), if_neg (by omega), if_neg (by omega), if_neg (by omega), if_neg (by omega), if_neg (by omega)])
  have g := nB_pc (bt x 0) (bt x 1) (bt x 2) (bt x 3) (bt x 4) (bt x 5)
  rw [← e] at g
  exact g
