def bt (x : Int32) (i : Nat) : Bool := x.toBitVec.getLsbD i
theorem b_ext {x y : Int32} (h : ∀ i, i < 32 → bt x i = bt y i) : x = y := Int32.toBitVec_inj.mp (BitVec.eq_of_getLsbD_eq (fun i hi => h i hi))
theorem b_or (x y : Int32) (i : Nat) : bt (x ||| y) i = (bt x i || bt y i) := by unfold bt; rw [Int32.toBitVec_or, BitVec.getLsbD_or]
theorem b_and (x y : Int32) (i : Nat) : bt (x &&& y) i = (bt x i && bt y i) := by unfold bt; rw [Int32.toBitVec_and, BitVec.getLsbD_and]
theorem b_xor (x y : Int32) (i : Nat) : bt (x ^^^ y) i = (bt x i ^^ bt y i) := by unfold bt; rw [Int32.toBitVec_xor, BitVec.getLsbD_xor]
theorem b_big {x : Int32} {i : Nat} (h : 32 ≤ i) : bt x i = false := BitVec.getLsbD_of_ge _ _ h
theorem b_m1 : ∀ i, i < 32 → bt (-1) i = true := by decide +kernel
theorem b_0 (i : Nat) : bt 0 i = false := BitVec.getLsbD_zero
theorem s_l : ∀ n, n < 32 → ((nI n &&& 31).toBitVec.smod 32).toNat = n := by decide +kernel
theorem s_u : ∀ n, n < 32 → (((nI n).toUInt32 &&& Int32.toUInt32 31).toBitVec % 32).toNat = n := by decide +kernel
theorem b_shl (n : Nat) (hn : n < 32) (x : Int32) {i : Nat} (hi : i < 32) : bt (x <<< (nI n &&& 31)) i = (decide (n ≤ i) && bt x (i - n)) := by
  unfold bt
  rw [Int32.toBitVec_shiftLeft]
  show (x.toBitVec <<< ((nI n &&& 31).toBitVec.smod 32).toNat).getLsbD i = _
  rw [s_l n hn, BitVec.getLsbD_shiftLeft]
  rcases Nat.lt_or_ge i n with h | h
  · simp [h, Nat.not_le.mpr h]
  · simp [hi, h, Nat.not_lt.mpr h]
theorem b_sshr (n : Nat) (hn : n < 32) (x : Int32) {i : Nat} (hi : i < 32) : bt (x >>> (nI n &&& 31)) i = if n + i < 32 then bt x (n + i) else bt x 31 := by
  unfold bt
  rw [Int32.toBitVec_shiftRight]
  show (x.toBitVec.sshiftRight ((nI n &&& 31).toBitVec.smod 32).toNat).getLsbD i = _
  rw [s_l n hn, BitVec.getLsbD_sshiftRight, BitVec.msb_eq_getLsbD_last]
  simp [hi]
theorem sw_4 (x : Int32) : (x.toInt < 0 ∨ 4 < x.toInt) ∨ x = 0 ∨ x = 1 ∨ x = 2 ∨ x = 3 ∨ x = 4 := by
  by_cases h : x.toInt < 0 ∨ 4 < x.toInt
  · exact Or.inl h
  · refine Or.inr ?_
    have h2 : x.toInt = 0 ∨ x.toInt = 1 ∨ x.toInt = 2 ∨ x.toInt = 3 ∨ x.toInt = 4 := by omega
    rcases h2 with h2 | h2 | h2 | h2 | h2
    · exact (Or.inl (Int32.toInt_inj.mp (by rw [h2]; rfl)))
    · exact (Or.inr (Or.inl (Int32.toInt_inj.mp (by rw [h2]; rfl))))
    · exact (Or.inr (Or.inr (Or.inl (Int32.toInt_inj.mp (by rw [h2]; rfl)))))
    · exact (Or.inr (Or.inr (Or.inr (Or.inl (Int32.toInt_inj.mp (by rw [h2]; rfl))))))
    · exact (Or.inr (Or.inr (Or.inr (Or.inr (Int32.toInt_inj.mp (by rw [h2]; rfl))))))
theorem sw_5 (x : Int32) : (x.toInt < 0 ∨ 5 < x.toInt) ∨ x = 0 ∨ x = 1 ∨ x = 2 ∨ x = 3 ∨ x = 4 ∨ x = 5 := by
  by_cases h : x.toInt < 0 ∨ 5 < x.toInt
  · exact Or.inl h
  · refine Or.inr ?_
    have h2 : x.toInt = 0 ∨ x.toInt = 1 ∨ x.toInt = 2 ∨ x.toInt = 3 ∨ x.toInt = 4 ∨ x.toInt = 5 := by omega
    rcases h2 with h2 | h2 | h2 | h2 | h2 | h2
    · exact (Or.inl (Int32.toInt_inj.mp (by rw [h2]; rfl)))
    · exact (Or.inr (Or.inl (Int32.toInt_inj.mp (by rw [h2]; rfl))))
    · exact (Or.inr (Or.inr (Or.inl (Int32.toInt_inj.mp (by rw [h2]; rfl)))))
    · exact (Or.inr (Or.inr (Or.inr (Or.inl (Int32.toInt_inj.mp (by rw [h2]; rfl))))))
    · exact (Or.inr (Or.inr (Or.inr (Or.inr (Or.inl (Int32.toInt_inj.mp (by rw [h2]; rfl)))))))
    · exact (Or.inr (Or.inr (Or.inr (Or.inr (Or.inr (Int32.toInt_inj.mp (by rw [h2]; rfl)))))))
theorem sw_28 (x : Int32) : (x.toInt < 0 ∨ 28 < x.toInt) ∨ x = 0 ∨ x = 1 ∨ x = 2 ∨ x = 3 ∨ x = 4 ∨ x = 5 ∨ x = 6 ∨ x = 7 ∨ x = 8 ∨ x = 9 ∨ x = 10 ∨ x = 11 ∨ x = 12 ∨ x = 13 ∨ x = 14 ∨ x = 15 ∨ x = 16 ∨ x = 17 ∨ x = 18 ∨ x = 19 ∨ x = 20 ∨ x = 21 ∨ x = 22 ∨ x = 23 ∨ x = 24 ∨ x = 25 ∨ x = 26 ∨ x = 27 ∨ x = 28 := by
  by_cases h : x.toInt < 0 ∨ 28 < x.toInt
  · exact Or.inl h
  · refine Or.inr ?_
    have h2 : x.toInt = 0 ∨ x.toInt = 1 ∨ x.toInt = 2 ∨ x.toInt = 3 ∨ x.toInt = 4 ∨ x.toInt = 5 ∨ x.toInt = 6 ∨ x.toInt = 7 ∨ x.toInt = 8 ∨ x.toInt = 9 ∨ x.toInt = 10 ∨ x.toInt = 11 ∨ x.toInt = 12 ∨ x.toInt = 13 ∨ x.toInt = 14 ∨ x.toInt = 15 ∨ x.toInt = 16 ∨ x.toInt = 17 ∨ x.toInt = 18 ∨ x.toInt = 19 ∨ x.toInt = 20 ∨ x.toInt = 21 ∨ x.toInt = 22 ∨ x.toInt = 23 ∨ x.toInt = 24 ∨ x.toInt = 25 ∨ x.toInt = 26 ∨ x.toInt = 27 ∨ x.toInt = 28 := by omega
    rcases h2 with h2 | h2 | h2 | h2 | h2 | h2 | h2 | h2 | h2 | h2 | h2 | h2 | h2 | h2 | h2 | h2 | h2 | h2 | h2 | h2 | h2 | h2 | h2 | h2 | h2 | h2 | h2 | h2 | h2
    · exact (Or.inl (Int32.toInt_inj.mp (by rw [h2]; rfl)))
    · exact (Or.inr (Or.inl (Int32.toInt_inj.mp (by rw [h2]; rfl))))
    · exact (Or.inr (Or.inr (Or.inl (Int32.toInt_inj.mp (by rw [h2]; rfl)))))
    · exact (Or.inr (Or.inr (Or.inr (Or.inl (Int32.toInt_inj.mp (by rw [h2]; rfl))))))
    · exact (Or.inr (Or.inr (Or.inr (Or.inr (Or.inl (Int32.toInt_inj.mp (by rw [h2]; rfl)))))))
    · exact (Or.inr (Or.inr (Or.inr (Or.inr (Or.inr (Or.inl (Int32.toInt_inj.mp (by rw [h2]; rfl))))))))
    · exact (Or.inr (Or.inr (Or.inr (Or.inr (Or.inr (Or.inr (Or.inl (Int32.toInt_inj.mp (by rw [h2]; rfl)))))))))
    · exact (Or.inr (Or.inr (Or.inr (Or.inr (Or.inr (Or.inr (Or.inr (Or.inl (Int32.toInt_inj.mp (by rw [h2]; rfl))))))))))
    · exact (Or.inr (Or.inr (Or.inr (Or.inr (Or.inr (Or.inr (Or.inr (Or.inr (Or.inl (Int32.toInt_inj.mp (by rw [h2]; rfl)))))))))))
    · exact (Or.inr (Or.inr (Or.inr (Or.inr (Or.inr (Or.inr (Or.inr (Or.inr (Or.inr (Or.inl (Int32.toInt_inj.mp (by rw [h2]; rfl))))))))))))
    · exact (Or.inr (Or.inr (Or.inr (Or.inr (Or.inr (Or.inr (Or.inr (Or.inr (Or.inr (Or.inr (Or.inl (Int32.toInt_inj.mp (by rw [h2]; rfl)))))))))))))
    · exact (Or.inr (Or.inr (Or.inr (Or.inr (Or.inr (Or.inr (Or.inr (Or.inr (Or.inr (Or.inr (Or.inr (Or.inl (Int32.toInt_inj.mp (by rw [h2]; rfl))))))))))))))
    · exact (Or.inr (Or.inr (Or.inr (Or.inr (Or.inr (Or.inr (Or.inr (Or.inr (Or.inr (Or.inr (Or.inr (Or.inr (Or.inl (Int32.toInt_inj.mp (by rw [h2]; rfl)))))))))))))))
    · exact (Or.inr (Or.inr (Or.inr (Or.inr (Or.inr (Or.inr (Or.inr (Or.inr (Or.inr (Or.inr (Or.inr (Or.inr (Or.inr (Or.inl (Int32.toInt_inj.mp (by rw [h2]; rfl))))))))))))))))
    · exact (Or.inr (Or.inr (Or.inr (Or.inr (Or.inr (Or.inr (Or.inr (Or.inr (Or.inr (Or.inr (Or.inr (Or.inr (Or.inr (Or.inr (Or.inl (Int32.toInt_inj.mp (by rw [h2]; rfl)))))))))))))))))
    · exact (Or.inr (Or.inr (Or.inr (Or.inr (Or.inr (Or.inr (Or.inr (Or.inr (Or.inr (Or.inr (Or.inr (Or.inr (Or.inr (Or.inr (Or.inr (Or.inl (Int32.toInt_inj.mp (by rw [h2]; rfl))))))))))))))))))
    · exact (Or.inr (Or.inr (Or.inr (Or.inr (Or.inr (Or.inr (Or.inr (Or.inr (Or.inr (Or.inr (Or.inr (Or.inr (Or.inr (Or.inr (Or.inr (Or.inr (Or.inl (Int32.toInt_inj.mp (by rw [h2]; rfl)))))))))))))))))))
    · exact (Or.inr (Or.inr (Or.inr (Or.inr (Or.inr (Or.inr (Or.inr (Or.inr (Or.inr (Or.inr (Or.inr (Or.inr (Or.inr (Or.inr (Or.inr (Or.inr (Or.inr (Or.inl (Int32.toInt_inj.mp (by rw [h2]; rfl))))))))))))))))))))
    · exact (Or.inr (Or.inr (Or.inr (Or.inr (Or.inr (Or.inr (Or.inr (Or.inr (Or.inr (Or.inr (Or.inr (Or.inr (Or.inr (Or.inr (Or.inr (Or.inr (Or.inr (Or.inr (Or.inl (Int32.toInt_inj.mp (by rw [h2]; rfl)))))))))))))))))))))
    · exact (Or.inr (Or.inr (Or.inr (Or.inr (Or.inr (Or.inr (Or.inr (Or.inr (Or.inr (Or.inr (Or.inr (Or.inr (Or.inr (Or.inr (Or.inr (Or.inr (Or.inr (Or.inr (Or.inr (Or.inl (Int32.toInt_inj.mp (by rw [h2]; rfl))))))))))))))))))))))
    · exact (Or.inr (Or.inr (Or.inr (Or.inr (Or.inr (Or.inr (Or.inr (Or.inr (Or.inr (Or.inr (Or.inr (Or.inr (Or.inr (Or.inr (Or.inr (Or.inr (Or.inr (Or.inr (Or.inr (Or.inr (Or.inl (Int32.toInt_inj.mp (by rw [h2]; rfl)))))))))))))))))))))))
    · exact (Or.inr (Or.inr (Or.inr (Or.inr (Or.inr (Or.inr (Or.inr (Or.inr (Or.inr (Or.inr (Or.inr (Or.inr (Or.inr (Or.inr (Or.inr (Or.inr (Or.inr (Or.inr (Or.inr (Or.inr (Or.inr (Or.inl (Int32.toInt_inj.mp (by rw [h2]; rfl))))))))))))))))))))))))
    · exact (Or.inr (Or.inr (Or.inr (Or.inr (Or.inr (Or.inr (Or.inr (Or.inr (Or.inr (Or.inr (Or.inr (Or.inr (Or.inr (Or.inr (Or.inr (Or.inr (Or.inr (Or.inr (Or.inr (Or.inr (Or.inr (Or.inr (Or.inl (Int32.toInt_inj.mp (by rw [h2]; rfl)))))))))))))))))))))))))
    · exact (Or.inr (Or.inr (Or.inr (Or.inr (Or.inr (Or.inr (Or.inr (Or.inr (Or.inr (Or.inr (Or.inr (Or.inr (Or.inr (Or.inr (Or.inr (Or.inr (Or.inr (Or.inr (Or.inr (Or.inr (Or.inr (Or.inr (Or.inr (Or.inl (Int32.toInt_inj.mp (by rw [h2]; rfl))))))))))))))))))))))))))
    · exact (Or.inr (Or.inr (Or.inr (Or.inr (Or.inr (Or.inr (Or.inr (Or.inr (Or.inr (Or.inr (Or.inr (Or.inr (Or.inr (Or.inr (Or.inr (Or.inr (Or.inr (Or.inr (Or.inr (Or.inr (Or.inr (Or.inr (Or.inr (Or.inr (Or.inl (Int32.toInt_inj.mp (by rw [h2]; rfl)))))))))))))))))))))))))))
    · exact (Or.inr (Or.inr (Or.inr (Or.inr (Or.inr (Or.inr (Or.inr (Or.inr (Or.inr (Or.inr (Or.inr (Or.inr (Or.inr (Or.inr (Or.inr (Or.inr (Or.inr (Or.inr (Or.inr (Or.inr (Or.inr (Or.inr (Or.inr (Or.inr (Or.inr (Or.inl (Int32.toInt_inj.mp (by rw [h2]; rfl))))))))))))))))))))))))))))
    · exact (Or.inr (Or.inr (Or.inr (Or.inr (Or.inr (Or.inr (Or.inr (Or.inr (Or.inr (Or.inr (Or.inr (Or.inr (Or.inr (Or.inr (Or.inr (Or.inr (Or.inr (Or.inr (Or.inr (Or.inr (Or.inr (Or.inr (Or.inr (Or.inr (Or.inr (Or.inr (Or.inl (Int32.toInt_inj.mp (by rw [h2]; rfl)))))))))))))))))))))))))))))
    · exact (Or.inr (Or.inr (Or.inr (Or.inr (Or.inr (Or.inr (Or.inr (Or.inr (Or.inr (Or.inr (Or.inr (Or.inr (Or.inr (Or.inr (Or.inr (Or.inr (Or.inr (Or.inr (Or.inr (Or.inr (Or.inr (Or.inr (Or.inr (Or.inr (Or.inr (Or.inr (Or.inr (Or.inl (Int32.toInt_inj.mp (by rw [h2]; rfl))))))))))))))))))))))))))))))
    · exact (Or.inr (Or.inr (Or.inr (Or.inr (Or.inr (Or.inr (Or.inr (Or.inr (Or.inr (Or.inr (Or.inr (Or.inr (Or.inr (Or.inr (Or.inr (Or.inr (Or.inr (Or.inr (Or.inr (Or.inr (Or.inr (Or.inr (Or.inr (Or.inr (Or.inr (Or.inr (Or.inr (Or.inr (Int32.toInt_inj.mp (by rw [h2]; rfl))))))))))))))))))))))))))))))

/-- a truth value's answer -/
def bp (r : Int32) (P : Prop) : Prop := (r = 1 ∧ P) ∨ (r = 0 ∧ ¬ P)
theorem nilP {D : va_G} {H : Heap} : va_P D vwCl [] H := fun k q h => by simp at h
theorem nilD {A : Nat → Prop} : va_D A [] := ⟨fun i j p q h => by simp at h, fun k q h => by simp at h⟩
abbrev ty3 (cI cJ cZ : ClassId) : List (ClassId × FieldType) := [(cI, .int), (cJ, .long), (cZ, .boolean)]
abbrev aW (cI : ClassId) (a : Nat) (row : Nat → Int32) : va_W := [(a, .inl (cI, 6, .inl row))]
/-- the class: its object and its five rows -/
abbrev xW (cI : ClassId) (q : Nat → Nat) (ln cw ic bs ss : Int32) (se we un sf pa : Nat → Int32) : va_W := [(q 0, .inr (3, [.int ln, .int cw, .ref (q 1), .int ic, .int bs, .int ss, .ref (q 2), .ref (q 3), .ref (q 4), .ref (q 5), .ref (q 6)])), (q 1, .inl (cI, 3, .inl se)), (q 2, .inl (cI, 6, .inl we)), (q 3, .inl (cI, 6, .inl un)), (q 4, .inl (cI, 6, .inl sf)), (q 5, .inl (cI, 6, .inl pa))]
/-- its flow -/
abbrev fW (cI cJ : ClassId) (q : Nat → Nat) (ct : Int32) (ov : Nat → Int64) (gi ta : Nat → Int32) (gf : Nat → Int64) : va_W := [(q 6, .inr (0, [.ref (q 7), .ref (q 8), .ref (q 9), .ref (q 10), .int ct])), (q 7, .inl (cJ, 6, .inr (.inl ov))), (q 8, .inl (cI, 6, .inl gi)), (q 9, .inl (cI, 6, .inl ta)), (q 10, .inl (cJ, 6, .inr (.inl gf)))]
/-- a share; what is owed -/
abbrev shW (a : Nat) (u d : Int64) : va_W := [(a, .inr (2, [.long u, .long d]))]
abbrev owW (a : Nat) (e1 e2 e3 e4 e5 e6 : Nat) (fd : Int64) : va_W := [(a, .inr (1, [.ref e1, .ref e2, .ref e3, .ref e4, .ref e5, .ref e6, .long fd]))]
/-- the reference: its object and the case's rows; shares; transfers -/
abbrev mW (cI cZ : ClassId) (k : Nat → Nat) (up lo : Int64) (ln cn : Int32) (tm : Int32) (se isI we br ma sf pa : Nat → Int32) : va_W := [(k 0, .inr (4, [.long up, .long lo, .int ln, .int cn, .ref (k 1), .ref (k 2), .ref (k 3), .ref (k 4), .ref (k 5), .ref (k 6), .ref (k 7), .ref (k 8), .ref (k 9), .ref (k 10), .ref (k 11), .ref (k 12), .ref (k 13), .int tm, .ref (k 14), .ref (k 15), .ref (k 16), .ref (k 17)])), (k 1, .inl (cI, 3, .inl se)), (k 2, .inl (cZ, 6, .inl isI)), (k 3, .inl (cI, 6, .inl we)), (k 4, .inl (cZ, 6, .inl br)), (k 5, .inl (cI, 6, .inl ma)), (k 6, .inl (cI, 6, .inl sf)), (k 7, .inl (cI, 6, .inl pa))]
abbrev mS (cJ : ClassId) (k : Nat → Nat) (aU aL uU uL : Nat → Int64) : va_W := [(k 8, .inl (cJ, 5, .inr (.inl aU))), (k 9, .inl (cJ, 5, .inr (.inl aL))), (k 10, .inl (cJ, 6, .inr (.inl uU))), (k 11, .inl (cJ, 6, .inr (.inl uL)))]
abbrev mT (cI cJ : ClassId) (k : Nat → Nat) (oU oL : Nat → Int64) (gi ta : Nat → Int32) (gU gL : Nat → Int64) : va_W := [(k 12, .inl (cJ, 6, .inr (.inl oU))), (k 13, .inl (cJ, 6, .inr (.inl oL))), (k 14, .inl (cI, 12, .inl gi)), (k 15, .inl (cI, 12, .inl ta)), (k 16, .inl (cJ, 12, .inr (.inl gU))), (k 17, .inl (cJ, 12, .inr (.inl gL)))]
theorem md_J6_bitCount_0f7a4 : yJ6_bitCount_0f7a4.cls ≠ "java/lang/invoke/MethodHandle" ∧ yJ6_bitCount_0f7a4.cls ≠ "java/lang/invoke/VarHandle" ∧ (parseMethodDescriptor yJ6_bitCount_0f7a4.desc).map (fun d => d.parameters.length) = some 1 := by decide +kernel
theorem md_X0_find : yX0_find.cls ≠ "java/lang/invoke/MethodHandle" ∧ yX0_find.cls ≠ "java/lang/invoke/VarHandle" ∧ (parseMethodDescriptor yX0_find.desc).map (fun d => d.parameters.length) = some 0 := by decide +kernel
theorem md_X0_give : yX0_give.cls ≠ "java/lang/invoke/MethodHandle" ∧ yX0_give.cls ≠ "java/lang/invoke/VarHandle" ∧ (parseMethodDescriptor yX0_give.desc).map (fun d => d.parameters.length) = some 2 := by decide +kernel
theorem md_X0_holds : yX0_holds.cls ≠ "java/lang/invoke/MethodHandle" ∧ yX0_holds.cls ≠ "java/lang/invoke/VarHandle" ∧ (parseMethodDescriptor yX0_holds.desc).map (fun d => d.parameters.length) = some 1 := by decide +kernel
theorem md_X0_init : yX0_init.cls ≠ "java/lang/invoke/MethodHandle" ∧ yX0_init.cls ≠ "java/lang/invoke/VarHandle" ∧ (parseMethodDescriptor yX0_init.desc).map (fun d => d.parameters.length) = some 0 := by decide +kernel
theorem md_X1_init : yX1_init.cls ≠ "java/lang/invoke/MethodHandle" ∧ yX1_init.cls ≠ "java/lang/invoke/VarHandle" ∧ (parseMethodDescriptor yX1_init.desc).map (fun d => d.parameters.length) = some 6 := by decide +kernel
theorem md_X2_commonDivisor : yX2_commonDivisor.cls ≠ "java/lang/invoke/MethodHandle" ∧ yX2_commonDivisor.cls ≠ "java/lang/invoke/VarHandle" ∧ (parseMethodDescriptor yX2_commonDivisor.desc).map (fun d => d.parameters.length) = some 2 := by decide +kernel
theorem md_X2_init : yX2_init.cls ≠ "java/lang/invoke/MethodHandle" ∧ yX2_init.cls ≠ "java/lang/invoke/VarHandle" ∧ (parseMethodDescriptor yX2_init.desc).map (fun d => d.parameters.length) = some 2 := by decide +kernel
theorem md_X2_minus : yX2_minus.cls ≠ "java/lang/invoke/MethodHandle" ∧ yX2_minus.cls ≠ "java/lang/invoke/VarHandle" ∧ (parseMethodDescriptor yX2_minus.desc).map (fun d => d.parameters.length) = some 1 := by decide +kernel
theorem md_X2_of : yX2_of.cls ≠ "java/lang/invoke/MethodHandle" ∧ yX2_of.cls ≠ "java/lang/invoke/VarHandle" ∧ (parseMethodDescriptor yX2_of.desc).map (fun d => d.parameters.length) = some 2 := by decide +kernel
theorem md_X2_plusWhole : yX2_plusWhole.cls ≠ "java/lang/invoke/MethodHandle" ∧ yX2_plusWhole.cls ≠ "java/lang/invoke/VarHandle" ∧ (parseMethodDescriptor yX2_plusWhole.desc).map (fun d => d.parameters.length) = some 1 := by decide +kernel
theorem md_X2_times : yX2_times.cls ≠ "java/lang/invoke/MethodHandle" ∧ yX2_times.cls ≠ "java/lang/invoke/VarHandle" ∧ (parseMethodDescriptor yX2_times.desc).map (fun d => d.parameters.length) = some 1 := by decide +kernel
theorem md_X2_told : yX2_told.cls ≠ "java/lang/invoke/MethodHandle" ∧ yX2_told.cls ≠ "java/lang/invoke/VarHandle" ∧ (parseMethodDescriptor yX2_told.desc).map (fun d => d.parameters.length) = some 1 := by decide +kernel
theorem md_X3_allPaid : yX3_allPaid.cls ≠ "java/lang/invoke/MethodHandle" ∧ yX3_allPaid.cls ≠ "java/lang/invoke/VarHandle" ∧ (parseMethodDescriptor yX3_allPaid.desc).map (fun d => d.parameters.length) = some 0 := by decide +kernel
theorem md_X3_amount : yX3_amount.cls ≠ "java/lang/invoke/MethodHandle" ∧ yX3_amount.cls ≠ "java/lang/invoke/VarHandle" ∧ (parseMethodDescriptor yX3_amount.desc).map (fun d => d.parameters.length) = some 2 := by decide +kernel
theorem md_X3_bears : yX3_bears.cls ≠ "java/lang/invoke/MethodHandle" ∧ yX3_bears.cls ≠ "java/lang/invoke/VarHandle" ∧ (parseMethodDescriptor yX3_bears.desc).map (fun d => d.parameters.length) = some 1 := by decide +kernel
theorem md_X3_bestManner : yX3_bestManner.cls ≠ "java/lang/invoke/MethodHandle" ∧ yX3_bestManner.cls ≠ "java/lang/invoke/VarHandle" ∧ (parseMethodDescriptor yX3_bestManner.desc).map (fun d => d.parameters.length) = some 0 := by decide +kernel
theorem md_X3_bit : yX3_bit.cls ≠ "java/lang/invoke/MethodHandle" ∧ yX3_bit.cls ≠ "java/lang/invoke/VarHandle" ∧ (parseMethodDescriptor yX3_bit.desc).map (fun d => d.parameters.length) = some 1 := by decide +kernel
theorem md_X3_blame : yX3_blame.cls ≠ "java/lang/invoke/MethodHandle" ∧ yX3_blame.cls ≠ "java/lang/invoke/VarHandle" ∧ (parseMethodDescriptor yX3_blame.desc).map (fun d => d.parameters.length) = some 0 := by decide +kernel
theorem md_X3_blameDown : yX3_blameDown.cls ≠ "java/lang/invoke/MethodHandle" ∧ yX3_blameDown.cls ≠ "java/lang/invoke/VarHandle" ∧ (parseMethodDescriptor yX3_blameDown.desc).map (fun d => d.parameters.length) = some 0 := by decide +kernel
theorem md_X3_broke : yX3_broke.cls ≠ "java/lang/invoke/MethodHandle" ∧ yX3_broke.cls ≠ "java/lang/invoke/VarHandle" ∧ (parseMethodDescriptor yX3_broke.desc).map (fun d => d.parameters.length) = some 2 := by decide +kernel
theorem md_X3_claimant : yX3_claimant.cls ≠ "java/lang/invoke/MethodHandle" ∧ yX3_claimant.cls ≠ "java/lang/invoke/VarHandle" ∧ (parseMethodDescriptor yX3_claimant.desc).map (fun d => d.parameters.length) = some 1 := by decide +kernel
theorem md_X3_credit : yX3_credit.cls ≠ "java/lang/invoke/MethodHandle" ∧ yX3_credit.cls ≠ "java/lang/invoke/VarHandle" ∧ (parseMethodDescriptor yX3_credit.desc).map (fun d => d.parameters.length) = some 2 := by decide +kernel
theorem md_X3_creditUp : yX3_creditUp.cls ≠ "java/lang/invoke/MethodHandle" ∧ yX3_creditUp.cls ≠ "java/lang/invoke/VarHandle" ∧ (parseMethodDescriptor yX3_creditUp.desc).map (fun d => d.parameters.length) = some 3 := by decide +kernel
theorem md_X3_creditsUp : yX3_creditsUp.cls ≠ "java/lang/invoke/MethodHandle" ∧ yX3_creditsUp.cls ≠ "java/lang/invoke/VarHandle" ∧ (parseMethodDescriptor yX3_creditsUp.desc).map (fun d => d.parameters.length) = some 3 := by decide +kernel
theorem md_X3_due : yX3_due.cls ≠ "java/lang/invoke/MethodHandle" ∧ yX3_due.cls ≠ "java/lang/invoke/VarHandle" ∧ (parseMethodDescriptor yX3_due.desc).map (fun d => d.parameters.length) = some 2 := by decide +kernel
theorem md_X3_entitledUp : yX3_entitledUp.cls ≠ "java/lang/invoke/MethodHandle" ∧ yX3_entitledUp.cls ≠ "java/lang/invoke/VarHandle" ∧ (parseMethodDescriptor yX3_entitledUp.desc).map (fun d => d.parameters.length) = some 0 := by decide +kernel
theorem md_X3_evenOut : yX3_evenOut.cls ≠ "java/lang/invoke/MethodHandle" ∧ yX3_evenOut.cls ≠ "java/lang/invoke/VarHandle" ∧ (parseMethodDescriptor yX3_evenOut.desc).map (fun d => d.parameters.length) = some 1 := by decide +kernel
theorem md_X3_fair : yX3_fair.cls ≠ "java/lang/invoke/MethodHandle" ∧ yX3_fair.cls ≠ "java/lang/invoke/VarHandle" ∧ (parseMethodDescriptor yX3_fair.desc).map (fun d => d.parameters.length) = some 2 := by decide +kernel
theorem md_X3_fairUp : yX3_fairUp.cls ≠ "java/lang/invoke/MethodHandle" ∧ yX3_fairUp.cls ≠ "java/lang/invoke/VarHandle" ∧ (parseMethodDescriptor yX3_fairUp.desc).map (fun d => d.parameters.length) = some 2 := by decide +kernel
theorem md_X3_fillUnit : yX3_fillUnit.cls ≠ "java/lang/invoke/MethodHandle" ∧ yX3_fillUnit.cls ≠ "java/lang/invoke/VarHandle" ∧ (parseMethodDescriptor yX3_fillUnit.desc).map (fun d => d.parameters.length) = some 2 := by decide +kernel
theorem md_X3_firstOf : yX3_firstOf.cls ≠ "java/lang/invoke/MethodHandle" ∧ yX3_firstOf.cls ≠ "java/lang/invoke/VarHandle" ∧ (parseMethodDescriptor yX3_firstOf.desc).map (fun d => d.parameters.length) = some 1 := by decide +kernel
theorem md_X3_gets : yX3_gets.cls ≠ "java/lang/invoke/MethodHandle" ∧ yX3_gets.cls ≠ "java/lang/invoke/VarHandle" ∧ (parseMethodDescriptor yX3_gets.desc).map (fun d => d.parameters.length) = some 3 := by decide +kernel
theorem md_X3_given : yX3_given.cls ≠ "java/lang/invoke/MethodHandle" ∧ yX3_given.cls ≠ "java/lang/invoke/VarHandle" ∧ (parseMethodDescriptor yX3_given.desc).map (fun d => d.parameters.length) = some 2 := by decide +kernel
theorem md_X3_gotBy : yX3_gotBy.cls ≠ "java/lang/invoke/MethodHandle" ∧ yX3_gotBy.cls ≠ "java/lang/invoke/VarHandle" ∧ (parseMethodDescriptor yX3_gotBy.desc).map (fun d => d.parameters.length) = some 2 := by decide +kernel
theorem md_X3_has : yX3_has.cls ≠ "java/lang/invoke/MethodHandle" ∧ yX3_has.cls ≠ "java/lang/invoke/VarHandle" ∧ (parseMethodDescriptor yX3_has.desc).map (fun d => d.parameters.length) = some 2 := by decide +kernel
theorem md_X3_init : yX3_init.cls ≠ "java/lang/invoke/MethodHandle" ∧ yX3_init.cls ≠ "java/lang/invoke/VarHandle" ∧ (parseMethodDescriptor yX3_init.desc).map (fun d => d.parameters.length) = some 0 := by decide +kernel
theorem md_X3_isKnown : yX3_isKnown.cls ≠ "java/lang/invoke/MethodHandle" ∧ yX3_isKnown.cls ≠ "java/lang/invoke/VarHandle" ∧ (parseMethodDescriptor yX3_isKnown.desc).map (fun d => d.parameters.length) = some 1 := by decide +kernel
theorem md_X3_isOutside : yX3_isOutside.cls ≠ "java/lang/invoke/MethodHandle" ∧ yX3_isOutside.cls ≠ "java/lang/invoke/VarHandle" ∧ (parseMethodDescriptor yX3_isOutside.desc).map (fun d => d.parameters.length) = some 3 := by decide +kernel
theorem md_X3_isPaired : yX3_isPaired.cls ≠ "java/lang/invoke/MethodHandle" ∧ yX3_isPaired.cls ≠ "java/lang/invoke/VarHandle" ∧ (parseMethodDescriptor yX3_isPaired.desc).map (fun d => d.parameters.length) = some 1 := by decide +kernel
theorem md_X3_leave : yX3_leave.cls ≠ "java/lang/invoke/MethodHandle" ∧ yX3_leave.cls ≠ "java/lang/invoke/VarHandle" ∧ (parseMethodDescriptor yX3_leave.desc).map (fun d => d.parameters.length) = some 1 := by decide +kernel
theorem md_X3_loss : yX3_loss.cls ≠ "java/lang/invoke/MethodHandle" ∧ yX3_loss.cls ≠ "java/lang/invoke/VarHandle" ∧ (parseMethodDescriptor yX3_loss.desc).map (fun d => d.parameters.length) = some 1 := by decide +kernel
theorem md_X3_many : yX3_many.cls ≠ "java/lang/invoke/MethodHandle" ∧ yX3_many.cls ≠ "java/lang/invoke/VarHandle" ∧ (parseMethodDescriptor yX3_many.desc).map (fun d => d.parameters.length) = some 1 := by decide +kernel
theorem md_X3_misses : yX3_misses.cls ≠ "java/lang/invoke/MethodHandle" ∧ yX3_misses.cls ≠ "java/lang/invoke/VarHandle" ∧ (parseMethodDescriptor yX3_misses.desc).map (fun d => d.parameters.length) = some 2 := by decide +kernel
theorem md_X3_ofWrong : yX3_ofWrong.cls ≠ "java/lang/invoke/MethodHandle" ∧ yX3_ofWrong.cls ≠ "java/lang/invoke/VarHandle" ∧ (parseMethodDescriptor yX3_ofWrong.desc).map (fun d => d.parameters.length) = some 2 := by decide +kernel
theorem md_X3_openBroke : yX3_openBroke.cls ≠ "java/lang/invoke/MethodHandle" ∧ yX3_openBroke.cls ≠ "java/lang/invoke/VarHandle" ∧ (parseMethodDescriptor yX3_openBroke.desc).map (fun d => d.parameters.length) = some 2 := by decide +kernel
theorem md_X3_openUnit : yX3_openUnit.cls ≠ "java/lang/invoke/MethodHandle" ∧ yX3_openUnit.cls ≠ "java/lang/invoke/VarHandle" ∧ (parseMethodDescriptor yX3_openUnit.desc).map (fun d => d.parameters.length) = some 1 := by decide +kernel
theorem md_X3_over : yX3_over.cls ≠ "java/lang/invoke/MethodHandle" ∧ yX3_over.cls ≠ "java/lang/invoke/VarHandle" ∧ (parseMethodDescriptor yX3_over.desc).map (fun d => d.parameters.length) = some 2 := by decide +kernel
theorem md_X3_overUp : yX3_overUp.cls ≠ "java/lang/invoke/MethodHandle" ∧ yX3_overUp.cls ≠ "java/lang/invoke/VarHandle" ∧ (parseMethodDescriptor yX3_overUp.desc).map (fun d => d.parameters.length) = some 2 := by decide +kernel
theorem md_X3_owe : yX3_owe.cls ≠ "java/lang/invoke/MethodHandle" ∧ yX3_owe.cls ≠ "java/lang/invoke/VarHandle" ∧ (parseMethodDescriptor yX3_owe.desc).map (fun d => d.parameters.length) = some 0 := by decide +kernel
theorem md_X3_owedIf : yX3_owedIf.cls ≠ "java/lang/invoke/MethodHandle" ∧ yX3_owedIf.cls ≠ "java/lang/invoke/VarHandle" ∧ (parseMethodDescriptor yX3_owedIf.desc).map (fun d => d.parameters.length) = some 4 := by decide +kernel
theorem md_X3_owedNow : yX3_owedNow.cls ≠ "java/lang/invoke/MethodHandle" ∧ yX3_owedNow.cls ≠ "java/lang/invoke/VarHandle" ∧ (parseMethodDescriptor yX3_owedNow.desc).map (fun d => d.parameters.length) = some 0 := by decide +kernel
theorem md_X3_pair : yX3_pair.cls ≠ "java/lang/invoke/MethodHandle" ∧ yX3_pair.cls ≠ "java/lang/invoke/VarHandle" ∧ (parseMethodDescriptor yX3_pair.desc).map (fun d => d.parameters.length) = some 2 := by decide +kernel
theorem md_X3_part : yX3_part.cls ≠ "java/lang/invoke/MethodHandle" ∧ yX3_part.cls ≠ "java/lang/invoke/VarHandle" ∧ (parseMethodDescriptor yX3_part.desc).map (fun d => d.parameters.length) = some 1 := by decide +kernel
theorem md_X3_partUnit : yX3_partUnit.cls ≠ "java/lang/invoke/MethodHandle" ∧ yX3_partUnit.cls ≠ "java/lang/invoke/VarHandle" ∧ (parseMethodDescriptor yX3_partUnit.desc).map (fun d => d.parameters.length) = some 1 := by decide +kernel
theorem md_X3_pay : yX3_pay.cls ≠ "java/lang/invoke/MethodHandle" ∧ yX3_pay.cls ≠ "java/lang/invoke/VarHandle" ∧ (parseMethodDescriptor yX3_pay.desc).map (fun d => d.parameters.length) = some 2 := by decide +kernel
theorem md_X3_refund : yX3_refund.cls ≠ "java/lang/invoke/MethodHandle" ∧ yX3_refund.cls ≠ "java/lang/invoke/VarHandle" ∧ (parseMethodDescriptor yX3_refund.desc).map (fun d => d.parameters.length) = some 1 := by decide +kernel
theorem md_X3_reopen : yX3_reopen.cls ≠ "java/lang/invoke/MethodHandle" ∧ yX3_reopen.cls ≠ "java/lang/invoke/VarHandle" ∧ (parseMethodDescriptor yX3_reopen.desc).map (fun d => d.parameters.length) = some 1 := by decide +kernel
theorem md_X3_saves : yX3_saves.cls ≠ "java/lang/invoke/MethodHandle" ∧ yX3_saves.cls ≠ "java/lang/invoke/VarHandle" ∧ (parseMethodDescriptor yX3_saves.desc).map (fun d => d.parameters.length) = some 3 := by decide +kernel
theorem md_X3_setting : yX3_setting.cls ≠ "java/lang/invoke/MethodHandle" ∧ yX3_setting.cls ≠ "java/lang/invoke/VarHandle" ∧ (parseMethodDescriptor yX3_setting.desc).map (fun d => d.parameters.length) = some 2 := by decide +kernel
theorem md_X3_settle : yX3_settle.cls ≠ "java/lang/invoke/MethodHandle" ∧ yX3_settle.cls ≠ "java/lang/invoke/VarHandle" ∧ (parseMethodDescriptor yX3_settle.desc).map (fun d => d.parameters.length) = some 2 := by decide +kernel
theorem md_X3_sumOver : yX3_sumOver.cls ≠ "java/lang/invoke/MethodHandle" ∧ yX3_sumOver.cls ≠ "java/lang/invoke/VarHandle" ∧ (parseMethodDescriptor yX3_sumOver.desc).map (fun d => d.parameters.length) = some 2 := by decide +kernel
theorem md_X3_transfer : yX3_transfer.cls ≠ "java/lang/invoke/MethodHandle" ∧ yX3_transfer.cls ≠ "java/lang/invoke/VarHandle" ∧ (parseMethodDescriptor yX3_transfer.desc).map (fun d => d.parameters.length) = some 2 := by decide +kernel
theorem md_X3_transfers : yX3_transfers.cls ≠ "java/lang/invoke/MethodHandle" ∧ yX3_transfers.cls ≠ "java/lang/invoke/VarHandle" ∧ (parseMethodDescriptor yX3_transfers.desc).map (fun d => d.parameters.length) = some 0 := by decide +kernel
theorem md_X3_unitBears : yX3_unitBears.cls ≠ "java/lang/invoke/MethodHandle" ∧ yX3_unitBears.cls ≠ "java/lang/invoke/VarHandle" ∧ (parseMethodDescriptor yX3_unitBears.desc).map (fun d => d.parameters.length) = some 2 := by decide +kernel
theorem md_X3_unitDue : yX3_unitDue.cls ≠ "java/lang/invoke/MethodHandle" ∧ yX3_unitDue.cls ≠ "java/lang/invoke/VarHandle" ∧ (parseMethodDescriptor yX3_unitDue.desc).map (fun d => d.parameters.length) = some 2 := by decide +kernel
theorem md_X3_unitHeads : yX3_unitHeads.cls ≠ "java/lang/invoke/MethodHandle" ∧ yX3_unitHeads.cls ≠ "java/lang/invoke/VarHandle" ∧ (parseMethodDescriptor yX3_unitHeads.desc).map (fun d => d.parameters.length) = some 0 := by decide +kernel
theorem md_X3_weight : yX3_weight.cls ≠ "java/lang/invoke/MethodHandle" ∧ yX3_weight.cls ≠ "java/lang/invoke/VarHandle" ∧ (parseMethodDescriptor yX3_weight.desc).map (fun d => d.parameters.length) = some 2 := by decide +kernel
theorem md_X3_wrong : yX3_wrong.cls ≠ "java/lang/invoke/MethodHandle" ∧ yX3_wrong.cls ≠ "java/lang/invoke/VarHandle" ∧ (parseMethodDescriptor yX3_wrong.desc).map (fun d => d.parameters.length) = some 1 := by decide +kernel
theorem md_X4_adds : yX4_adds.cls ≠ "java/lang/invoke/MethodHandle" ∧ yX4_adds.cls ≠ "java/lang/invoke/VarHandle" ∧ (parseMethodDescriptor yX4_adds.desc).map (fun d => d.parameters.length) = some 5 := by decide +kernel
theorem md_X4_amount : yX4_amount.cls ≠ "java/lang/invoke/MethodHandle" ∧ yX4_amount.cls ≠ "java/lang/invoke/VarHandle" ∧ (parseMethodDescriptor yX4_amount.desc).map (fun d => d.parameters.length) = some 2 := by decide +kernel
theorem md_X4_bestManner : yX4_bestManner.cls ≠ "java/lang/invoke/MethodHandle" ∧ yX4_bestManner.cls ≠ "java/lang/invoke/VarHandle" ∧ (parseMethodDescriptor yX4_bestManner.desc).map (fun d => d.parameters.length) = some 0 := by decide +kernel
theorem md_X4_blame : yX4_blame.cls ≠ "java/lang/invoke/MethodHandle" ∧ yX4_blame.cls ≠ "java/lang/invoke/VarHandle" ∧ (parseMethodDescriptor yX4_blame.desc).map (fun d => d.parameters.length) = some 0 := by decide +kernel
theorem md_X4_broke : yX4_broke.cls ≠ "java/lang/invoke/MethodHandle" ∧ yX4_broke.cls ≠ "java/lang/invoke/VarHandle" ∧ (parseMethodDescriptor yX4_broke.desc).map (fun d => d.parameters.length) = some 2 := by decide +kernel
theorem md_X4_claimant : yX4_claimant.cls ≠ "java/lang/invoke/MethodHandle" ∧ yX4_claimant.cls ≠ "java/lang/invoke/VarHandle" ∧ (parseMethodDescriptor yX4_claimant.desc).map (fun d => d.parameters.length) = some 1 := by decide +kernel
theorem md_X4_clears : yX4_clears.cls ≠ "java/lang/invoke/MethodHandle" ∧ yX4_clears.cls ≠ "java/lang/invoke/VarHandle" ∧ (parseMethodDescriptor yX4_clears.desc).map (fun d => d.parameters.length) = some 1 := by decide +kernel
theorem md_X4_common : yX4_common.cls ≠ "java/lang/invoke/MethodHandle" ∧ yX4_common.cls ≠ "java/lang/invoke/VarHandle" ∧ (parseMethodDescriptor yX4_common.desc).map (fun d => d.parameters.length) = some 2 := by decide +kernel
theorem md_X4_credit : yX4_credit.cls ≠ "java/lang/invoke/MethodHandle" ∧ yX4_credit.cls ≠ "java/lang/invoke/VarHandle" ∧ (parseMethodDescriptor yX4_credit.desc).map (fun d => d.parameters.length) = some 2 := by decide +kernel
theorem md_X4_due : yX4_due.cls ≠ "java/lang/invoke/MethodHandle" ∧ yX4_due.cls ≠ "java/lang/invoke/VarHandle" ∧ (parseMethodDescriptor yX4_due.desc).map (fun d => d.parameters.length) = some 2 := by decide +kernel
theorem md_X4_fair : yX4_fair.cls ≠ "java/lang/invoke/MethodHandle" ∧ yX4_fair.cls ≠ "java/lang/invoke/VarHandle" ∧ (parseMethodDescriptor yX4_fair.desc).map (fun d => d.parameters.length) = some 2 := by decide +kernel
theorem md_X4_findCredit : yX4_findCredit.cls ≠ "java/lang/invoke/MethodHandle" ∧ yX4_findCredit.cls ≠ "java/lang/invoke/VarHandle" ∧ (parseMethodDescriptor yX4_findCredit.desc).map (fun d => d.parameters.length) = some 1 := by decide +kernel
theorem md_X4_findDue : yX4_findDue.cls ≠ "java/lang/invoke/MethodHandle" ∧ yX4_findDue.cls ≠ "java/lang/invoke/VarHandle" ∧ (parseMethodDescriptor yX4_findDue.desc).map (fun d => d.parameters.length) = some 1 := by decide +kernel
theorem md_X4_findDues : yX4_findDues.cls ≠ "java/lang/invoke/MethodHandle" ∧ yX4_findDues.cls ≠ "java/lang/invoke/VarHandle" ∧ (parseMethodDescriptor yX4_findDues.desc).map (fun d => d.parameters.length) = some 0 := by decide +kernel
theorem md_X4_findEntitled : yX4_findEntitled.cls ≠ "java/lang/invoke/MethodHandle" ∧ yX4_findEntitled.cls ≠ "java/lang/invoke/VarHandle" ∧ (parseMethodDescriptor yX4_findEntitled.desc).map (fun d => d.parameters.length) = some 0 := by decide +kernel
theorem md_X4_findFair : yX4_findFair.cls ≠ "java/lang/invoke/MethodHandle" ∧ yX4_findFair.cls ≠ "java/lang/invoke/VarHandle" ∧ (parseMethodDescriptor yX4_findFair.desc).map (fun d => d.parameters.length) = some 1 := by decide +kernel
theorem md_X4_findGets : yX4_findGets.cls ≠ "java/lang/invoke/MethodHandle" ∧ yX4_findGets.cls ≠ "java/lang/invoke/VarHandle" ∧ (parseMethodDescriptor yX4_findGets.desc).map (fun d => d.parameters.length) = some 0 := by decide +kernel
theorem md_X4_findGetsBy : yX4_findGetsBy.cls ≠ "java/lang/invoke/MethodHandle" ∧ yX4_findGetsBy.cls ≠ "java/lang/invoke/VarHandle" ∧ (parseMethodDescriptor yX4_findGetsBy.desc).map (fun d => d.parameters.length) = some 2 := by decide +kernel
theorem md_X4_findOver : yX4_findOver.cls ≠ "java/lang/invoke/MethodHandle" ∧ yX4_findOver.cls ≠ "java/lang/invoke/VarHandle" ∧ (parseMethodDescriptor yX4_findOver.desc).map (fun d => d.parameters.length) = some 1 := by decide +kernel
theorem md_X4_findRest : yX4_findRest.cls ≠ "java/lang/invoke/MethodHandle" ∧ yX4_findRest.cls ≠ "java/lang/invoke/VarHandle" ∧ (parseMethodDescriptor yX4_findRest.desc).map (fun d => d.parameters.length) = some 0 := by decide +kernel
theorem md_X4_findTransfers : yX4_findTransfers.cls ≠ "java/lang/invoke/MethodHandle" ∧ yX4_findTransfers.cls ≠ "java/lang/invoke/VarHandle" ∧ (parseMethodDescriptor yX4_findTransfers.desc).map (fun d => d.parameters.length) = some 0 := by decide +kernel
theorem md_X4_findUnit : yX4_findUnit.cls ≠ "java/lang/invoke/MethodHandle" ∧ yX4_findUnit.cls ≠ "java/lang/invoke/VarHandle" ∧ (parseMethodDescriptor yX4_findUnit.desc).map (fun d => d.parameters.length) = some 4 := by decide +kernel
theorem md_X4_firstWith : yX4_firstWith.cls ≠ "java/lang/invoke/MethodHandle" ∧ yX4_firstWith.cls ≠ "java/lang/invoke/VarHandle" ∧ (parseMethodDescriptor yX4_firstWith.desc).map (fun d => d.parameters.length) = some 1 := by decide +kernel
theorem md_X4_gets : yX4_gets.cls ≠ "java/lang/invoke/MethodHandle" ∧ yX4_gets.cls ≠ "java/lang/invoke/VarHandle" ∧ (parseMethodDescriptor yX4_gets.desc).map (fun d => d.parameters.length) = some 3 := by decide +kernel
theorem md_X4_given : yX4_given.cls ≠ "java/lang/invoke/MethodHandle" ∧ yX4_given.cls ≠ "java/lang/invoke/VarHandle" ∧ (parseMethodDescriptor yX4_given.desc).map (fun d => d.parameters.length) = some 2 := by decide +kernel
theorem md_X4_goesOver : yX4_goesOver.cls ≠ "java/lang/invoke/MethodHandle" ∧ yX4_goesOver.cls ≠ "java/lang/invoke/VarHandle" ∧ (parseMethodDescriptor yX4_goesOver.desc).map (fun d => d.parameters.length) = some 2 := by decide +kernel
theorem md_X4_init : yX4_init.cls ≠ "java/lang/invoke/MethodHandle" ∧ yX4_init.cls ≠ "java/lang/invoke/VarHandle" ∧ (parseMethodDescriptor yX4_init.desc).map (fun d => d.parameters.length) = some 0 := by decide +kernel
theorem md_X4_isThere : yX4_isThere.cls ≠ "java/lang/invoke/MethodHandle" ∧ yX4_isThere.cls ≠ "java/lang/invoke/VarHandle" ∧ (parseMethodDescriptor yX4_isThere.desc).map (fun d => d.parameters.length) = some 1 := by decide +kernel
theorem md_X4_isUnit : yX4_isUnit.cls ≠ "java/lang/invoke/MethodHandle" ∧ yX4_isUnit.cls ≠ "java/lang/invoke/VarHandle" ∧ (parseMethodDescriptor yX4_isUnit.desc).map (fun d => d.parameters.length) = some 1 := by decide +kernel
theorem md_X4_isUnitBroke : yX4_isUnitBroke.cls ≠ "java/lang/invoke/MethodHandle" ∧ yX4_isUnitBroke.cls ≠ "java/lang/invoke/VarHandle" ∧ (parseMethodDescriptor yX4_isUnitBroke.desc).map (fun d => d.parameters.length) = some 1 := by decide +kernel
theorem md_X4_isWhich : yX4_isWhich.cls ≠ "java/lang/invoke/MethodHandle" ∧ yX4_isWhich.cls ≠ "java/lang/invoke/VarHandle" ∧ (parseMethodDescriptor yX4_isWhich.desc).map (fun d => d.parameters.length) = some 1 := by decide +kernel
theorem md_X4_keeps : yX4_keeps.cls ≠ "java/lang/invoke/MethodHandle" ∧ yX4_keeps.cls ≠ "java/lang/invoke/VarHandle" ∧ (parseMethodDescriptor yX4_keeps.desc).map (fun d => d.parameters.length) = some 1 := by decide +kernel
theorem md_X4_leave : yX4_leave.cls ≠ "java/lang/invoke/MethodHandle" ∧ yX4_leave.cls ≠ "java/lang/invoke/VarHandle" ∧ (parseMethodDescriptor yX4_leave.desc).map (fun d => d.parameters.length) = some 1 := by decide +kernel
theorem md_X4_loss : yX4_loss.cls ≠ "java/lang/invoke/MethodHandle" ∧ yX4_loss.cls ≠ "java/lang/invoke/VarHandle" ∧ (parseMethodDescriptor yX4_loss.desc).map (fun d => d.parameters.length) = some 1 := by decide +kernel
theorem md_X4_makes : yX4_makes.cls ≠ "java/lang/invoke/MethodHandle" ∧ yX4_makes.cls ≠ "java/lang/invoke/VarHandle" ∧ (parseMethodDescriptor yX4_makes.desc).map (fun d => d.parameters.length) = some 2 := by decide +kernel
theorem md_X4_many : yX4_many.cls ≠ "java/lang/invoke/MethodHandle" ∧ yX4_many.cls ≠ "java/lang/invoke/VarHandle" ∧ (parseMethodDescriptor yX4_many.desc).map (fun d => d.parameters.length) = some 1 := by decide +kernel
theorem md_X4_manyIn : yX4_manyIn.cls ≠ "java/lang/invoke/MethodHandle" ∧ yX4_manyIn.cls ≠ "java/lang/invoke/VarHandle" ∧ (parseMethodDescriptor yX4_manyIn.desc).map (fun d => d.parameters.length) = some 0 := by decide +kernel
theorem md_X4_manyUnits : yX4_manyUnits.cls ≠ "java/lang/invoke/MethodHandle" ∧ yX4_manyUnits.cls ≠ "java/lang/invoke/VarHandle" ∧ (parseMethodDescriptor yX4_manyUnits.desc).map (fun d => d.parameters.length) = some 2 := by decide +kernel
theorem md_X4_misses : yX4_misses.cls ≠ "java/lang/invoke/MethodHandle" ∧ yX4_misses.cls ≠ "java/lang/invoke/VarHandle" ∧ (parseMethodDescriptor yX4_misses.desc).map (fun d => d.parameters.length) = some 2 := by decide +kernel
theorem md_X4_multiplies : yX4_multiplies.cls ≠ "java/lang/invoke/MethodHandle" ∧ yX4_multiplies.cls ≠ "java/lang/invoke/VarHandle" ∧ (parseMethodDescriptor yX4_multiplies.desc).map (fun d => d.parameters.length) = some 4 := by decide +kernel
theorem md_X4_ofWrong : yX4_ofWrong.cls ≠ "java/lang/invoke/MethodHandle" ∧ yX4_ofWrong.cls ≠ "java/lang/invoke/VarHandle" ∧ (parseMethodDescriptor yX4_ofWrong.desc).map (fun d => d.parameters.length) = some 2 := by decide +kernel
theorem md_X4_openWeight : yX4_openWeight.cls ≠ "java/lang/invoke/MethodHandle" ∧ yX4_openWeight.cls ≠ "java/lang/invoke/VarHandle" ∧ (parseMethodDescriptor yX4_openWeight.desc).map (fun d => d.parameters.length) = some 1 := by decide +kernel
theorem md_X4_over : yX4_over.cls ≠ "java/lang/invoke/MethodHandle" ∧ yX4_over.cls ≠ "java/lang/invoke/VarHandle" ∧ (parseMethodDescriptor yX4_over.desc).map (fun d => d.parameters.length) = some 2 := by decide +kernel
theorem md_X4_owe : yX4_owe.cls ≠ "java/lang/invoke/MethodHandle" ∧ yX4_owe.cls ≠ "java/lang/invoke/VarHandle" ∧ (parseMethodDescriptor yX4_owe.desc).map (fun d => d.parameters.length) = some 0 := by decide +kernel
theorem md_X4_paidAll : yX4_paidAll.cls ≠ "java/lang/invoke/MethodHandle" ∧ yX4_paidAll.cls ≠ "java/lang/invoke/VarHandle" ∧ (parseMethodDescriptor yX4_paidAll.desc).map (fun d => d.parameters.length) = some 0 := by decide +kernel
theorem md_X4_pair : yX4_pair.cls ≠ "java/lang/invoke/MethodHandle" ∧ yX4_pair.cls ≠ "java/lang/invoke/VarHandle" ∧ (parseMethodDescriptor yX4_pair.desc).map (fun d => d.parameters.length) = some 2 := by decide +kernel
theorem md_X4_part : yX4_part.cls ≠ "java/lang/invoke/MethodHandle" ∧ yX4_part.cls ≠ "java/lang/invoke/VarHandle" ∧ (parseMethodDescriptor yX4_part.desc).map (fun d => d.parameters.length) = some 1 := by decide +kernel
theorem md_X4_pay : yX4_pay.cls ≠ "java/lang/invoke/MethodHandle" ∧ yX4_pay.cls ≠ "java/lang/invoke/VarHandle" ∧ (parseMethodDescriptor yX4_pay.desc).map (fun d => d.parameters.length) = some 2 := by decide +kernel
theorem md_X4_refund : yX4_refund.cls ≠ "java/lang/invoke/MethodHandle" ∧ yX4_refund.cls ≠ "java/lang/invoke/VarHandle" ∧ (parseMethodDescriptor yX4_refund.desc).map (fun d => d.parameters.length) = some 1 := by decide +kernel
theorem md_X4_reopen : yX4_reopen.cls ≠ "java/lang/invoke/MethodHandle" ∧ yX4_reopen.cls ≠ "java/lang/invoke/VarHandle" ∧ (parseMethodDescriptor yX4_reopen.desc).map (fun d => d.parameters.length) = some 1 := by decide +kernel
theorem md_X4_saves : yX4_saves.cls ≠ "java/lang/invoke/MethodHandle" ∧ yX4_saves.cls ≠ "java/lang/invoke/VarHandle" ∧ (parseMethodDescriptor yX4_saves.desc).map (fun d => d.parameters.length) = some 3 := by decide +kernel
theorem md_X4_setting : yX4_setting.cls ≠ "java/lang/invoke/MethodHandle" ∧ yX4_setting.cls ≠ "java/lang/invoke/VarHandle" ∧ (parseMethodDescriptor yX4_setting.desc).map (fun d => d.parameters.length) = some 2 := by decide +kernel
theorem md_X4_settle : yX4_settle.cls ≠ "java/lang/invoke/MethodHandle" ∧ yX4_settle.cls ≠ "java/lang/invoke/VarHandle" ∧ (parseMethodDescriptor yX4_settle.desc).map (fun d => d.parameters.length) = some 2 := by decide +kernel
theorem md_X4_settles : yX4_settles.cls ≠ "java/lang/invoke/MethodHandle" ∧ yX4_settles.cls ≠ "java/lang/invoke/VarHandle" ∧ (parseMethodDescriptor yX4_settles.desc).map (fun d => d.parameters.length) = some 2 := by decide +kernel
theorem md_X4_told : yX4_told.cls ≠ "java/lang/invoke/MethodHandle" ∧ yX4_told.cls ≠ "java/lang/invoke/VarHandle" ∧ (parseMethodDescriptor yX4_told.desc).map (fun d => d.parameters.length) = some 1 := by decide +kernel
theorem md_X4_transfer : yX4_transfer.cls ≠ "java/lang/invoke/MethodHandle" ∧ yX4_transfer.cls ≠ "java/lang/invoke/VarHandle" ∧ (parseMethodDescriptor yX4_transfer.desc).map (fun d => d.parameters.length) = some 2 := by decide +kernel
theorem md_X4_transfers : yX4_transfers.cls ≠ "java/lang/invoke/MethodHandle" ∧ yX4_transfers.cls ≠ "java/lang/invoke/VarHandle" ∧ (parseMethodDescriptor yX4_transfers.desc).map (fun d => d.parameters.length) = some 0 := by decide +kernel
theorem md_X4_unitDue : yX4_unitDue.cls ≠ "java/lang/invoke/MethodHandle" ∧ yX4_unitDue.cls ≠ "java/lang/invoke/VarHandle" ∧ (parseMethodDescriptor yX4_unitDue.desc).map (fun d => d.parameters.length) = some 2 := by decide +kernel
theorem md_X4_unitOf : yX4_unitOf.cls ≠ "java/lang/invoke/MethodHandle" ∧ yX4_unitOf.cls ≠ "java/lang/invoke/VarHandle" ∧ (parseMethodDescriptor yX4_unitOf.desc).map (fun d => d.parameters.length) = some 1 := by decide +kernel
theorem md_X4_unitWeight : yX4_unitWeight.cls ≠ "java/lang/invoke/MethodHandle" ∧ yX4_unitWeight.cls ≠ "java/lang/invoke/VarHandle" ∧ (parseMethodDescriptor yX4_unitWeight.desc).map (fun d => d.parameters.length) = some 1 := by decide +kernel
theorem md_X4_weight : yX4_weight.cls ≠ "java/lang/invoke/MethodHandle" ∧ yX4_weight.cls ≠ "java/lang/invoke/VarHandle" ∧ (parseMethodDescriptor yX4_weight.desc).map (fun d => d.parameters.length) = some 2 := by decide +kernel
theorem md_X4_within : yX4_within.cls ≠ "java/lang/invoke/MethodHandle" ∧ yX4_within.cls ≠ "java/lang/invoke/VarHandle" ∧ (parseMethodDescriptor yX4_within.desc).map (fun d => d.parameters.length) = some 3 := by decide +kernel
theorem md_X4_wrong : yX4_wrong.cls ≠ "java/lang/invoke/MethodHandle" ∧ yX4_wrong.cls ≠ "java/lang/invoke/VarHandle" ∧ (parseMethodDescriptor yX4_wrong.desc).map (fun d => d.parameters.length) = some 1 := by decide +kernel
