variable {l : Launch} {dC : Nat → ClassId} {dI : Nat → Nat → Nat} {cI cJ cZ : ClassId}
variable {q : Nat → Nat} {ln cw ic bs ss : Int32} {se we un sf pa : Nat → Int32}
variable {ct : Int32} {ov gf : Nat → Int64} {gi ta : Nat → Int32}
variable {k : Nat → Nat} {r : Rat} {up lo : Int64} {cn tm : Int32} {isI br ma : Nat → Int32} {aU aL uU uL oU oL gU gL : Nat → Int64}

section LW
variable {p : Program} {l : Launch} {e : Env} {R : Room} {s : State} {m : MethodId} {args : Array Value} {below : List Frame} {meth : Method} {c : Code} {H : Heap} {locs : List Loc} {cells slots : Nat} {Q : State → Prop} {pc : Nat} {ls : Array Slot} {rest : List Value}
theorem loopW (I : Nat → Array Slot → Prop) {n0 : Nat} (hI : I n0 ls) (hs : ∀ n ls2, I n ls2 → (∀ n2 ls3, n2 < n → I n2 ls3 → W p l e R s m args below meth c H locs cells slots Q (F0 m pc ls3 rest)) → W p l e R s m args below meth c H locs cells slots Q (F0 m pc ls2 rest)) : W p l e R s m args below meth c H locs cells slots Q (F0 m pc ls rest) := by
  have h : ∀ n ls2, I n ls2 → W p l e R s m args below meth c H locs cells slots Q (F0 m pc ls2 rest) := by
    intro n
    induction n using Nat.strongRecOn with
    | ind n ih => intro ls2 h3; exact hs n ls2 h3 (fun n2 ls3 h4 h5 => ih n2 h4 ls3 h5)
  exact h _ ls hI
end LW
abbrev mQ (cI cZ : ClassId) (k : Nat → Nat) (r : Rat) (ln cn tm : Int32) (se isI we br ma sf pa : Nat → Int32) : va_W := mW cI cZ k (iL r.num) (iL (r.den : Int)) ln cn tm se isI we br ma sf pa
/-- mates are two and two -/
def mok (ma : Nat → Int32) : Prop := ∀ w, w < 6 → ma w = -9 ∨ ∃ i, i < 6 ∧ i ≠ w ∧ ma w = nI i ∧ ma i = nI w
def m_mt (ma : Nat → Int32) (w : Nat) : Nat := (ma w).toNatClampNeg
theorem m_idx {ma : Nat → Int32} (h : mok ma) {w : Nat} (hw : w < 6) (hn : ¬ ma w = -9) : ma w = nI (m_mt ma w) ∧ m_mt ma w < 6 := by
  rcases h w hw with h1 | ⟨i, h1, -, h2, -⟩
  · exact absurd h1 hn
  · unfold m_mt
    rw [h2, nI_clamp (by omega)]
    exact ⟨rfl, h1⟩
abbrev m_isU (isI ma : Nat → Int32) (w : Nat) : Prop := ¬ isI w = 0 ∧ (ma w = -9 ∨ nI w < ma w)
abbrev m_ubr (br ma : Nat → Int32) (w : Nat) : Prop := ¬ br w = 0 ∧ (ma w = -9 ∨ ¬ br (m_mt ma w) = 0)
def m_uw (we ma : Nat → Int32) (w : Nat) : Int32 := we w + (if ma w = -9 then 0 else we (m_mt ma w))
def m_un (ma : Nat → Int32) (w : Nat) : Nat := if ma w = -9 then w else if ma w < nI w then m_mt ma w else w
def m_inN (isI : Nat → Int32) : Nat → Int32
  | 0 => 0
  | i + 1 => m_inN isI i + (if isI i = 0 then 0 else 1)
def m_blN (cn : Int32) (isI we : Nat → Int32) : Nat → Int32
  | 0 => cn
  | i + 1 => m_blN cn isI we i + (if isI i = 0 then 0 else we i)
def m_opN (z : Int32) (isI we br ma sf : Nat → Int32) : Nat → Int32
  | 0 => 0
  | i + 1 => m_opN z isI we br ma sf i + (if m_isU isI ma i ∧ sf i = -9 ∧ (¬ z = 0 ∨ ¬ m_ubr br ma i) then m_uw we ma i else 0)
def m_paN (pa : Nat → Int32) : Nat → Int64
  | 0 => 0
  | i + 1 => m_paN pa i + (pa i).toInt64
def m_muN (z1 z2 : Int32) (isI br ma sf : Nat → Int32) : Nat → Int32
  | 0 => 0
  | i + 1 => m_muN z1 z2 isI br ma sf i + (if m_isU isI ma i ∧ (z1 = 0 ∨ ¬ sf i = -9) ∧ (z2 = 0 ∨ (sf i = -9 ∧ m_ubr br ma i)) then 1 else 0)
theorem m_muN_s (z1 z2 : Int32) (isI br ma sf : Nat → Int32) (i : Nat) : m_muN z1 z2 isI br ma sf (i + 1) = m_muN z1 z2 isI br ma sf i + (if m_isU isI ma i ∧ (z1 = 0 ∨ ¬ sf i = -9) ∧ (z2 = 0 ∨ (sf i = -9 ∧ m_ubr br ma i)) then 1 else 0) := rfl
theorem m_opN_s (z : Int32) (isI we br ma sf : Nat → Int32) (i : Nat) : m_opN z isI we br ma sf (i + 1) = m_opN z isI we br ma sf i + (if m_isU isI ma i ∧ sf i = -9 ∧ (¬ z = 0 ∨ ¬ m_ubr br ma i) then m_uw we ma i else 0) := rfl
theorem st_pos {a x y : Int32} {c : Prop} [Decidable c] (h : c) : a + x = a + (if c then x else y) := by rw [if_pos h]
theorem st_neg {a x y : Int32} {c : Prop} [Decidable c] (h : ¬ c) : a + y = a + (if c then x else y) := by rw [if_neg h]
theorem th_not {v : Int32} (h : ¬ (0 ≤ v ∧ v ≤ 5)) {P : Nat → Prop} : ¬ ∃ j, j < 6 ∧ v = nI j ∧ P j := by
  rintro ⟨j, hj, rfl, -⟩
  exact h ⟨nI_pos' (by omega), nI_le (b := 5) (by omega) (by decide)⟩
theorem th_of {v : Int32} (h : 0 ≤ v ∧ v ≤ 5) : ∃ j : Nat, j < 6 ∧ v = nI j := by
  obtain ⟨j, hj, rfl⟩ := nI_of2 (M := 5) (n := 5) rfl (Int32.not_lt.mpr h.1) h.2
  exact ⟨j, by omega, rfl⟩
set_option maxHeartbeats 4000000 in
set_option maxRecDepth 100000 in
theorem c_X4_within (v a b : Int32) : Met l yX4_within (wT yX4_within cX4_within 3 (some .boolean)) ({ frames := 0, cells := 0, slots := 0, locals := 0 }) (pR (dC, dI) (ty3 cI cJ cZ) ([] : va_W) [.int v, .int a, .int b]) (vp_Si (fun r => bp r (a ≤ v ∧ v ≤ b))) 0 0 (fun _ => False) := by
  refine Met.ofW (cc := cX4_within) (maxL := 3) (ret := (some .boolean)) (by decide) rfl ?_
  intro p e s m args below meth c s₁ B hml hv
  obtain ⟨rfl, hP, hK⟩ := hv
  have hx := B.exec
  have hb := B.bytes
  have hr := B.returns
  have hts := atoms_spec (ws := wT yX4_within cX4_within 3 (some .boolean)) B.pre
  have hT := wT_T hts
  have hown : s.vm.findClass RX4 = some m.cls := findClass_of_methodNamed B.named
  have hlocks := B.notSynchronized
  have hl := lv_entry ([.int v, .int a, .int b]) (n := 3) (Nat.le_of_ble_eq_true rfl)
  rw [lg_entry_eq]
  generalize (lg_sl ([.int v, .int a, .int b]) ++ List.replicate (3 - (lg_sl ([.int v, .int a, .int b])).length) Slot.unset).toArray = ls at hl ⊢
  have hl : lv_has ls 3 [(0, .int v), (1, .int a), (2, .int b)] := hl
  refine lv_iload_n hx hb dX4_within_0 rfl (lv_at hl 0 rfl) ?_
  refine lv_iload_n hx hb dX4_within_1 rfl (lv_at hl 1 rfl) ?_
  refine lv_icmp_lt (tgt := 14) hx hb dX4_within_2 (by decide) (fun c_2 => ?_) (fun c_2 => ?_)
  · refine lv_iconst (v := 0) hx hb dX4_within_14 (by decide) ?_
    exact retR_z hx hb hr hlocks (by first | exact Or.inl rfl | exact Or.inr rfl | assumption) (by first | exact Or.inr ⟨rfl, fun h => absurd h.1 (Int32.not_le.mpr c_2)⟩ | exact Or.inr ⟨rfl, fun h => absurd h.2 (Int32.not_le.mpr c_7)⟩ | exact Or.inl ⟨rfl, Int32.not_lt.mp c_2, Int32.not_lt.mp c_7⟩) dX4_within_15
  · refine lv_iload_n hx hb dX4_within_5 rfl (lv_at hl 0 rfl) ?_
    refine lv_iload_n hx hb dX4_within_6 rfl (lv_at hl 2 rfl) ?_
    refine lv_icmp_gt (tgt := 14) hx hb dX4_within_7 (by decide) (fun c_7 => ?_) (fun c_7 => ?_)
    · refine lv_iconst (v := 0) hx hb dX4_within_14 (by decide) ?_
      exact retR_z hx hb hr hlocks (by first | exact Or.inl rfl | exact Or.inr rfl | assumption) (by first | exact Or.inr ⟨rfl, fun h => absurd h.1 (Int32.not_le.mpr c_2)⟩ | exact Or.inr ⟨rfl, fun h => absurd h.2 (Int32.not_le.mpr c_7)⟩ | exact Or.inl ⟨rfl, Int32.not_lt.mp c_2, Int32.not_lt.mp c_7⟩) dX4_within_15
    · refine lv_iconst (v := 1) hx hb dX4_within_10 (by decide) ?_
      refine lv_goto (tgt := 15) hx hb dX4_within_11 (by decide) ?_
      exact retR_z hx hb hr hlocks (by first | exact Or.inl rfl | exact Or.inr rfl | assumption) (by first | exact Or.inr ⟨rfl, fun h => absurd h.1 (Int32.not_le.mpr c_2)⟩ | exact Or.inr ⟨rfl, fun h => absurd h.2 (Int32.not_le.mpr c_7)⟩ | exact Or.inl ⟨rfl, Int32.not_lt.mp c_2, Int32.not_lt.mp c_7⟩) dX4_within_15
set_option maxHeartbeats 4000000 in
set_option maxRecDepth 100000 in
theorem c_X4_isWhich (v : Int32) : Met l yX4_isWhich (wT yX4_isWhich cX4_isWhich 1 (some .boolean)) ({ frames := 1, cells := 0, slots := 0, locals := 22 }) (pR (dC, dI) (ty3 cI cJ cZ) ([] : va_W) [.int v]) (vp_Si (fun r => bp r (0 ≤ v ∧ v ≤ 1))) 0 0 (fun _ => False) := by
  refine Met.ofW (cc := cX4_isWhich) (maxL := 1) (ret := (some .boolean)) (by decide) rfl ?_
  intro p e s m args below meth c s₁ B hml hv
  obtain ⟨rfl, hP, hK⟩ := hv
  have hx := B.exec
  have hb := B.bytes
  have hr := B.returns
  have hts := atoms_spec (ws := wT yX4_isWhich cX4_isWhich 1 (some .boolean)) B.pre
  have hT := wT_T hts
  have hown : s.vm.findClass RX4 = some m.cls := findClass_of_methodNamed B.named
  have hlocks := B.notSynchronized
  have hl := lv_entry ([.int v]) (n := 1) (Nat.le_of_ble_eq_true rfl)
  rw [lg_entry_eq]
  generalize (lg_sl ([.int v]) ++ List.replicate (1 - (lg_sl ([.int v])).length) Slot.unset).toArray = ls at hl ⊢
  have hl : lv_has ls 1 [(0, .int v)] := hl
  refine lv_iload_n hx hb dX4_isWhich_0 rfl (lv_at hl 0 rfl) ?_
  refine lv_iconst (v := 0) hx hb dX4_isWhich_1 (by decide) ?_
  refine lv_iconst (v := 1) hx hb dX4_isWhich_2 (by decide) ?_
  refine vp_callSi (rRS (As := [.int v, .int 0, .int 1]) (rest := []) ⟨hx, hb, hml, hown, hT⟩ (c_X4_within (l := l) v 0 1) (cwTS 3 hT kc_X4_within km_X4_82 kt_X4_within kn_X4 rfl rfl md_X4_within ⟨Nat.le_of_ble_eq_true rfl, Nat.le_of_ble_eq_true rfl⟩) nilP hK  rfl hl.1 rfl (Nat.le_of_ble_eq_true rfl) dX4_isWhich_3 ⟨Nat.le_of_ble_eq_true rfl, Nat.le_of_ble_eq_true rfl⟩) (fun r_3 hw_3 => ?_)
  rcases hw_3 with ⟨rfl, hw_3⟩ | ⟨rfl, hw_3⟩
  · exact retR_z hx hb hr hlocks (by first | exact Or.inl rfl | exact Or.inr rfl | assumption) (by first | exact Or.inl ⟨rfl, hw_3⟩ | exact Or.inr ⟨rfl, hw_3⟩) dX4_isWhich_6
  · exact retR_z hx hb hr hlocks (by first | exact Or.inl rfl | exact Or.inr rfl | assumption) (by first | exact Or.inl ⟨rfl, hw_3⟩ | exact Or.inr ⟨rfl, hw_3⟩) dX4_isWhich_6
set_option maxHeartbeats 4000000 in
set_option maxRecDepth 100000 in
theorem c_X4_common (a b : Int) (ha : rng a) (hbb : rng b) : Met l yX4_common (wT yX4_common cX4_common 10 (some .long)) ({ frames := 0, cells := 0, slots := 0, locals := 0 }) (pR (dC, dI) (ty3 cI cJ cZ) ([] : va_W) [.long (iL a), .long (iL b)]) (vp_Sl (fun r9 => r9 = iL ((Nat.gcd a.natAbs b.natAbs : Nat) : Int))) 0 0 (fun _ => False) := by
  refine Met.ofW (cc := cX4_common) (maxL := 10) (ret := (some .long)) (by decide) rfl ?_
  intro p e s m args below meth c s₁ B hml hv
  obtain ⟨rfl, hP, hK⟩ := hv
  have hx := B.exec
  have hb := B.bytes
  have hr := B.returns
  have hts := atoms_spec (ws := wT yX4_common cX4_common 10 (some .long)) B.pre
  have hT := wT_T hts
  have hown : s.vm.findClass RX4 = some m.cls := findClass_of_methodNamed B.named
  have hlocks := B.notSynchronized
  have hl := lv_entry ([.long (iL a), .long (iL b)]) (n := 10) (Nat.le_of_ble_eq_true rfl)
  rw [lg_entry_eq]
  generalize (lg_sl ([.long (iL a), .long (iL b)]) ++ List.replicate (10 - (lg_sl ([.long (iL a), .long (iL b)])).length) Slot.unset).toArray = ls at hl ⊢
  have hl : lv_has ls 10 [(0, .long (iL a)), (2, .long (iL b))] := hl
  refine lv_lload_n hx hb dX4_common_0 rfl (lv_at hl 0 rfl) ?_
  refine lv_lconst (v := iL 0) hx hb dX4_common_1 rfl ?_
  refine lc_ge (tgt := 11) hx hb dX4_common_2 dX4_common_3 (by decide) (fun c_2 => ?_) (fun c_2 => ?_)
  · have ea : a = (a.natAbs : Int) := by have := (iL_le rng_0 ha).mp c_2; omega
    refine lv_lload_n hx hb dX4_common_11 rfl (lv_at hl 0 rfl) ?_
    refine topl_eq (y := (iL (a.natAbs : Int))) (by rw [← ea]) ?_
    refine lv_lstore (lv' := [(4, .long (iL (a.natAbs : Int))), (0, .long (iL a)), (2, .long (iL b))]) hx hb dX4_common_12 hl (by decide) rfl (fun ls hl => ?_)
    refine lv_lload_n hx hb dX4_common_14 rfl (lv_at hl 2 rfl) ?_
    refine lv_lconst (v := iL 0) hx hb dX4_common_15 rfl ?_
    refine lc_ge (tgt := 25) hx hb dX4_common_16 dX4_common_17 (by decide) (fun c_16 => ?_) (fun c_16 => ?_)
    · have eb : b = (b.natAbs : Int) := by have := (iL_le rng_0 hbb).mp c_16; omega
      refine lv_lload_n hx hb dX4_common_25 rfl (lv_at hl 2 rfl) ?_
      refine topl_eq (y := (iL (b.natAbs : Int))) (by rw [← eb]) ?_
      refine lv_lstore (lv' := [(6, .long (iL (b.natAbs : Int))), (4, .long (iL (a.natAbs : Int))), (0, .long (iL a)), (2, .long (iL b))]) hx hb dX4_common_26 hl (by decide) rfl (fun ls hl => ?_)
      refine loopW (fun nn ls => ∃ x y : Nat, nn = y ∧ (Nat.gcd x y = Nat.gcd a.natAbs b.natAbs ∧ rng x ∧ rng y) ∧ lv_has ls 10 [(6, .long (iL ((y : Nat) : Int))), (4, .long (iL ((x : Nat) : Int))), (0, .long (iL a)), (2, .long (iL b))]) (n0 := b.natAbs) ⟨a.natAbs, b.natAbs, rfl, ⟨rfl, by unfold rng at ha ⊢; omega, by unfold rng at hbb ⊢; omega⟩, lv_sub hl [0, 1, 2, 3] rfl⟩ (fun nn ls hI ih => ?_)
      obtain ⟨x, y, hn9, hf, hl⟩ := hI
      refine lv_lload hx hb dX4_common_28 (lv_at hl 0 rfl) ?_
      refine lv_lconst (v := iL 0) hx hb dX4_common_30 rfl ?_
      refine lc_le (tgt := 53) hx hb dX4_common_31 dX4_common_32 (by decide) (fun c_31 => ?_) (fun c_31 => ?_)
      · have hy : y = 0 := by have := (iL_le hf.2.2 rng_0).mp c_31; omega
        subst hy
        have hg : x = Nat.gcd a.natAbs b.natAbs := by rw [← hf.1, Nat.gcd_zero_right]
        refine lv_lload hx hb dX4_common_53 (lv_at hl 1 rfl) ?_
        exact retR_l hx hb hr hlocks (by rw [hg]) dX4_common_55
      · have hy0 : 0 < y := by have := mt (iL_le hf.2.2 rng_0).mpr c_31; omega
        refine lv_lload hx hb dX4_common_35 (lv_at hl 1 rfl) ?_
        refine lv_lload hx hb dX4_common_37 (lv_at hl 0 rfl) ?_
        refine li_rem hx hb (a := x) (b := y) hf.2.1 hf.2.2 (by omega) dX4_common_39 ?_
        refine lv_lstore (lv' := [(8, .long (iL ((x % y : Nat) : Int))), (6, .long (iL ((y : Nat) : Int))), (4, .long (iL ((x : Nat) : Int))), (0, .long (iL a)), (2, .long (iL b))]) hx hb dX4_common_40 hl (by decide) rfl (fun ls hl => ?_)
        refine lv_lload hx hb dX4_common_42 (lv_at hl 1 rfl) ?_
        refine lv_lstore (lv' := [(4, .long (iL ((y : Nat) : Int))), (8, .long (iL ((x % y : Nat) : Int))), (6, .long (iL ((y : Nat) : Int))), (0, .long (iL a)), (2, .long (iL b))]) hx hb dX4_common_44 hl (by decide) rfl (fun ls hl => ?_)
        refine lv_lload hx hb dX4_common_46 (lv_at hl 1 rfl) ?_
        refine lv_lstore (lv' := [(6, .long (iL ((x % y : Nat) : Int))), (4, .long (iL ((y : Nat) : Int))), (8, .long (iL ((x % y : Nat) : Int))), (0, .long (iL a)), (2, .long (iL b))]) hx hb dX4_common_48 hl (by decide) rfl (fun ls hl => ?_)
        refine lv_goto (tgt := 28) hx hb dX4_common_50 (by decide) ?_
        exact ih _ _ (by rw [hn9]; exact Nat.mod_lt _ hy0) ⟨y, x % y, rfl, ⟨by rw [← hf.1, Nat.gcd_comm y, ← Nat.gcd_rec y x, Nat.gcd_comm], hf.2.2, by have := Nat.mod_lt x hy0; have h9 := hf.2.2; unfold rng at h9 ⊢; omega⟩, lv_sub hl [0, 1, 3, 4] rfl⟩
    · have eb : -b = (b.natAbs : Int) := by have := mt (iL_le rng_0 hbb).mpr c_16; omega
      refine lv_lload_n hx hb dX4_common_20 rfl (lv_at hl 2 rfl) ?_
      refine li_neg hx hb (a := b) dX4_common_21 ?_
      refine topl_eq (y := (iL (b.natAbs : Int))) (by rw [eb]) ?_
      refine lv_goto (tgt := 26) hx hb dX4_common_22 (by decide) ?_
      refine lv_lstore (lv' := [(6, .long (iL (b.natAbs : Int))), (4, .long (iL (a.natAbs : Int))), (0, .long (iL a)), (2, .long (iL b))]) hx hb dX4_common_26 hl (by decide) rfl (fun ls hl => ?_)
      refine loopW (fun nn ls => ∃ x y : Nat, nn = y ∧ (Nat.gcd x y = Nat.gcd a.natAbs b.natAbs ∧ rng x ∧ rng y) ∧ lv_has ls 10 [(6, .long (iL ((y : Nat) : Int))), (4, .long (iL ((x : Nat) : Int))), (0, .long (iL a)), (2, .long (iL b))]) (n0 := b.natAbs) ⟨a.natAbs, b.natAbs, rfl, ⟨rfl, by unfold rng at ha ⊢; omega, by unfold rng at hbb ⊢; omega⟩, lv_sub hl [0, 1, 2, 3] rfl⟩ (fun nn ls hI ih => ?_)
      obtain ⟨x, y, hn9, hf, hl⟩ := hI
      refine lv_lload hx hb dX4_common_28 (lv_at hl 0 rfl) ?_
      refine lv_lconst (v := iL 0) hx hb dX4_common_30 rfl ?_
      refine lc_le (tgt := 53) hx hb dX4_common_31 dX4_common_32 (by decide) (fun c_31 => ?_) (fun c_31 => ?_)
      · have hy : y = 0 := by have := (iL_le hf.2.2 rng_0).mp c_31; omega
        subst hy
        have hg : x = Nat.gcd a.natAbs b.natAbs := by rw [← hf.1, Nat.gcd_zero_right]
        refine lv_lload hx hb dX4_common_53 (lv_at hl 1 rfl) ?_
        exact retR_l hx hb hr hlocks (by rw [hg]) dX4_common_55
      · have hy0 : 0 < y := by have := mt (iL_le hf.2.2 rng_0).mpr c_31; omega
        refine lv_lload hx hb dX4_common_35 (lv_at hl 1 rfl) ?_
        refine lv_lload hx hb dX4_common_37 (lv_at hl 0 rfl) ?_
        refine li_rem hx hb (a := x) (b := y) hf.2.1 hf.2.2 (by omega) dX4_common_39 ?_
        refine lv_lstore (lv' := [(8, .long (iL ((x % y : Nat) : Int))), (6, .long (iL ((y : Nat) : Int))), (4, .long (iL ((x : Nat) : Int))), (0, .long (iL a)), (2, .long (iL b))]) hx hb dX4_common_40 hl (by decide) rfl (fun ls hl => ?_)
        refine lv_lload hx hb dX4_common_42 (lv_at hl 1 rfl) ?_
        refine lv_lstore (lv' := [(4, .long (iL ((y : Nat) : Int))), (8, .long (iL ((x % y : Nat) : Int))), (6, .long (iL ((y : Nat) : Int))), (0, .long (iL a)), (2, .long (iL b))]) hx hb dX4_common_44 hl (by decide) rfl (fun ls hl => ?_)
        refine lv_lload hx hb dX4_common_46 (lv_at hl 1 rfl) ?_
        refine lv_lstore (lv' := [(6, .long (iL ((x % y : Nat) : Int))), (4, .long (iL ((y : Nat) : Int))), (8, .long (iL ((x % y : Nat) : Int))), (0, .long (iL a)), (2, .long (iL b))]) hx hb dX4_common_48 hl (by decide) rfl (fun ls hl => ?_)
        refine lv_goto (tgt := 28) hx hb dX4_common_50 (by decide) ?_
        exact ih _ _ (by rw [hn9]; exact Nat.mod_lt _ hy0) ⟨y, x % y, rfl, ⟨by rw [← hf.1, Nat.gcd_comm y, ← Nat.gcd_rec y x, Nat.gcd_comm], hf.2.2, by have := Nat.mod_lt x hy0; have h9 := hf.2.2; unfold rng at h9 ⊢; omega⟩, lv_sub hl [0, 1, 3, 4] rfl⟩
  · have ea : -a = (a.natAbs : Int) := by have := mt (iL_le rng_0 ha).mpr c_2; omega
    refine lv_lload_n hx hb dX4_common_6 rfl (lv_at hl 0 rfl) ?_
    refine li_neg hx hb (a := a) dX4_common_7 ?_
    refine topl_eq (y := (iL (a.natAbs : Int))) (by rw [ea]) ?_
    refine lv_goto (tgt := 12) hx hb dX4_common_8 (by decide) ?_
    refine lv_lstore (lv' := [(4, .long (iL (a.natAbs : Int))), (0, .long (iL a)), (2, .long (iL b))]) hx hb dX4_common_12 hl (by decide) rfl (fun ls hl => ?_)
    refine lv_lload_n hx hb dX4_common_14 rfl (lv_at hl 2 rfl) ?_
    refine lv_lconst (v := iL 0) hx hb dX4_common_15 rfl ?_
    refine lc_ge (tgt := 25) hx hb dX4_common_16 dX4_common_17 (by decide) (fun c_16 => ?_) (fun c_16 => ?_)
    · have eb : b = (b.natAbs : Int) := by have := (iL_le rng_0 hbb).mp c_16; omega
      refine lv_lload_n hx hb dX4_common_25 rfl (lv_at hl 2 rfl) ?_
      refine topl_eq (y := (iL (b.natAbs : Int))) (by rw [← eb]) ?_
      refine lv_lstore (lv' := [(6, .long (iL (b.natAbs : Int))), (4, .long (iL (a.natAbs : Int))), (0, .long (iL a)), (2, .long (iL b))]) hx hb dX4_common_26 hl (by decide) rfl (fun ls hl => ?_)
      refine loopW (fun nn ls => ∃ x y : Nat, nn = y ∧ (Nat.gcd x y = Nat.gcd a.natAbs b.natAbs ∧ rng x ∧ rng y) ∧ lv_has ls 10 [(6, .long (iL ((y : Nat) : Int))), (4, .long (iL ((x : Nat) : Int))), (0, .long (iL a)), (2, .long (iL b))]) (n0 := b.natAbs) ⟨a.natAbs, b.natAbs, rfl, ⟨rfl, by unfold rng at ha ⊢; omega, by unfold rng at hbb ⊢; omega⟩, lv_sub hl [0, 1, 2, 3] rfl⟩ (fun nn ls hI ih => ?_)
      obtain ⟨x, y, hn9, hf, hl⟩ := hI
      refine lv_lload hx hb dX4_common_28 (lv_at hl 0 rfl) ?_
      refine lv_lconst (v := iL 0) hx hb dX4_common_30 rfl ?_
      refine lc_le (tgt := 53) hx hb dX4_common_31 dX4_common_32 (by decide) (fun c_31 => ?_) (fun c_31 => ?_)
      · have hy : y = 0 := by have := (iL_le hf.2.2 rng_0).mp c_31; omega
        subst hy
        have hg : x = Nat.gcd a.natAbs b.natAbs := by rw [← hf.1, Nat.gcd_zero_right]
        refine lv_lload hx hb dX4_common_53 (lv_at hl 1 rfl) ?_
        exact retR_l hx hb hr hlocks (by rw [hg]) dX4_common_55
      · have hy0 : 0 < y := by have := mt (iL_le hf.2.2 rng_0).mpr c_31; omega
        refine lv_lload hx hb dX4_common_35 (lv_at hl 1 rfl) ?_
        refine lv_lload hx hb dX4_common_37 (lv_at hl 0 rfl) ?_
        refine li_rem hx hb (a := x) (b := y) hf.2.1 hf.2.2 (by omega) dX4_common_39 ?_
        refine lv_lstore (lv' := [(8, .long (iL ((x % y : Nat) : Int))), (6, .long (iL ((y : Nat) : Int))), (4, .long (iL ((x : Nat) : Int))), (0, .long (iL a)), (2, .long (iL b))]) hx hb dX4_common_40 hl (by decide) rfl (fun ls hl => ?_)
        refine lv_lload hx hb dX4_common_42 (lv_at hl 1 rfl) ?_
        refine lv_lstore (lv' := [(4, .long (iL ((y : Nat) : Int))), (8, .long (iL ((x % y : Nat) : Int))), (6, .long (iL ((y : Nat) : Int))), (0, .long (iL a)), (2, .long (iL b))]) hx hb dX4_common_44 hl (by decide) rfl (fun ls hl => ?_)
        refine lv_lload hx hb dX4_common_46 (lv_at hl 1 rfl) ?_
        refine lv_lstore (lv' := [(6, .long (iL ((x % y : Nat) : Int))), (4, .long (iL ((y : Nat) : Int))), (8, .long (iL ((x % y : Nat) : Int))), (0, .long (iL a)), (2, .long (iL b))]) hx hb dX4_common_48 hl (by decide) rfl (fun ls hl => ?_)
        refine lv_goto (tgt := 28) hx hb dX4_common_50 (by decide) ?_
        exact ih _ _ (by rw [hn9]; exact Nat.mod_lt _ hy0) ⟨y, x % y, rfl, ⟨by rw [← hf.1, Nat.gcd_comm y, ← Nat.gcd_rec y x, Nat.gcd_comm], hf.2.2, by have := Nat.mod_lt x hy0; have h9 := hf.2.2; unfold rng at h9 ⊢; omega⟩, lv_sub hl [0, 1, 3, 4] rfl⟩
    · have eb : -b = (b.natAbs : Int) := by have := mt (iL_le rng_0 hbb).mpr c_16; omega
      refine lv_lload_n hx hb dX4_common_20 rfl (lv_at hl 2 rfl) ?_
      refine li_neg hx hb (a := b) dX4_common_21 ?_
      refine topl_eq (y := (iL (b.natAbs : Int))) (by rw [eb]) ?_
      refine lv_goto (tgt := 26) hx hb dX4_common_22 (by decide) ?_
      refine lv_lstore (lv' := [(6, .long (iL (b.natAbs : Int))), (4, .long (iL (a.natAbs : Int))), (0, .long (iL a)), (2, .long (iL b))]) hx hb dX4_common_26 hl (by decide) rfl (fun ls hl => ?_)
      refine loopW (fun nn ls => ∃ x y : Nat, nn = y ∧ (Nat.gcd x y = Nat.gcd a.natAbs b.natAbs ∧ rng x ∧ rng y) ∧ lv_has ls 10 [(6, .long (iL ((y : Nat) : Int))), (4, .long (iL ((x : Nat) : Int))), (0, .long (iL a)), (2, .long (iL b))]) (n0 := b.natAbs) ⟨a.natAbs, b.natAbs, rfl, ⟨rfl, by unfold rng at ha ⊢; omega, by unfold rng at hbb ⊢; omega⟩, lv_sub hl [0, 1, 2, 3] rfl⟩ (fun nn ls hI ih => ?_)
      obtain ⟨x, y, hn9, hf, hl⟩ := hI
      refine lv_lload hx hb dX4_common_28 (lv_at hl 0 rfl) ?_
      refine lv_lconst (v := iL 0) hx hb dX4_common_30 rfl ?_
      refine lc_le (tgt := 53) hx hb dX4_common_31 dX4_common_32 (by decide) (fun c_31 => ?_) (fun c_31 => ?_)
      · have hy : y = 0 := by have := (iL_le hf.2.2 rng_0).mp c_31; omega
        subst hy
        have hg : x = Nat.gcd a.natAbs b.natAbs := by rw [← hf.1, Nat.gcd_zero_right]
        refine lv_lload hx hb dX4_common_53 (lv_at hl 1 rfl) ?_
        exact retR_l hx hb hr hlocks (by rw [hg]) dX4_common_55
      · have hy0 : 0 < y := by have := mt (iL_le hf.2.2 rng_0).mpr c_31; omega
        refine lv_lload hx hb dX4_common_35 (lv_at hl 1 rfl) ?_
        refine lv_lload hx hb dX4_common_37 (lv_at hl 0 rfl) ?_
        refine li_rem hx hb (a := x) (b := y) hf.2.1 hf.2.2 (by omega) dX4_common_39 ?_
        refine lv_lstore (lv' := [(8, .long (iL ((x % y : Nat) : Int))), (6, .long (iL ((y : Nat) : Int))), (4, .long (iL ((x : Nat) : Int))), (0, .long (iL a)), (2, .long (iL b))]) hx hb dX4_common_40 hl (by decide) rfl (fun ls hl => ?_)
        refine lv_lload hx hb dX4_common_42 (lv_at hl 1 rfl) ?_
        refine lv_lstore (lv' := [(4, .long (iL ((y : Nat) : Int))), (8, .long (iL ((x % y : Nat) : Int))), (6, .long (iL ((y : Nat) : Int))), (0, .long (iL a)), (2, .long (iL b))]) hx hb dX4_common_44 hl (by decide) rfl (fun ls hl => ?_)
        refine lv_lload hx hb dX4_common_46 (lv_at hl 1 rfl) ?_
        refine lv_lstore (lv' := [(6, .long (iL ((x % y : Nat) : Int))), (4, .long (iL ((y : Nat) : Int))), (8, .long (iL ((x % y : Nat) : Int))), (0, .long (iL a)), (2, .long (iL b))]) hx hb dX4_common_48 hl (by decide) rfl (fun ls hl => ?_)
        refine lv_goto (tgt := 28) hx hb dX4_common_50 (by decide) ?_
        exact ih _ _ (by rw [hn9]; exact Nat.mod_lt _ hy0) ⟨y, x % y, rfl, ⟨by rw [← hf.1, Nat.gcd_comm y, ← Nat.gcd_rec y x, Nat.gcd_comm], hf.2.2, by have := Nat.mod_lt x hy0; have h9 := hf.2.2; unfold rng at h9 ⊢; omega⟩, lv_sub hl [0, 1, 3, 4] rfl⟩
set_option maxHeartbeats 4000000 in
set_option maxRecDepth 100000 in
theorem c_X4_told (wh : Int32) : Met l yX4_told (wT yX4_told cX4_told 2 (some .long)) ({ frames := 0, cells := 0, slots := 0, locals := 0 }) (pR (dC, dI) (ty3 cI cJ cZ) (mQ cI cZ k r ln cn tm se isI we br ma sf pa) [.ref (k 0), .int wh]) (vp_Sl (fun r9 => r9 = tellQ r wh)) 0 0 (fun _ => False) := by
  refine Met.ofW (cc := cX4_told) (maxL := 2) (ret := (some .long)) (by decide) rfl ?_
  intro p e s m args below meth c s₁ B hml hv
  obtain ⟨rfl, hP, hK⟩ := hv
  have hx := B.exec
  have hb := B.bytes
  have hr := B.returns
  have hts := atoms_spec (ws := wT yX4_told cX4_told 2 (some .long)) B.pre
  have hT := wT_T hts
  have hown : s.vm.findClass RX4 = some m.cls := findClass_of_methodNamed B.named
  have hlocks := B.notSynchronized
  have hl := lv_entry ([.ref (k 0), .int wh]) (n := 2) (Nat.le_of_ble_eq_true rfl)
  rw [lg_entry_eq]
  generalize (lg_sl ([.ref (k 0), .int wh]) ++ List.replicate (2 - (lg_sl ([.ref (k 0), .int wh])).length) Slot.unset).toArray = ls at hl ⊢
  have hl : lv_has ls 2 [(0, .ref (k 0)), (1, .int wh)] := hl
  refine lv_iload_n hx hb dX4_told_0 rfl (lv_at hl 1 rfl) ?_
  refine lv_if_ne (tgt := 11) hx hb dX4_told_1 (by decide) (fun c_1 => ?_) (fun c_1 => ?_)
  · refine lv_aload_n hx hb dX4_told_11 rfl (lv_at hl 0 rfl) ?_
    refine va_get (D := (dC, dI)) (ci := 4) (v := .long (iL ((r).den : Int))) (C := RX4) (T := TX4) (N := 22) hx hb hT hiX4 hown hK hP 0 rfl rfl 1 (by decide) (hT _ kf_X4_7) (fun _ h9 => h9) rfl dX4_told_12 ?_
    exact retR_l hx hb hr hlocks (by simp only [tellQ, c_1, ↓reduceIte, Bool.false_eq_true, i10]) dX4_told_15
  · refine lv_aload_n hx hb dX4_told_4 rfl (lv_at hl 0 rfl) ?_
    refine va_get (D := (dC, dI)) (ci := 4) (v := .long (iL (r).num)) (C := RX4) (T := TX4) (N := 22) hx hb hT hiX4 hown hK hP 0 rfl rfl 0 (by decide) (hT _ kf_X4_75) (fun _ h9 => h9) rfl dX4_told_5 ?_
    refine lv_goto (tgt := 15) hx hb dX4_told_8 (by decide) ?_
    exact retR_l hx hb hr hlocks (by simp only [tellQ, c_1, ↓reduceIte, Bool.false_eq_true, i10]) dX4_told_15
set_option maxHeartbeats 4000000 in
set_option maxRecDepth 100000 in
theorem c_X4_isThere (v : Int32) : Met l yX4_isThere (wT yX4_isThere cX4_isThere 2 (some .boolean)) ({ frames := 1, cells := 0, slots := 0, locals := 22 }) (pR (dC, dI) (ty3 cI cJ cZ) (mW cI cZ k up lo ln cn tm se isI we br ma sf pa) [.ref (k 0), .int v]) (vp_Si (fun r => bp r (∃ j, j < 6 ∧ v = nI j ∧ ¬ isI j = 0))) 0 0 (fun _ => False) := by
  refine Met.ofW (cc := cX4_isThere) (maxL := 2) (ret := (some .boolean)) (by decide) rfl ?_
  intro p e s m args below meth c s₁ B hml hv
  obtain ⟨rfl, hP, hK⟩ := hv
  have hx := B.exec
  have hb := B.bytes
  have hr := B.returns
  have hts := atoms_spec (ws := wT yX4_isThere cX4_isThere 2 (some .boolean)) B.pre
  have hT := wT_T hts
  have hown : s.vm.findClass RX4 = some m.cls := findClass_of_methodNamed B.named
  have hlocks := B.notSynchronized
  have hl := lv_entry ([.ref (k 0), .int v]) (n := 2) (Nat.le_of_ble_eq_true rfl)
  rw [lg_entry_eq]
  generalize (lg_sl ([.ref (k 0), .int v]) ++ List.replicate (2 - (lg_sl ([.ref (k 0), .int v])).length) Slot.unset).toArray = ls at hl ⊢
  have hl : lv_has ls 2 [(0, .ref (k 0)), (1, .int v)] := hl
  refine lv_iload_n hx hb dX4_isThere_0 rfl (lv_at hl 1 rfl) ?_
  refine lv_iconst (v := 0) hx hb dX4_isThere_1 (by decide) ?_
  refine lv_iconst (v := 5) hx hb dX4_isThere_2 (by decide) ?_
  refine vp_callSi (rRS (As := [.int v, .int 0, .int 5]) (rest := []) ⟨hx, hb, hml, hown, hT⟩ (c_X4_within (l := l) v 0 5) (cwTS 3 hT kc_X4_within km_X4_82 kt_X4_within kn_X4 rfl rfl md_X4_within ⟨Nat.le_of_ble_eq_true rfl, Nat.le_of_ble_eq_true rfl⟩) nilP hK  rfl hl.1 rfl (Nat.le_of_ble_eq_true rfl) dX4_isThere_3 ⟨Nat.le_of_ble_eq_true rfl, Nat.le_of_ble_eq_true rfl⟩) (fun r_3 hw_3 => ?_)
  rcases hw_3 with ⟨rfl, hw_3⟩ | ⟨rfl, hw_3⟩
  · obtain ⟨j, hj, rfl⟩ := th_of hw_3
    refine lv_if_eq (tgt := 22) hx hb dX4_isThere_6 (by decide) (fun h => absurd h (by decide)) (fun c_6 => ?_)
    refine lv_aload_n hx hb dX4_isThere_9 rfl (lv_at hl 0 rfl) ?_
    refine va_get (D := (dC, dI)) (ci := 4) (v := .ref (k 2)) (C := RX4) (T := TX4) (N := 22) hx hb hT hiX4 hown hK hP 0 rfl rfl 5 (by decide) (hT _ kf_X4_17) (fun _ h9 => h9) rfl dX4_isThere_10 ?_
    refine lv_iload_n hx hb dX4_isThere_13 rfl (lv_at hl 1 rfl) ?_
    refine ald_z hx hb hK hP 2 2 rfl rfl (by decide) (w := j) rfl (by omega) dX4_isThere_14 ?_
    refine lv_if_eq (tgt := 22) hx hb dX4_isThere_15 (by decide) (fun c_15 => ?_) (fun c_15 => ?_)
    · refine lv_iconst (v := 0) hx hb dX4_isThere_22 (by decide) ?_
      exact retR_z hx hb hr hlocks (by first | exact Or.inl rfl | exact Or.inr rfl | assumption) (by first | exact Or.inr ⟨rfl, th_not hw_3⟩ | exact Or.inr ⟨rfl, kn_not hj (fun h => h c_15)⟩ | exact Or.inl ⟨rfl, j, hj, rfl, c_15⟩) dX4_isThere_23
    · refine lv_iconst (v := 1) hx hb dX4_isThere_18 (by decide) ?_
      refine lv_goto (tgt := 23) hx hb dX4_isThere_19 (by decide) ?_
      exact retR_z hx hb hr hlocks (by first | exact Or.inl rfl | exact Or.inr rfl | assumption) (by first | exact Or.inr ⟨rfl, th_not hw_3⟩ | exact Or.inr ⟨rfl, kn_not hj (fun h => h c_15)⟩ | exact Or.inl ⟨rfl, j, hj, rfl, c_15⟩) dX4_isThere_23
  · refine lv_if_eq (tgt := 22) hx hb dX4_isThere_6 (by decide) (fun c_6 => ?_) (fun h => absurd h (by decide))
    refine lv_iconst (v := 0) hx hb dX4_isThere_22 (by decide) ?_
    exact retR_z hx hb hr hlocks (by first | exact Or.inl rfl | exact Or.inr rfl | assumption) (by first | exact Or.inr ⟨rfl, th_not hw_3⟩ | exact Or.inr ⟨rfl, kn_not hj (fun h => h c_15)⟩ | exact Or.inl ⟨rfl, j, hj, rfl, c_15⟩) dX4_isThere_23
set_option maxHeartbeats 4000000 in
set_option maxRecDepth 100000 in
theorem c_X4_manyIn  : Met l yX4_manyIn (wT yX4_manyIn cX4_manyIn 3 (some .int)) ({ frames := 0, cells := 0, slots := 0, locals := 0 }) (pR (dC, dI) (ty3 cI cJ cZ) (mW cI cZ k up lo ln cn tm se isI we br ma sf pa) [.ref (k 0)]) (vp_Si (fun r9 => r9 = m_inN isI 6)) 0 0 (fun _ => False) := by
  refine Met.ofW (cc := cX4_manyIn) (maxL := 3) (ret := (some .int)) (by decide) rfl ?_
  intro p e s m args below meth c s₁ B hml hv
  obtain ⟨rfl, hP, hK⟩ := hv
  have hx := B.exec
  have hb := B.bytes
  have hr := B.returns
  have hts := atoms_spec (ws := wT yX4_manyIn cX4_manyIn 3 (some .int)) B.pre
  have hT := wT_T hts
  have hown : s.vm.findClass RX4 = some m.cls := findClass_of_methodNamed B.named
  have hlocks := B.notSynchronized
  have hl := lv_entry ([.ref (k 0)]) (n := 3) (Nat.le_of_ble_eq_true rfl)
  rw [lg_entry_eq]
  generalize (lg_sl ([.ref (k 0)]) ++ List.replicate (3 - (lg_sl ([.ref (k 0)])).length) Slot.unset).toArray = ls at hl ⊢
  have hl : lv_has ls 3 [(0, .ref (k 0))] := hl
  refine lv_iconst (v := 0) hx hb dX4_manyIn_0 (by decide) ?_
  refine lv_istore_n (lv' := [(1, .int 0), (0, .ref (k 0))]) hx hb dX4_manyIn_1 rfl hl (by decide) rfl (fun ls hl => ?_)
  refine lv_iconst (v := 0) hx hb dX4_manyIn_2 (by decide) ?_
  refine lv_istore_n (lv' := [(2, .int 0), (1, .int 0), (0, .ref (k 0))]) hx hb dX4_manyIn_3 rfl hl (by decide) rfl (fun ls hl => ?_)
  refine loopR 6 (fun i ls => lv_has ls 3 [(2, .int (nI i)), (1, .int (m_inN isI i)), (0, .ref (k 0))]) (i0 := 0) (Nat.zero_le _) (lv_sub hl [0, 1, 2] rfl) (fun i ls hi hl ih => ?_) (fun ls hl => ?_)
  · refine lv_iload_n hx hb dX4_manyIn_4 rfl (lv_at hl 0 rfl) ?_
    refine lv_bipush (v := 6) hx hb dX4_manyIn_5 (by decide) ?_
    refine lv_icmp_ge (tgt := 33) hx hb dX4_manyIn_7 (by decide) (fun h => absurd h (nI_ge (b := 6) hi (by decide))) (fun c_7 => ?_)
    refine lv_iload_n hx hb dX4_manyIn_10 rfl (lv_at hl 1 rfl) ?_
    refine lv_aload_n hx hb dX4_manyIn_11 rfl (lv_at hl 2 rfl) ?_
    refine va_get (D := (dC, dI)) (ci := 4) (v := .ref (k 2)) (C := RX4) (T := TX4) (N := 22) hx hb hT hiX4 hown hK hP 0 rfl rfl 5 (by decide) (hT _ kf_X4_17) (fun _ h9 => h9) rfl dX4_manyIn_12 ?_
    refine lv_iload_n hx hb dX4_manyIn_15 rfl (lv_at hl 0 rfl) ?_
    refine ald_z hx hb hK hP 2 2 rfl rfl (by decide) (w := i) rfl (by omega) dX4_manyIn_16 ?_
    refine lv_if_eq (tgt := 24) hx hb dX4_manyIn_17 (by decide) (fun c_17 => ?_) (fun c_17 => ?_)
    · refine lv_iconst (v := 0) hx hb dX4_manyIn_24 (by decide) ?_
      refine lv_iadd hx hb dX4_manyIn_25 ?_
      refine lv_istore_n (lv' := [(1, .int ((m_inN isI i) + 0)), (2, .int (nI i)), (0, .ref (k 0))]) hx hb dX4_manyIn_26 rfl hl (by decide) rfl (fun ls hl => ?_)
      refine lv_iinc (v := (nI (i + 1))) (lv' := [(2, .int (nI (i + 1))), (1, .int ((m_inN isI i) + 0)), (0, .ref (k 0))]) hx hb dX4_manyIn_27 hl (k := 1) rfl (nI_1 i) (by decide) rfl (fun ls hl => ?_)
      refine lv_goto (tgt := 4) hx hb dX4_manyIn_30 (by decide) ?_
      have es0 : ((m_inN isI i) + 0 : Int32) = (m_inN isI (i + 1)) := by simp only [m_inN, c_17, ↓reduceIte, Bool.false_eq_true, i10]
      exact ih _ (by rw [← es0]; exact lv_sub hl [0, 1, 2] rfl)
    · refine lv_iconst (v := 1) hx hb dX4_manyIn_20 (by decide) ?_
      refine lv_goto (tgt := 25) hx hb dX4_manyIn_21 (by decide) ?_
      refine lv_iadd hx hb dX4_manyIn_25 ?_
      refine lv_istore_n (lv' := [(1, .int ((m_inN isI i) + 1)), (2, .int (nI i)), (0, .ref (k 0))]) hx hb dX4_manyIn_26 rfl hl (by decide) rfl (fun ls hl => ?_)
      refine lv_iinc (v := (nI (i + 1))) (lv' := [(2, .int (nI (i + 1))), (1, .int ((m_inN isI i) + 1)), (0, .ref (k 0))]) hx hb dX4_manyIn_27 hl (k := 1) rfl (nI_1 i) (by decide) rfl (fun ls hl => ?_)
      refine lv_goto (tgt := 4) hx hb dX4_manyIn_30 (by decide) ?_
      have es0 : ((m_inN isI i) + 1 : Int32) = (m_inN isI (i + 1)) := by simp only [m_inN, c_17, ↓reduceIte, Bool.false_eq_true, i10]
      exact ih _ (by rw [← es0]; exact lv_sub hl [0, 1, 2] rfl)
  · refine lv_iload_n hx hb dX4_manyIn_4 rfl (lv_at hl 0 rfl) ?_
    refine lv_bipush (v := 6) hx hb dX4_manyIn_5 (by decide) ?_
    refine lv_icmp_ge (tgt := 33) hx hb dX4_manyIn_7 (by decide) (fun c_7 => ?_) (fun h => absurd h (by decide))
    refine lv_iload_n hx hb dX4_manyIn_33 rfl (lv_at hl 1 rfl) ?_
    exact retR_i hx hb hr hlocks rfl dX4_manyIn_34
set_option maxHeartbeats 4000000 in
set_option maxRecDepth 100000 in
theorem c_X4_isUnit (w : Nat) (hw : w < 6) : Met l yX4_isUnit (wT yX4_isUnit cX4_isUnit 2 (some .boolean)) ({ frames := 0, cells := 0, slots := 0, locals := 0 }) (pR (dC, dI) (ty3 cI cJ cZ) (mW cI cZ k up lo ln cn tm se isI we br ma sf pa) [.ref (k 0), .int (nI w)]) (vp_Si (fun r => bp r (m_isU isI ma w))) 0 0 (fun _ => False) := by
  refine Met.ofW (cc := cX4_isUnit) (maxL := 2) (ret := (some .boolean)) (by decide) rfl ?_
  intro p e s m args below meth c s₁ B hml hv
  obtain ⟨rfl, hP, hK⟩ := hv
  have hx := B.exec
  have hb := B.bytes
  have hr := B.returns
  have hts := atoms_spec (ws := wT yX4_isUnit cX4_isUnit 2 (some .boolean)) B.pre
  have hT := wT_T hts
  have hown : s.vm.findClass RX4 = some m.cls := findClass_of_methodNamed B.named
  have hlocks := B.notSynchronized
  have hl := lv_entry ([.ref (k 0), .int (nI w)]) (n := 2) (Nat.le_of_ble_eq_true rfl)
  rw [lg_entry_eq]
  generalize (lg_sl ([.ref (k 0), .int (nI w)]) ++ List.replicate (2 - (lg_sl ([.ref (k 0), .int (nI w)])).length) Slot.unset).toArray = ls at hl ⊢
  have hl : lv_has ls 2 [(0, .ref (k 0)), (1, .int (nI w))] := hl
  refine lv_aload_n hx hb dX4_isUnit_0 rfl (lv_at hl 0 rfl) ?_
  refine va_get (D := (dC, dI)) (ci := 4) (v := .ref (k 2)) (C := RX4) (T := TX4) (N := 22) hx hb hT hiX4 hown hK hP 0 rfl rfl 5 (by decide) (hT _ kf_X4_17) (fun _ h9 => h9) rfl dX4_isUnit_1 ?_
  refine lv_iload_n hx hb dX4_isUnit_4 rfl (lv_at hl 1 rfl) ?_
  refine ald_z hx hb hK hP 2 2 rfl rfl (by decide) (w := w) rfl (by omega) dX4_isUnit_5 ?_
  refine lv_if_eq (tgt := 34) hx hb dX4_isUnit_6 (by decide) (fun c_6 => ?_) (fun c_6 => ?_)
  · refine lv_iconst (v := 0) hx hb dX4_isUnit_34 (by decide) ?_
    exact retR_z hx hb hr hlocks (by first | exact Or.inl rfl | exact Or.inr rfl | assumption) (by first | exact Or.inr ⟨rfl, fun h => h.1 c_6⟩ | exact Or.inl ⟨rfl, c_6, Or.inl c_17⟩ | exact Or.inr ⟨rfl, fun h => h.2.elim c_17 (fun h2 => absurd c_27 (Int32.not_le.mpr h2))⟩ | exact Or.inl ⟨rfl, c_6, Or.inr (Int32.not_le.mp c_27)⟩) dX4_isUnit_35
  · refine lv_aload_n hx hb dX4_isUnit_9 rfl (lv_at hl 0 rfl) ?_
    refine va_get (D := (dC, dI)) (ci := 4) (v := .ref (k 5)) (C := RX4) (T := TX4) (N := 22) hx hb hT hiX4 hown hK hP 0 rfl rfl 8 (by decide) (hT _ kf_X4_27) (fun _ h9 => h9) rfl dX4_isUnit_10 ?_
    refine lv_iload_n hx hb dX4_isUnit_13 rfl (lv_at hl 1 rfl) ?_
    refine ald_i hx hb hK hP 5 0 rfl rfl (by decide) (w := w) rfl (by omega) dX4_isUnit_14 ?_
    refine lv_bipush (v := (-9)) hx hb dX4_isUnit_15 (by decide) ?_
    refine lv_icmp_eq (tgt := 30) hx hb dX4_isUnit_17 (by decide) (fun c_17 => ?_) (fun c_17 => ?_)
    · refine lv_iconst (v := 1) hx hb dX4_isUnit_30 (by decide) ?_
      refine lv_goto (tgt := 35) hx hb dX4_isUnit_31 (by decide) ?_
      exact retR_z hx hb hr hlocks (by first | exact Or.inl rfl | exact Or.inr rfl | assumption) (by first | exact Or.inr ⟨rfl, fun h => h.1 c_6⟩ | exact Or.inl ⟨rfl, c_6, Or.inl c_17⟩ | exact Or.inr ⟨rfl, fun h => h.2.elim c_17 (fun h2 => absurd c_27 (Int32.not_le.mpr h2))⟩ | exact Or.inl ⟨rfl, c_6, Or.inr (Int32.not_le.mp c_27)⟩) dX4_isUnit_35
    · refine lv_iload_n hx hb dX4_isUnit_20 rfl (lv_at hl 1 rfl) ?_
      refine lv_aload_n hx hb dX4_isUnit_21 rfl (lv_at hl 0 rfl) ?_
      refine va_get (D := (dC, dI)) (ci := 4) (v := .ref (k 5)) (C := RX4) (T := TX4) (N := 22) hx hb hT hiX4 hown hK hP 0 rfl rfl 8 (by decide) (hT _ kf_X4_27) (fun _ h9 => h9) rfl dX4_isUnit_22 ?_
      refine lv_iload_n hx hb dX4_isUnit_25 rfl (lv_at hl 1 rfl) ?_
      refine ald_i hx hb hK hP 5 0 rfl rfl (by decide) (w := w) rfl (by omega) dX4_isUnit_26 ?_
      refine lv_icmp_ge (tgt := 34) hx hb dX4_isUnit_27 (by decide) (fun c_27 => ?_) (fun c_27 => ?_)
      · refine lv_iconst (v := 0) hx hb dX4_isUnit_34 (by decide) ?_
        exact retR_z hx hb hr hlocks (by first | exact Or.inl rfl | exact Or.inr rfl | assumption) (by first | exact Or.inr ⟨rfl, fun h => h.1 c_6⟩ | exact Or.inl ⟨rfl, c_6, Or.inl c_17⟩ | exact Or.inr ⟨rfl, fun h => h.2.elim c_17 (fun h2 => absurd c_27 (Int32.not_le.mpr h2))⟩ | exact Or.inl ⟨rfl, c_6, Or.inr (Int32.not_le.mp c_27)⟩) dX4_isUnit_35
      · refine lv_iconst (v := 1) hx hb dX4_isUnit_30 (by decide) ?_
        refine lv_goto (tgt := 35) hx hb dX4_isUnit_31 (by decide) ?_
        exact retR_z hx hb hr hlocks (by first | exact Or.inl rfl | exact Or.inr rfl | assumption) (by first | exact Or.inr ⟨rfl, fun h => h.1 c_6⟩ | exact Or.inl ⟨rfl, c_6, Or.inl c_17⟩ | exact Or.inr ⟨rfl, fun h => h.2.elim c_17 (fun h2 => absurd c_27 (Int32.not_le.mpr h2))⟩ | exact Or.inl ⟨rfl, c_6, Or.inr (Int32.not_le.mp c_27)⟩) dX4_isUnit_35
set_option maxHeartbeats 4000000 in
set_option maxRecDepth 100000 in
theorem c_X4_unitOf (w : Nat) (hw : w < 6) (hm : mok ma) : Met l yX4_unitOf (wT yX4_unitOf cX4_unitOf 2 (some .int)) ({ frames := 0, cells := 0, slots := 0, locals := 0 }) (pR (dC, dI) (ty3 cI cJ cZ) (mW cI cZ k up lo ln cn tm se isI we br ma sf pa) [.ref (k 0), .int (nI w)]) (vp_Si (fun r9 => r9 = nI (m_un ma w))) 0 0 (fun _ => False) := by
  refine Met.ofW (cc := cX4_unitOf) (maxL := 2) (ret := (some .int)) (by decide) rfl ?_
  intro p e s m args below meth c s₁ B hml hv
  obtain ⟨rfl, hP, hK⟩ := hv
  have hx := B.exec
  have hb := B.bytes
  have hr := B.returns
  have hts := atoms_spec (ws := wT yX4_unitOf cX4_unitOf 2 (some .int)) B.pre
  have hT := wT_T hts
  have hown : s.vm.findClass RX4 = some m.cls := findClass_of_methodNamed B.named
  have hlocks := B.notSynchronized
  have hl := lv_entry ([.ref (k 0), .int (nI w)]) (n := 2) (Nat.le_of_ble_eq_true rfl)
  rw [lg_entry_eq]
  generalize (lg_sl ([.ref (k 0), .int (nI w)]) ++ List.replicate (2 - (lg_sl ([.ref (k 0), .int (nI w)])).length) Slot.unset).toArray = ls at hl ⊢
  have hl : lv_has ls 2 [(0, .ref (k 0)), (1, .int (nI w))] := hl
  refine lv_aload_n hx hb dX4_unitOf_0 rfl (lv_at hl 0 rfl) ?_
  refine va_get (D := (dC, dI)) (ci := 4) (v := .ref (k 5)) (C := RX4) (T := TX4) (N := 22) hx hb hT hiX4 hown hK hP 0 rfl rfl 8 (by decide) (hT _ kf_X4_27) (fun _ h9 => h9) rfl dX4_unitOf_1 ?_
  refine lv_iload_n hx hb dX4_unitOf_4 rfl (lv_at hl 1 rfl) ?_
  refine ald_i hx hb hK hP 5 0 rfl rfl (by decide) (w := w) rfl (by omega) dX4_unitOf_5 ?_
  refine lv_bipush (v := (-9)) hx hb dX4_unitOf_6 (by decide) ?_
  refine lv_icmp_eq (tgt := 30) hx hb dX4_unitOf_8 (by decide) (fun c_8 => ?_) (fun c_8 => ?_)
  · refine lv_iload_n hx hb dX4_unitOf_30 rfl (lv_at hl 1 rfl) ?_
    exact retR_i hx hb hr hlocks (by first | (unfold m_un; rw [if_pos c_8]) | (unfold m_un; rw [if_neg c_8, if_neg (Int32.not_lt.mpr c_18)]) | (unfold m_un; rw [if_neg c_8, if_pos (Int32.not_le.mp c_18)]; exact (m_idx hm hw c_8).1)) dX4_unitOf_31
  · refine lv_aload_n hx hb dX4_unitOf_11 rfl (lv_at hl 0 rfl) ?_
    refine va_get (D := (dC, dI)) (ci := 4) (v := .ref (k 5)) (C := RX4) (T := TX4) (N := 22) hx hb hT hiX4 hown hK hP 0 rfl rfl 8 (by decide) (hT _ kf_X4_27) (fun _ h9 => h9) rfl dX4_unitOf_12 ?_
    refine lv_iload_n hx hb dX4_unitOf_15 rfl (lv_at hl 1 rfl) ?_
    refine ald_i hx hb hK hP 5 0 rfl rfl (by decide) (w := w) rfl (by omega) dX4_unitOf_16 ?_
    refine lv_iload_n hx hb dX4_unitOf_17 rfl (lv_at hl 1 rfl) ?_
    refine lv_icmp_ge (tgt := 30) hx hb dX4_unitOf_18 (by decide) (fun c_18 => ?_) (fun c_18 => ?_)
    · refine lv_iload_n hx hb dX4_unitOf_30 rfl (lv_at hl 1 rfl) ?_
      exact retR_i hx hb hr hlocks (by first | (unfold m_un; rw [if_pos c_8]) | (unfold m_un; rw [if_neg c_8, if_neg (Int32.not_lt.mpr c_18)]) | (unfold m_un; rw [if_neg c_8, if_pos (Int32.not_le.mp c_18)]; exact (m_idx hm hw c_8).1)) dX4_unitOf_31
    · refine lv_aload_n hx hb dX4_unitOf_21 rfl (lv_at hl 0 rfl) ?_
      refine va_get (D := (dC, dI)) (ci := 4) (v := .ref (k 5)) (C := RX4) (T := TX4) (N := 22) hx hb hT hiX4 hown hK hP 0 rfl rfl 8 (by decide) (hT _ kf_X4_27) (fun _ h9 => h9) rfl dX4_unitOf_22 ?_
      refine lv_iload_n hx hb dX4_unitOf_25 rfl (lv_at hl 1 rfl) ?_
      refine ald_i hx hb hK hP 5 0 rfl rfl (by decide) (w := w) rfl (by omega) dX4_unitOf_26 ?_
      refine lv_goto (tgt := 31) hx hb dX4_unitOf_27 (by decide) ?_
      exact retR_i hx hb hr hlocks (by first | (unfold m_un; rw [if_pos c_8]) | (unfold m_un; rw [if_neg c_8, if_neg (Int32.not_lt.mpr c_18)]) | (unfold m_un; rw [if_neg c_8, if_pos (Int32.not_le.mp c_18)]; exact (m_idx hm hw c_8).1)) dX4_unitOf_31
set_option maxHeartbeats 4000000 in
set_option maxRecDepth 100000 in
theorem c_X4_unitWeight (w : Nat) (hw : w < 6) (hm : mok ma) : Met l yX4_unitWeight (wT yX4_unitWeight cX4_unitWeight 2 (some .int)) ({ frames := 0, cells := 0, slots := 0, locals := 0 }) (pR (dC, dI) (ty3 cI cJ cZ) (mW cI cZ k up lo ln cn tm se isI we br ma sf pa) [.ref (k 0), .int (nI w)]) (vp_Si (fun r9 => r9 = m_uw we ma w)) 0 0 (fun _ => False) := by
  refine Met.ofW (cc := cX4_unitWeight) (maxL := 2) (ret := (some .int)) (by decide) rfl ?_
  intro p e s m args below meth c s₁ B hml hv
  obtain ⟨rfl, hP, hK⟩ := hv
  have hx := B.exec
  have hb := B.bytes
  have hr := B.returns
  have hts := atoms_spec (ws := wT yX4_unitWeight cX4_unitWeight 2 (some .int)) B.pre
  have hT := wT_T hts
  have hown : s.vm.findClass RX4 = some m.cls := findClass_of_methodNamed B.named
  have hlocks := B.notSynchronized
  have hl := lv_entry ([.ref (k 0), .int (nI w)]) (n := 2) (Nat.le_of_ble_eq_true rfl)
  rw [lg_entry_eq]
  generalize (lg_sl ([.ref (k 0), .int (nI w)]) ++ List.replicate (2 - (lg_sl ([.ref (k 0), .int (nI w)])).length) Slot.unset).toArray = ls at hl ⊢
  have hl : lv_has ls 2 [(0, .ref (k 0)), (1, .int (nI w))] := hl
  refine lv_aload_n hx hb dX4_unitWeight_0 rfl (lv_at hl 0 rfl) ?_
  refine va_get (D := (dC, dI)) (ci := 4) (v := .ref (k 3)) (C := RX4) (T := TX4) (N := 22) hx hb hT hiX4 hown hK hP 0 rfl rfl 6 (by decide) (hT _ kf_X4_21) (fun _ h9 => h9) rfl dX4_unitWeight_1 ?_
  refine lv_iload_n hx hb dX4_unitWeight_4 rfl (lv_at hl 1 rfl) ?_
  refine ald_i hx hb hK hP 3 0 rfl rfl (by decide) (w := w) rfl (by omega) dX4_unitWeight_5 ?_
  refine lv_aload_n hx hb dX4_unitWeight_6 rfl (lv_at hl 0 rfl) ?_
  refine va_get (D := (dC, dI)) (ci := 4) (v := .ref (k 5)) (C := RX4) (T := TX4) (N := 22) hx hb hT hiX4 hown hK hP 0 rfl rfl 8 (by decide) (hT _ kf_X4_27) (fun _ h9 => h9) rfl dX4_unitWeight_7 ?_
  refine lv_iload_n hx hb dX4_unitWeight_10 rfl (lv_at hl 1 rfl) ?_
  refine ald_i hx hb hK hP 5 0 rfl rfl (by decide) (w := w) rfl (by omega) dX4_unitWeight_11 ?_
  refine lv_bipush (v := (-9)) hx hb dX4_unitWeight_12 (by decide) ?_
  refine lv_icmp_ne (tgt := 21) hx hb dX4_unitWeight_14 (by decide) (fun c_14 => ?_) (fun c_14 => ?_)
  · refine lv_aload_n hx hb dX4_unitWeight_21 rfl (lv_at hl 0 rfl) ?_
    refine va_get (D := (dC, dI)) (ci := 4) (v := .ref (k 3)) (C := RX4) (T := TX4) (N := 22) hx hb hT hiX4 hown hK hP 0 rfl rfl 6 (by decide) (hT _ kf_X4_21) (fun _ h9 => h9) rfl dX4_unitWeight_22 ?_
    refine lv_aload_n hx hb dX4_unitWeight_25 rfl (lv_at hl 0 rfl) ?_
    refine va_get (D := (dC, dI)) (ci := 4) (v := .ref (k 5)) (C := RX4) (T := TX4) (N := 22) hx hb hT hiX4 hown hK hP 0 rfl rfl 8 (by decide) (hT _ kf_X4_27) (fun _ h9 => h9) rfl dX4_unitWeight_26 ?_
    refine lv_iload_n hx hb dX4_unitWeight_29 rfl (lv_at hl 1 rfl) ?_
    refine ald_i hx hb hK hP 5 0 rfl rfl (by decide) (w := w) rfl (by omega) dX4_unitWeight_30 ?_
    refine ald_i hx hb hK hP 3 0 rfl rfl (by decide) (w := (m_mt ma w)) (m_idx hm hw c_14).1 (m_idx hm hw c_14).2 dX4_unitWeight_31 ?_
    refine lv_iadd hx hb dX4_unitWeight_32 ?_
    exact retR_i hx hb hr hlocks (by simp only [m_uw, c_14, ↓reduceIte, Bool.false_eq_true, i10]) dX4_unitWeight_33
  · refine lv_iconst (v := 0) hx hb dX4_unitWeight_17 (by decide) ?_
    refine lv_goto (tgt := 32) hx hb dX4_unitWeight_18 (by decide) ?_
    refine lv_iadd hx hb dX4_unitWeight_32 ?_
    exact retR_i hx hb hr hlocks (by simp only [m_uw, c_14, ↓reduceIte, Bool.false_eq_true, i10]) dX4_unitWeight_33
set_option maxHeartbeats 4000000 in
set_option maxRecDepth 100000 in
theorem c_X4_isUnitBroke (w : Nat) (hw : w < 6) (hm : mok ma) : Met l yX4_isUnitBroke (wT yX4_isUnitBroke cX4_isUnitBroke 2 (some .boolean)) ({ frames := 0, cells := 0, slots := 0, locals := 0 }) (pR (dC, dI) (ty3 cI cJ cZ) (mW cI cZ k up lo ln cn tm se isI we br ma sf pa) [.ref (k 0), .int (nI w)]) (vp_Si (fun r => bp r (m_ubr br ma w))) 0 0 (fun _ => False) := by
  refine Met.ofW (cc := cX4_isUnitBroke) (maxL := 2) (ret := (some .boolean)) (by decide) rfl ?_
  intro p e s m args below meth c s₁ B hml hv
  obtain ⟨rfl, hP, hK⟩ := hv
  have hx := B.exec
  have hb := B.bytes
  have hr := B.returns
  have hts := atoms_spec (ws := wT yX4_isUnitBroke cX4_isUnitBroke 2 (some .boolean)) B.pre
  have hT := wT_T hts
  have hown : s.vm.findClass RX4 = some m.cls := findClass_of_methodNamed B.named
  have hlocks := B.notSynchronized
  have hl := lv_entry ([.ref (k 0), .int (nI w)]) (n := 2) (Nat.le_of_ble_eq_true rfl)
  rw [lg_entry_eq]
  generalize (lg_sl ([.ref (k 0), .int (nI w)]) ++ List.replicate (2 - (lg_sl ([.ref (k 0), .int (nI w)])).length) Slot.unset).toArray = ls at hl ⊢
  have hl : lv_has ls 2 [(0, .ref (k 0)), (1, .int (nI w))] := hl
  refine lv_aload_n hx hb dX4_isUnitBroke_0 rfl (lv_at hl 0 rfl) ?_
  refine va_get (D := (dC, dI)) (ci := 4) (v := .ref (k 4)) (C := RX4) (T := TX4) (N := 22) hx hb hT hiX4 hown hK hP 0 rfl rfl 7 (by decide) (hT _ kf_X4_24) (fun _ h9 => h9) rfl dX4_isUnitBroke_1 ?_
  refine lv_iload_n hx hb dX4_isUnitBroke_4 rfl (lv_at hl 1 rfl) ?_
  refine ald_z hx hb hK hP 4 2 rfl rfl (by decide) (w := w) rfl (by omega) dX4_isUnitBroke_5 ?_
  refine lv_if_eq (tgt := 38) hx hb dX4_isUnitBroke_6 (by decide) (fun c_6 => ?_) (fun c_6 => ?_)
  · refine lv_iconst (v := 0) hx hb dX4_isUnitBroke_38 (by decide) ?_
    exact retR_z hx hb hr hlocks (by first | exact Or.inl rfl | exact Or.inr rfl | assumption) (by first | exact Or.inr ⟨rfl, fun h => h.1 c_6⟩ | exact Or.inl ⟨rfl, c_6, Or.inl c_17⟩ | exact Or.inr ⟨rfl, fun h => h.2.elim c_17 (fun h2 => h2 c_31)⟩ | exact Or.inl ⟨rfl, c_6, Or.inr c_31⟩) dX4_isUnitBroke_39
  · refine lv_aload_n hx hb dX4_isUnitBroke_9 rfl (lv_at hl 0 rfl) ?_
    refine va_get (D := (dC, dI)) (ci := 4) (v := .ref (k 5)) (C := RX4) (T := TX4) (N := 22) hx hb hT hiX4 hown hK hP 0 rfl rfl 8 (by decide) (hT _ kf_X4_27) (fun _ h9 => h9) rfl dX4_isUnitBroke_10 ?_
    refine lv_iload_n hx hb dX4_isUnitBroke_13 rfl (lv_at hl 1 rfl) ?_
    refine ald_i hx hb hK hP 5 0 rfl rfl (by decide) (w := w) rfl (by omega) dX4_isUnitBroke_14 ?_
    refine lv_bipush (v := (-9)) hx hb dX4_isUnitBroke_15 (by decide) ?_
    refine lv_icmp_eq (tgt := 34) hx hb dX4_isUnitBroke_17 (by decide) (fun c_17 => ?_) (fun c_17 => ?_)
    · refine lv_iconst (v := 1) hx hb dX4_isUnitBroke_34 (by decide) ?_
      refine lv_goto (tgt := 39) hx hb dX4_isUnitBroke_35 (by decide) ?_
      exact retR_z hx hb hr hlocks (by first | exact Or.inl rfl | exact Or.inr rfl | assumption) (by first | exact Or.inr ⟨rfl, fun h => h.1 c_6⟩ | exact Or.inl ⟨rfl, c_6, Or.inl c_17⟩ | exact Or.inr ⟨rfl, fun h => h.2.elim c_17 (fun h2 => h2 c_31)⟩ | exact Or.inl ⟨rfl, c_6, Or.inr c_31⟩) dX4_isUnitBroke_39
    · refine lv_aload_n hx hb dX4_isUnitBroke_20 rfl (lv_at hl 0 rfl) ?_
      refine va_get (D := (dC, dI)) (ci := 4) (v := .ref (k 4)) (C := RX4) (T := TX4) (N := 22) hx hb hT hiX4 hown hK hP 0 rfl rfl 7 (by decide) (hT _ kf_X4_24) (fun _ h9 => h9) rfl dX4_isUnitBroke_21 ?_
      refine lv_aload_n hx hb dX4_isUnitBroke_24 rfl (lv_at hl 0 rfl) ?_
      refine va_get (D := (dC, dI)) (ci := 4) (v := .ref (k 5)) (C := RX4) (T := TX4) (N := 22) hx hb hT hiX4 hown hK hP 0 rfl rfl 8 (by decide) (hT _ kf_X4_27) (fun _ h9 => h9) rfl dX4_isUnitBroke_25 ?_
      refine lv_iload_n hx hb dX4_isUnitBroke_28 rfl (lv_at hl 1 rfl) ?_
      refine ald_i hx hb hK hP 5 0 rfl rfl (by decide) (w := w) rfl (by omega) dX4_isUnitBroke_29 ?_
      refine ald_z hx hb hK hP 4 2 rfl rfl (by decide) (w := (m_mt ma w)) (m_idx hm hw c_17).1 (m_idx hm hw c_17).2 dX4_isUnitBroke_30 ?_
      refine lv_if_eq (tgt := 38) hx hb dX4_isUnitBroke_31 (by decide) (fun c_31 => ?_) (fun c_31 => ?_)
      · refine lv_iconst (v := 0) hx hb dX4_isUnitBroke_38 (by decide) ?_
        exact retR_z hx hb hr hlocks (by first | exact Or.inl rfl | exact Or.inr rfl | assumption) (by first | exact Or.inr ⟨rfl, fun h => h.1 c_6⟩ | exact Or.inl ⟨rfl, c_6, Or.inl c_17⟩ | exact Or.inr ⟨rfl, fun h => h.2.elim c_17 (fun h2 => h2 c_31)⟩ | exact Or.inl ⟨rfl, c_6, Or.inr c_31⟩) dX4_isUnitBroke_39
      · refine lv_iconst (v := 1) hx hb dX4_isUnitBroke_34 (by decide) ?_
        refine lv_goto (tgt := 39) hx hb dX4_isUnitBroke_35 (by decide) ?_
        exact retR_z hx hb hr hlocks (by first | exact Or.inl rfl | exact Or.inr rfl | assumption) (by first | exact Or.inr ⟨rfl, fun h => h.1 c_6⟩ | exact Or.inl ⟨rfl, c_6, Or.inl c_17⟩ | exact Or.inr ⟨rfl, fun h => h.2.elim c_17 (fun h2 => h2 c_31)⟩ | exact Or.inl ⟨rfl, c_6, Or.inr c_31⟩) dX4_isUnitBroke_39
