variable {l : Launch} {dC : Nat → ClassId} {dI : Nat → Nat → Nat} {cI cJ cZ : ClassId}
variable {q : Nat → Nat} {ln cw ic bs ss : Int32} {se we un sf pa : Nat → Int32}
variable {ct : Int32} {ov gf : Nat → Int64} {gi ta : Nat → Int32}
variable {k : Nat → Nat} {up lo : Int64} {cn tm : Int32} {isI br ma : Nat → Int32} {aU aL uU uL oU oL gU gL : Nat → Int64}

abbrev iQ (z : Int) : Rat := (z : Rat)
abbrev shQ (a : Nat) (r : Rat) : va_W := [(a, .inr (2, [.long (iL r.num), .long (iL (r.den : Int))]))]
def tellQ (r : Rat) (wh : Int32) : Int64 := if wh = 0 then iL r.num else iL (r.den : Int)
theorem of_zero (a : Int) {b : Int} (h0 : 0 ≤ b) (h : iL b ≤ iL 0) (hb : b < 2 ^ 48) : b = 0 := by
  have := (iL_le (by unfold rng; omega) rng_0).mp h
  omega
theorem of_pos {b : Int} (h0 : 0 ≤ b) (h : ¬ iL b ≤ iL 0) (hb : b < 2 ^ 48) : 0 < b := by
  have := mt (iL_le (by unfold rng; omega) rng_0).mpr h
  omega
theorem rng_of {a : Int} (h1 : 0 ≤ a) (h2 : a < 2 ^ 48) : rng a := by unfold rng; omega
theorem rng_nat {a : Nat} (h2 : a < 2 ^ 62) : rng a := by unfold rng; omega
theorem nat_tdiv (a b : Nat) : Int.tdiv (a : Int) (b : Int) = ((a / b : Nat) : Int) := by rw [Int.tdiv_eq_ediv_of_nonneg (Int.natCast_nonneg a)]; exact (Int.natCast_ediv a b).symm
theorem t_mul (r : Rat) (f : Int) : Rat.divInt (r.num * f) (r.den : Int) = r * iQ f := by
  show _ = r * (f : Rat)
  have h := rat_nd r
  have h2 := ic_ne r.den_pos
  rw [rq_eq, Rat.intCast_mul]
  generalize ((r.den : Int) : Rat) = d at h h2 ⊢
  generalize ((r.num : Int) : Rat) = n at h ⊢
  rw [h]; grind
theorem t_add (r : Rat) (f : Int) : Rat.divInt (r.num + f * (r.den : Int)) (r.den : Int) = r + iQ f := by
  show _ = r + (f : Rat)
  have h := rat_nd r
  have h2 := ic_ne r.den_pos
  rw [rq_eq, Rat.intCast_add, Rat.intCast_mul]
  generalize ((r.den : Int) : Rat) = d at h h2 ⊢
  generalize ((r.num : Int) : Rat) = n at h ⊢
  rw [h]; grind
theorem t_sub (r t : Rat) : Rat.divInt (r.num * ((t.den / Nat.gcd r.den t.den : Nat) : Int) - t.num * ((r.den / Nat.gcd r.den t.den : Nat) : Int)) ((r.den : Int) * ((t.den / Nat.gcd r.den t.den : Nat) : Int)) = r - t := by
  have h := comb_eq r.num (-t.num) r.den t.den r.den_pos t.den_pos
  have e1 := rat_nd r
  have e2 := rat_nd t
  rw [Int.natCast_mul, Int.neg_mul, ← Int.sub_eq_add_neg] at h
  rw [h, Rat.intCast_neg]
  grind
set_option maxHeartbeats 4000000 in
set_option maxRecDepth 100000 in
theorem c_X2_init (sz : Nat) {a : Nat} {u0 d0 : Int64} (u1 d1 : Int64) : Met l yX2_init (wT yX2_init cX2_init 5 none) ({ frames := 1, cells := 0, slots := 0, locals := 12 }) (pM (dC, dI) (ty3 cI cJ cZ) (shW  a u0 d0) [.ref a, .long u1, .long d1] sz) (va_Qv (S := Unit) (fun _ => True) (fun u t9 => bM (dC, dI) (ty3 cI cJ cZ) (va_A (shW  a u0 d0) sz) (shW a u1 d1) t9) (va_A (shW  a u0 d0) sz)) 0 0 (va_A (shW  a u0 d0) sz) := by
  refine Met.ofW (cc := cX2_init) (maxL := 5) (ret := none) (by decide) rfl ?_
  intro p e s m args below meth c s₁ B hml hv
  obtain ⟨rfl, hsz, hP, hK, hD0⟩ := hv
  have hx := B.exec
  have hb := B.bytes
  have hr := B.returns
  have hts := atoms_spec (ws := wT yX2_init cX2_init 5 none) B.pre
  have hT := wT_T hts
  have hown : s.vm.findClass RX2 = some m.cls := findClass_of_methodNamed B.named
  have hlocks := B.notSynchronized
  have hin : meth.name = "<init>" := (name_of_methodNamed B.named B.method).1
  subst hsz
  have hD := hD0.self (sz := s.heap.size)
  generalize hAe : va_A (shW  a u0 d0) s.heap.size = A at hD ⊢
  have hA : ∀ q : Nat, s.heap.size ≤ q → A q := fun q h => by rw [← hAe]; exact Or.inr h
  have hS : va_S A s.heap s.heap [] := va_S.rf
  have hl := lv_entry ([.ref a, .long u1, .long d1]) (n := 5) (Nat.le_of_ble_eq_true rfl)
  rw [lg_entry_eq]
  generalize (lg_sl ([.ref a, .long u1, .long d1]) ++ List.replicate (5 - (lg_sl ([.ref a, .long u1, .long d1])).length) Slot.unset).toArray = ls at hl ⊢
  have hl : lv_has ls 5 [(0, .ref a), (1, .long u1), (3, .long d1)] := hl
  refine lv_aload_n hx hb dX2_init_0 rfl (lv_at hl 0 rfl) ?_
  refine W.objInit hx hb hown (hT _ km_X2_1) (hT _ ki_obj) (hT _ kc_obj) rfl (by rw [hml]; exact hl.1) rfl dX2_init_1 (Nat.le_of_ble_eq_true rfl) (Nat.le_of_ble_eq_true rfl) ?_
  refine W.eq (g2 := F0 m 4 ls []) rfl ?_
  refine lv_aload_n hx hb dX2_init_4 rfl (lv_at hl 0 rfl) ?_
  refine lv_lload_n hx hb dX2_init_5 rfl (lv_at hl 1 rfl) ?_
  refine va_putF (D := (dC, dI)) (ci := 2) (v := .long u1) (ty := .long) (C := RX2) (T := TX2) (N := 2) hx hb hT hiX2 tyX2 tyX2_ok nmX2 hown hK hP hD hS 0 rfl rfl 0 (by decide) (hT _ kf_X2_7) (fun _ h9 => h9) rfl hin rfl (by decide +kernel) rfl rfl (Nat.le_of_ble_eq_true rfl) dX2_init_6 (fun H locs hP hD hS => ?_)
  have hP : va_P (dC, dI) vwCl (shW  a u1 d0) H := hP
  have hD : va_D A (shW  a u1 d0) := hD
  refine lv_aload_n hx hb dX2_init_9 rfl (lv_at hl 0 rfl) ?_
  refine lv_lload_n hx hb dX2_init_10 rfl (lv_at hl 2 rfl) ?_
  refine va_putF (D := (dC, dI)) (ci := 2) (v := .long d1) (ty := .long) (C := RX2) (T := TX2) (N := 2) hx hb hT hiX2 tyX2 tyX2_ok nmX2 hown hK hP hD hS 0 rfl rfl 1 (by decide) (hT _ kf_X2_13) (fun _ h9 => h9) rfl hin rfl (by decide +kernel) rfl rfl (Nat.le_of_ble_eq_true rfl) dX2_init_11 (fun H locs hP hD hS => ?_)
  have hP : va_P (dC, dI) vwCl (shW  a u1 d1) H := hP
  have hD : va_D A (shW  a u1 d1) := hD
  exact retM_v (S := Unit) (post := fun _ => True) (w2 := fun u => shW a u1 d1) () hx hb hr hlocks trivial hP hK hD hS dX2_init_14
set_option maxHeartbeats 4000000 in
set_option maxRecDepth 100000 in
theorem c_X2_commonDivisor (a b : Nat) (ha : a < 2 ^ 62) (h0 : 0 < b) (hbb : b < 2 ^ 48) : Met l yX2_commonDivisor (wT yX2_commonDivisor cX2_commonDivisor 11 (some .long)) ({ frames := 0, cells := 0, slots := 0, locals := 0 }) (pR (dC, dI) (ty3 cI cJ cZ) ([] : va_W) [.long (iL (a : Int)), .long (iL (b : Int))]) (vp_Sl (fun r9 => r9 = iL ((Nat.gcd a b : Nat) : Int))) 0 0 (fun _ => False) := by
  refine Met.ofW (cc := cX2_commonDivisor) (maxL := 11) (ret := (some .long)) (by decide) rfl ?_
  intro p e s m args below meth c s₁ B hml hv
  obtain ⟨rfl, hP, hK⟩ := hv
  have hx := B.exec
  have hb := B.bytes
  have hr := B.returns
  have hts := atoms_spec (ws := wT yX2_commonDivisor cX2_commonDivisor 11 (some .long)) B.pre
  have hT := wT_T hts
  have hown : s.vm.findClass RX2 = some m.cls := findClass_of_methodNamed B.named
  have hlocks := B.notSynchronized
  have hl := lv_entry ([.long (iL (a : Int)), .long (iL (b : Int))]) (n := 11) (Nat.le_of_ble_eq_true rfl)
  rw [lg_entry_eq]
  generalize (lg_sl ([.long (iL (a : Int)), .long (iL (b : Int))]) ++ List.replicate (11 - (lg_sl ([.long (iL (a : Int)), .long (iL (b : Int))])).length) Slot.unset).toArray = ls at hl ⊢
  have hl : lv_has ls 11 [(0, .long (iL (a : Int))), (2, .long (iL (b : Int)))] := hl
  refine lv_lload_n hx hb dX2_commonDivisor_0 rfl (lv_at hl 0 rfl) ?_
  refine lv_lstore (lv' := [(4, .long (iL (a : Int))), (0, .long (iL (a : Int))), (2, .long (iL (b : Int)))]) hx hb dX2_commonDivisor_1 hl (by decide) rfl (fun ls hl => ?_)
  refine lv_lload_n hx hb dX2_commonDivisor_3 rfl (lv_at hl 2 rfl) ?_
  refine lv_lstore (lv' := [(6, .long (iL (b : Int))), (4, .long (iL (a : Int))), (0, .long (iL (a : Int))), (2, .long (iL (b : Int)))]) hx hb dX2_commonDivisor_4 hl (by decide) rfl (fun ls hl => ?_)
  refine lv_iconst (v := 0) hx hb dX2_commonDivisor_6 (by decide) ?_
  refine lv_istore (lv' := [(8, .int 0), (6, .long (iL (b : Int))), (4, .long (iL (a : Int))), (0, .long (iL (a : Int))), (2, .long (iL (b : Int)))]) hx hb dX2_commonDivisor_7 hl (by decide) rfl (fun ls hl => ?_)
  refine loopR 100 (fun i ls => ∃ x y : Nat, lv_has ls 11 [(8, .int (nI i)), (6, .long (iL ((y : Nat) : Int))), (4, .long (iL ((x : Nat) : Int))), (0, .long (iL (a : Int))), (2, .long (iL (b : Int)))] ∧ (eu_I a b i x y)) (i0 := 0) (Nat.zero_le _) ⟨a, b, (lv_sub hl [0, 1, 2, 3, 4] rfl), eu_0 a b⟩ (fun i ls hi hl ih => ?_) (fun ls hl => ?_)
  · obtain ⟨x, y, hl, hf⟩ := hl
    have hmx : max a b < 2 ^ 62 := by omega
    have hxr : rng x := rng_nat (by have := hf.2.1; omega)
    have hyr : rng y := rng_nat (by have := hf.2.2.1; omega)
    refine lv_iload hx hb dX2_commonDivisor_9 (lv_at hl 0 rfl) ?_
    refine lv_bipush (v := 100) hx hb dX2_commonDivisor_11 (by decide) ?_
    refine lv_icmp_ge (tgt := 44) hx hb dX2_commonDivisor_13 (by decide) (fun h => absurd h (nI_ge (b := 100) hi (by decide))) (fun c_13 => ?_)
    refine lv_lload hx hb dX2_commonDivisor_16 (lv_at hl 1 rfl) ?_
    refine lv_lconst (v := iL 0) hx hb dX2_commonDivisor_18 rfl ?_
    refine lc_eq (tgt := 44) hx hb dX2_commonDivisor_19 dX2_commonDivisor_20 (by decide) (fun c_19 => ?_) (fun c_19 => ?_)
    · have hy : y = 0 := by have := (iL_eq hyr rng_0).mp c_19; omega
      subst hy
      have hg : x = Nat.gcd a b := eu_out hf
      refine lv_lload hx hb dX2_commonDivisor_44 (lv_at hl 2 rfl) ?_
      refine lv_lconst (v := iL 0) hx hb dX2_commonDivisor_46 rfl ?_
      refine lc_le (tgt := 56) hx hb dX2_commonDivisor_47 dX2_commonDivisor_48 (by decide) (fun h => absurd ((iL_le hxr rng_0).mp h) (by have := Nat.gcd_pos_of_pos_right a h0; omega)) (fun c_47 => ?_)
      refine lv_lload hx hb dX2_commonDivisor_51 (lv_at hl 2 rfl) ?_
      refine lv_goto (tgt := 57) hx hb dX2_commonDivisor_53 (by decide) ?_
      exact retR_l hx hb hr hlocks (by rw [hg]) dX2_commonDivisor_57
    · have hy0 : y ≠ 0 := fun h => c_19 (by rw [h]; rfl)
      refine lv_lload hx hb dX2_commonDivisor_23 (lv_at hl 2 rfl) ?_
      refine lv_lload hx hb dX2_commonDivisor_25 (lv_at hl 1 rfl) ?_
      refine li_rem hx hb (a := x) (b := y) hxr hyr hy0 dX2_commonDivisor_27 ?_
      refine lv_lstore (lv' := [(9, .long (iL ((x % y : Nat) : Int))), (8, .int (nI i)), (6, .long (iL ((y : Nat) : Int))), (4, .long (iL ((x : Nat) : Int))), (0, .long (iL (a : Int))), (2, .long (iL (b : Int)))]) hx hb dX2_commonDivisor_28 hl (by decide) rfl (fun ls hl => ?_)
      refine lv_lload hx hb dX2_commonDivisor_30 (lv_at hl 2 rfl) ?_
      refine lv_lstore (lv' := [(4, .long (iL ((y : Nat) : Int))), (9, .long (iL ((x % y : Nat) : Int))), (8, .int (nI i)), (6, .long (iL ((y : Nat) : Int))), (0, .long (iL (a : Int))), (2, .long (iL (b : Int)))]) hx hb dX2_commonDivisor_32 hl (by decide) rfl (fun ls hl => ?_)
      refine lv_lload hx hb dX2_commonDivisor_34 (lv_at hl 1 rfl) ?_
      refine lv_lstore (lv' := [(6, .long (iL ((x % y : Nat) : Int))), (4, .long (iL ((y : Nat) : Int))), (9, .long (iL ((x % y : Nat) : Int))), (8, .int (nI i)), (0, .long (iL (a : Int))), (2, .long (iL (b : Int)))]) hx hb dX2_commonDivisor_36 hl (by decide) rfl (fun ls hl => ?_)
      refine lv_iinc (v := (nI (i + 1))) (lv' := [(8, .int (nI (i + 1))), (6, .long (iL ((x % y : Nat) : Int))), (4, .long (iL ((y : Nat) : Int))), (9, .long (iL ((x % y : Nat) : Int))), (0, .long (iL (a : Int))), (2, .long (iL (b : Int)))]) hx hb dX2_commonDivisor_38 hl (k := 3) rfl (nI_1 i) (by decide) rfl (fun ls hl => ?_)
      refine lv_goto (tgt := 9) hx hb dX2_commonDivisor_41 (by decide) ?_
      exact ih _ ⟨y, (x % y), by exact lv_sub hl [0, 1, 2, 4, 5] rfl, eu_s hbb hf hy0⟩
  · obtain ⟨x, y, hl, hf⟩ := hl
    have hmx : max a b < 2 ^ 62 := by omega
    have hxr : rng x := rng_nat (by have := hf.2.1; omega)
    have hy : y = 0 := eu_end hf
    subst hy
    have hg : x = Nat.gcd a b := eu_out hf
    refine lv_iload hx hb dX2_commonDivisor_9 (lv_at hl 0 rfl) ?_
    refine lv_bipush (v := 100) hx hb dX2_commonDivisor_11 (by decide) ?_
    refine lv_icmp_ge (tgt := 44) hx hb dX2_commonDivisor_13 (by decide) (fun c_13 => ?_) (fun h => absurd h (by decide))
    refine lv_lload hx hb dX2_commonDivisor_44 (lv_at hl 2 rfl) ?_
    refine lv_lconst (v := iL 0) hx hb dX2_commonDivisor_46 rfl ?_
    refine lc_le (tgt := 56) hx hb dX2_commonDivisor_47 dX2_commonDivisor_48 (by decide) (fun h => absurd ((iL_le hxr rng_0).mp h) (by have := Nat.gcd_pos_of_pos_right a h0; omega)) (fun c_47 => ?_)
    refine lv_lload hx hb dX2_commonDivisor_51 (lv_at hl 2 rfl) ?_
    refine lv_goto (tgt := 57) hx hb dX2_commonDivisor_53 (by decide) ?_
    exact retR_l hx hb hr hlocks (by rw [hg]) dX2_commonDivisor_57
set_option maxHeartbeats 4000000 in
set_option maxRecDepth 100000 in
theorem c_X2_of (sz : Nat) (a b : Int) (ha : rng a) (h0 : 0 ≤ b) (hbb : b < 2 ^ 48) : Met l yX2_of (wT yX2_of cX2_of 6 (some (.object "SharedFault$Share"))) ({ frames := 2, cells := 1, slots := 2, locals := 36 }) (pN (dC, dI) (ty3 cI cJ cZ) ([] : va_W) [.long (iL a), .long (iL b)] sz) (va_Qr (S := Unit) (fun _ => True) (fun u b9 t9 => bM (dC, dI) (ty3 cI cJ cZ) (fun q : Nat => sz ≤ q) (shQ b9 (Rat.divInt a b)) t9) (fun q : Nat => sz ≤ q)) 1 2 (fun q : Nat => sz ≤ q) := by
  refine Met.ofW (cc := cX2_of) (maxL := 6) (ret := (some (.object "SharedFault$Share"))) (by decide) rfl ?_
  intro p e s m args below meth c s₁ B hml hv
  obtain ⟨rfl, hsz, hP0, hK⟩ := hv
  have hx := B.exec
  have hb := B.bytes
  have hr := B.returns
  have hts := atoms_spec (ws := wT yX2_of cX2_of 6 (some (.object "SharedFault$Share"))) B.pre
  have hT := wT_T hts
  have hown : s.vm.findClass RX2 = some m.cls := findClass_of_methodNamed B.named
  have hlocks := B.notSynchronized
  subst hsz
  have hA : ∀ q : Nat, s.heap.size ≤ q → (fun q : Nat => s.heap.size ≤ q) q := fun q h => h
  have hS : va_S (fun q : Nat => s.heap.size ≤ q) s.heap s.heap [] := va_S.rf
  have hP : va_P (dC, dI) vwCl [] s.heap := nilP
  have hD : va_D (fun q : Nat => s.heap.size ≤ q) [] := nilD
  have hl := lv_entry ([.long (iL a), .long (iL b)]) (n := 6) (Nat.le_of_ble_eq_true rfl)
  rw [lg_entry_eq]
  generalize (lg_sl ([.long (iL a), .long (iL b)]) ++ List.replicate (6 - (lg_sl ([.long (iL a), .long (iL b)])).length) Slot.unset).toArray = ls at hl ⊢
  have hl : lv_has ls 6 [(0, .long (iL a)), (2, .long (iL b))] := hl
  refine lv_lload_n hx hb dX2_of_0 rfl (lv_at hl 1 rfl) ?_
  refine lv_lconst (v := iL 0) hx hb dX2_of_1 rfl ?_
  refine lc_gt (tgt := 16) hx hb dX2_of_2 dX2_of_3 (by decide) (fun c_2 => ?_) (fun c_2 => ?_)
  · have hb0 : 0 < b := (iL_lt rng_0 (rng_of h0 hbb)).mp c_2
    refine lv_lload_n hx hb dX2_of_16 rfl (lv_at hl 0 rfl) ?_
    refine va_mabs_long hx hb (by rw [hml]; exact hl.1.symm) hown (hT _ km_X2_19) (hT _ kt_absl) (hT _ kn_J9) (hT _ kc_absl) (Nat.le_of_ble_eq_true rfl) (Nat.le_of_ble_eq_true rfl) (Nat.le_of_ble_eq_true rfl) (Nat.le_of_ble_eq_true rfl) dX2_of_17 ?_
    refine topl_eq (y := (iL (a.natAbs : Int))) (iL_abs ha) ?_
    refine lv_lload_n hx hb dX2_of_20 rfl (lv_at hl 1 rfl) ?_
    refine topl_eq (y := (iL (b.natAbs : Int))) (by congr 1; omega) ?_
    refine vp_callSl (rRS (As := [.long (iL (a.natAbs : Int)), .long (iL (b.natAbs : Int))]) (rest := []) ⟨hx, hb, hml, hown, hT⟩ (c_X2_commonDivisor (l := l) a.natAbs b.natAbs (by unfold rng at ha; omega) (by omega) (by omega)) (cwTS 2 hT kc_X2_commonDivisor km_X2_25 kt_X2_commonDivisor kn_X2 rfl rfl md_X2_commonDivisor ⟨Nat.le_of_ble_eq_true rfl, Nat.le_of_ble_eq_true rfl⟩) nilP hK  rfl hl.1 rfl (Nat.le_of_ble_eq_true rfl) dX2_of_21 ⟨Nat.le_of_ble_eq_true rfl, Nat.le_of_ble_eq_true rfl⟩) (fun r_21 hw_21 => ?_)
    have hg1 := gcd_pos_r (a := a.natAbs) hb0
    have hg2 := gcd_le_r (a := a.natAbs) hb0
    have hgr : rng ((Nat.gcd a.natAbs b.natAbs : Nat) : Int) := rng_of (by omega) (by omega)
    have hg0 : ((Nat.gcd a.natAbs b.natAbs : Nat) : Int) ≠ 0 := by omega
    subst hw_21
    refine lv_lstore (lv' := [(4, .long (iL ((Nat.gcd a.natAbs b.natAbs : Nat) : Int))), (0, .long (iL a)), (2, .long (iL b))]) hx hb dX2_of_24 hl (by decide) rfl (fun ls hl => ?_)
    refine va_new (ci := 2) (fs := [.long 0, .long 0]) (C := RX2) (T := TX2) (N := 2) hx hb hT hiX2 tyX2 tyX2_ok hown (hT _ kcl_X2_8) (hT _ kin_X2) (hT _ kn_X2) hK hP hD hS hA rfl (fun j hj => by rcases (show j = 0 ∨ j = 1 by omega) with rfl | rfl <;> rfl) (Nat.le_of_ble_eq_true rfl) (Nat.le_of_ble_eq_true rfl) dX2_of_26 (fun q26 H hP hD hS => ?_)
    have hP : va_P (dC, dI) vwCl (shW  q26 0 0) H := hP
    have hD : va_D (fun q : Nat => s.heap.size ≤ q) (shW  q26 0 0) := hD
    refine lv_dup hx hb dX2_of_29 rfl ?_
    refine lv_lload_n hx hb dX2_of_30 rfl (lv_at hl 1 rfl) ?_
    refine lv_lload hx hb dX2_of_31 (lv_at hl 0 rfl) ?_
    refine li_div hx hb (a := a) (b := ((Nat.gcd a.natAbs b.natAbs : Nat) : Int)) ha hgr hg0 dX2_of_33 ?_
    refine topl_eq (y := (iL (Rat.divInt a b).num)) (by rw [rq_num a b hb0]) ?_
    refine lv_lload_n hx hb dX2_of_34 rfl (lv_at hl 2 rfl) ?_
    refine lv_lload hx hb dX2_of_35 (lv_at hl 0 rfl) ?_
    refine li_div hx hb (a := b) (b := ((Nat.gcd a.natAbs b.natAbs : Nat) : Int)) (rng_of h0 hbb) hgr hg0 dX2_of_37 ?_
    refine topl_eq (y := (iL ((Rat.divInt a b).den : Int))) (by rw [rq_den a b hb0]) ?_
    refine fM_v (wc := shW  q26 0 0) (wr := []) (rMI (wc := shW  q26 0 0) (As := [.long (iL (Rat.divInt a b).num), .long (iL ((Rat.divInt a b).den : Int))]) (rest := [.ref q26]) ⟨hx, hb, hml, hown, hT⟩ (c_X2_init (l := l) H.size (iL (Rat.divInt a b).num) (iL ((Rat.divInt a b).den : Int))) (cwTI 2 hT kc_X2_init km_X2_16 ki_X2_init kn_X2 rfl rfl rfl md_X2_init ⟨Nat.le_of_ble_eq_true rfl, Nat.le_of_ble_eq_true rfl⟩) hP hD hK  rfl hl.1 rfl (Nat.le_of_ble_eq_true rfl) dX2_of_38 ⟨Nat.le_of_ble_eq_true rfl, Nat.le_of_ble_eq_true rfl⟩) hP hD hS hA (fun u_38 H locs hw_38 hP hD hS => ?_)
    have hP : va_P (dC, dI) vwCl (shW  q26 (iL (Rat.divInt a b).num) (iL ((Rat.divInt a b).den : Int))) H := hP
    have hD : va_D (fun q : Nat => s.heap.size ≤ q) (shW  q26 (iL (Rat.divInt a b).num) (iL ((Rat.divInt a b).den : Int))) := hD
    exact retM_r (S := Unit) (post := fun _ => True) (w2 := fun u b9 => shQ b9 (Rat.divInt a b)) () hx hb hr hlocks trivial hP hK hD hS dX2_of_41
  · have hbz : b = 0 := by have := mt (iL_lt rng_0 (rng_of h0 hbb)).mpr c_2; omega
    refine va_new (ci := 2) (fs := [.long 0, .long 0]) (C := RX2) (T := TX2) (N := 2) hx hb hT hiX2 tyX2 tyX2_ok hown (hT _ kcl_X2_8) (hT _ kin_X2) (hT _ kn_X2) hK hP hD hS hA rfl (fun j hj => by rcases (show j = 0 ∨ j = 1 by omega) with rfl | rfl <;> rfl) (Nat.le_of_ble_eq_true rfl) (Nat.le_of_ble_eq_true rfl) dX2_of_6 (fun q6 H hP hD hS => ?_)
    have hP : va_P (dC, dI) vwCl (shW  q6 0 0) H := hP
    have hD : va_D (fun q : Nat => s.heap.size ≤ q) (shW  q6 0 0) := hD
    refine lv_dup hx hb dX2_of_9 rfl ?_
    refine lv_lconst (v := iL 0) hx hb dX2_of_10 rfl ?_
    refine lv_lconst (v := iL 1) hx hb dX2_of_11 rfl ?_
    refine fM_v (wc := shW  q6 0 0) (wr := []) (rMI (wc := shW  q6 0 0) (As := [.long (iL 0), .long (iL 1)]) (rest := [.ref q6]) ⟨hx, hb, hml, hown, hT⟩ (c_X2_init (l := l) H.size (iL 0) (iL 1)) (cwTI 2 hT kc_X2_init km_X2_16 ki_X2_init kn_X2 rfl rfl rfl md_X2_init ⟨Nat.le_of_ble_eq_true rfl, Nat.le_of_ble_eq_true rfl⟩) hP hD hK  rfl hl.1 rfl (Nat.le_of_ble_eq_true rfl) dX2_of_12 ⟨Nat.le_of_ble_eq_true rfl, Nat.le_of_ble_eq_true rfl⟩) hP hD hS hA (fun u_12 H locs hw_12 hP hD hS => ?_)
    have hP : va_P (dC, dI) vwCl (shW  q6 (iL 0) (iL 1)) H := hP
    have hD : va_D (fun q : Nat => s.heap.size ≤ q) (shW  q6 (iL 0) (iL 1)) := hD
    exact retM_r (S := Unit) (post := fun _ => True) (w2 := fun u b9 => shQ b9 (Rat.divInt a b)) () hx hb hr hlocks trivial (by show va_P (dC, dI) vwCl (shQ q6 (Rat.divInt a b)) H; rw [hbz, Rat.divInt_zero]; exact hP) hK (by show va_D _ (shQ q6 (Rat.divInt a b)); rw [hbz, Rat.divInt_zero]; exact hD) hS dX2_of_15
set_option maxHeartbeats 4000000 in
set_option maxRecDepth 100000 in
theorem c_X2_times (sz : Nat) {a : Nat} {r : Rat} (f : Int) (hn : rng (r.num * f)) (hd : (r.den : Int) < 2 ^ 48) : Met l yX2_times (wT yX2_times cX2_times 3 (some (.object "SharedFault$Share"))) ({ frames := 3, cells := 1, slots := 2, locals := 61 }) (pN (dC, dI) (ty3 cI cJ cZ) (shQ  a r) [.ref a, .long (iL f)] sz) (va_Qr (S := Unit) (fun _ => True) (fun u b9 t9 => bM (dC, dI) (ty3 cI cJ cZ) (fun q : Nat => sz ≤ q) (shQ b9 (r * (iQ f))) t9) (fun q : Nat => sz ≤ q)) 1 2 (fun q : Nat => sz ≤ q) := by
  refine Met.ofW (cc := cX2_times) (maxL := 3) (ret := (some (.object "SharedFault$Share"))) (by decide) rfl ?_
  intro p e s m args below meth c s₁ B hml hv
  obtain ⟨rfl, hsz, hP0, hK⟩ := hv
  have hx := B.exec
  have hb := B.bytes
  have hr := B.returns
  have hts := atoms_spec (ws := wT yX2_times cX2_times 3 (some (.object "SharedFault$Share"))) B.pre
  have hT := wT_T hts
  have hown : s.vm.findClass RX2 = some m.cls := findClass_of_methodNamed B.named
  have hlocks := B.notSynchronized
  subst hsz
  have hA : ∀ q : Nat, s.heap.size ≤ q → (fun q : Nat => s.heap.size ≤ q) q := fun q h => h
  have hS : va_S (fun q : Nat => s.heap.size ≤ q) s.heap s.heap [] := va_S.rf
  have hP : va_P (dC, dI) vwCl [] s.heap := nilP
  have hD : va_D (fun q : Nat => s.heap.size ≤ q) [] := nilD
  have hl := lv_entry ([.ref a, .long (iL f)]) (n := 3) (Nat.le_of_ble_eq_true rfl)
  rw [lg_entry_eq]
  generalize (lg_sl ([.ref a, .long (iL f)]) ++ List.replicate (3 - (lg_sl ([.ref a, .long (iL f)])).length) Slot.unset).toArray = ls at hl ⊢
  have hl : lv_has ls 3 [(0, .ref a), (1, .long (iL f))] := hl
  refine lv_aload_n hx hb dX2_times_0 rfl (lv_at hl 0 rfl) ?_
  refine va_get (D := (dC, dI)) (ci := 2) (v := .long (iL (r).num)) (C := RX2) (T := TX2) (N := 2) hx hb hT hiX2 hown hK (keepP hP0 hS) 0 rfl rfl 0 (by decide) (hT _ kf_X2_7) (fun _ h9 => h9) rfl dX2_times_1 ?_
  refine lv_lload_n hx hb dX2_times_4 rfl (lv_at hl 1 rfl) ?_
  refine li_mul hx hb (a := ((r).num)) (b := f) dX2_times_5 ?_
  refine lv_aload_n hx hb dX2_times_6 rfl (lv_at hl 0 rfl) ?_
  refine va_get (D := (dC, dI)) (ci := 2) (v := .long (iL ((r).den : Int))) (C := RX2) (T := TX2) (N := 2) hx hb hT hiX2 hown hK (keepP hP0 hS) 0 rfl rfl 1 (by decide) (hT _ kf_X2_13) (fun _ h9 => h9) rfl dX2_times_7 ?_
  refine fN_r (rNS (As := [.long (iL (((r).num) * f)), .long (iL ((r).den : Int))]) (rest := []) ⟨hx, hb, hml, hown, hT⟩ (c_X2_of (l := l) s.heap.size (((r).num) * f) ((r).den : Int) hn (by omega) hd) (cwTS 2 hT kc_X2_of km_X2_29 kt_X2_of kn_X2 rfl rfl md_X2_of ⟨Nat.le_of_ble_eq_true rfl, Nat.le_of_ble_eq_true rfl⟩) nilP hK  rfl hl.1 rfl (Nat.le_of_ble_eq_true rfl) dX2_times_10 ⟨Nat.le_of_ble_eq_true rfl, Nat.le_of_ble_eq_true rfl⟩) hP hD hS hA (fun u_10 b_10 H locs hw_10 hP hD hS => ?_)
  have hP : va_P (dC, dI) vwCl (shQ  b_10 (Rat.divInt (((r).num) * f) ((r).den : Int))) H := hP
  have hD : va_D (fun q : Nat => s.heap.size ≤ q) (shQ  b_10 (Rat.divInt (((r).num) * f) ((r).den : Int))) := hD
  rw [show (Rat.divInt (((r).num) * f) ((r).den : Int)) = (r * (iQ f)) from t_mul r f] at hP hD
  have hP : va_P (dC, dI) vwCl (shQ  b_10 (r * (iQ f))) H := hP
  have hD : va_D (fun q : Nat => s.heap.size ≤ q) (shQ  b_10 (r * (iQ f))) := hD
  exact retM_r (S := Unit) (post := fun _ => True) (w2 := fun u b9 => shQ b9 (r * (iQ f))) () hx hb hr hlocks trivial hP hK hD hS dX2_times_13
set_option maxHeartbeats 4000000 in
set_option maxRecDepth 100000 in
theorem c_X2_plusWhole (sz : Nat) {a : Nat} {r : Rat} (f : Int) (hn : rng (r.num + f * (r.den : Int))) (hd : (r.den : Int) < 2 ^ 48) : Met l yX2_plusWhole (wT yX2_plusWhole cX2_plusWhole 3 (some (.object "SharedFault$Share"))) ({ frames := 3, cells := 1, slots := 2, locals := 61 }) (pN (dC, dI) (ty3 cI cJ cZ) (shQ  a r) [.ref a, .long (iL f)] sz) (va_Qr (S := Unit) (fun _ => True) (fun u b9 t9 => bM (dC, dI) (ty3 cI cJ cZ) (fun q : Nat => sz ≤ q) (shQ b9 (r + (iQ f))) t9) (fun q : Nat => sz ≤ q)) 1 2 (fun q : Nat => sz ≤ q) := by
  refine Met.ofW (cc := cX2_plusWhole) (maxL := 3) (ret := (some (.object "SharedFault$Share"))) (by decide) rfl ?_
  intro p e s m args below meth c s₁ B hml hv
  obtain ⟨rfl, hsz, hP0, hK⟩ := hv
  have hx := B.exec
  have hb := B.bytes
  have hr := B.returns
  have hts := atoms_spec (ws := wT yX2_plusWhole cX2_plusWhole 3 (some (.object "SharedFault$Share"))) B.pre
  have hT := wT_T hts
  have hown : s.vm.findClass RX2 = some m.cls := findClass_of_methodNamed B.named
  have hlocks := B.notSynchronized
  subst hsz
  have hA : ∀ q : Nat, s.heap.size ≤ q → (fun q : Nat => s.heap.size ≤ q) q := fun q h => h
  have hS : va_S (fun q : Nat => s.heap.size ≤ q) s.heap s.heap [] := va_S.rf
  have hP : va_P (dC, dI) vwCl [] s.heap := nilP
  have hD : va_D (fun q : Nat => s.heap.size ≤ q) [] := nilD
  have hl := lv_entry ([.ref a, .long (iL f)]) (n := 3) (Nat.le_of_ble_eq_true rfl)
  rw [lg_entry_eq]
  generalize (lg_sl ([.ref a, .long (iL f)]) ++ List.replicate (3 - (lg_sl ([.ref a, .long (iL f)])).length) Slot.unset).toArray = ls at hl ⊢
  have hl : lv_has ls 3 [(0, .ref a), (1, .long (iL f))] := hl
  refine lv_aload_n hx hb dX2_plusWhole_0 rfl (lv_at hl 0 rfl) ?_
  refine va_get (D := (dC, dI)) (ci := 2) (v := .long (iL (r).num)) (C := RX2) (T := TX2) (N := 2) hx hb hT hiX2 hown hK (keepP hP0 hS) 0 rfl rfl 0 (by decide) (hT _ kf_X2_7) (fun _ h9 => h9) rfl dX2_plusWhole_1 ?_
  refine lv_lload_n hx hb dX2_plusWhole_4 rfl (lv_at hl 1 rfl) ?_
  refine lv_aload_n hx hb dX2_plusWhole_5 rfl (lv_at hl 0 rfl) ?_
  refine va_get (D := (dC, dI)) (ci := 2) (v := .long (iL ((r).den : Int))) (C := RX2) (T := TX2) (N := 2) hx hb hT hiX2 hown hK (keepP hP0 hS) 0 rfl rfl 1 (by decide) (hT _ kf_X2_13) (fun _ h9 => h9) rfl dX2_plusWhole_6 ?_
  refine li_mul hx hb (a := f) (b := ((r).den : Int)) dX2_plusWhole_9 ?_
  refine li_add hx hb (a := ((r).num)) (b := (f * ((r).den : Int))) dX2_plusWhole_10 ?_
  refine lv_aload_n hx hb dX2_plusWhole_11 rfl (lv_at hl 0 rfl) ?_
  refine va_get (D := (dC, dI)) (ci := 2) (v := .long (iL ((r).den : Int))) (C := RX2) (T := TX2) (N := 2) hx hb hT hiX2 hown hK (keepP hP0 hS) 0 rfl rfl 1 (by decide) (hT _ kf_X2_13) (fun _ h9 => h9) rfl dX2_plusWhole_12 ?_
  refine fN_r (rNS (As := [.long (iL (((r).num) + (f * ((r).den : Int)))), .long (iL ((r).den : Int))]) (rest := []) ⟨hx, hb, hml, hown, hT⟩ (c_X2_of (l := l) s.heap.size (((r).num) + (f * ((r).den : Int))) ((r).den : Int) hn (by omega) hd) (cwTS 2 hT kc_X2_of km_X2_29 kt_X2_of kn_X2 rfl rfl md_X2_of ⟨Nat.le_of_ble_eq_true rfl, Nat.le_of_ble_eq_true rfl⟩) nilP hK  rfl hl.1 rfl (Nat.le_of_ble_eq_true rfl) dX2_plusWhole_15 ⟨Nat.le_of_ble_eq_true rfl, Nat.le_of_ble_eq_true rfl⟩) hP hD hS hA (fun u_15 b_15 H locs hw_15 hP hD hS => ?_)
  have hP : va_P (dC, dI) vwCl (shQ  b_15 (Rat.divInt (((r).num) + (f * ((r).den : Int))) ((r).den : Int))) H := hP
  have hD : va_D (fun q : Nat => s.heap.size ≤ q) (shQ  b_15 (Rat.divInt (((r).num) + (f * ((r).den : Int))) ((r).den : Int))) := hD
  rw [show (Rat.divInt (((r).num) + (f * ((r).den : Int))) ((r).den : Int)) = (r + (iQ f)) from t_add r f] at hP hD
  have hP : va_P (dC, dI) vwCl (shQ  b_15 (r + (iQ f))) H := hP
  have hD : va_D (fun q : Nat => s.heap.size ≤ q) (shQ  b_15 (r + (iQ f))) := hD
  exact retM_r (S := Unit) (post := fun _ => True) (w2 := fun u b9 => shQ b9 (r + (iQ f))) () hx hb hr hlocks trivial hP hK hD hS dX2_plusWhole_18
set_option maxHeartbeats 4000000 in
set_option maxRecDepth 100000 in
theorem c_X2_minus (sz : Nat) {a a2 : Nat} {r t : Rat} (D V U : Nat) (hr2 : bd r D V) (ht2 : bd t D U) (hD1 : 0 < D) (hD2 : D < 2 ^ 48) (hV : (V + U) * D < 2 ^ 62) : Met l yX2_minus (wT yX2_minus cX2_minus 8 (some (.object "SharedFault$Share"))) ({ frames := 3, cells := 1, slots := 2, locals := 61 }) (pN (dC, dI) (ty3 cI cJ cZ) ((shQ  a r) ++ (shQ  a2 t)) [.ref a, .ref a2] sz) (va_Qr (S := Unit) (fun _ => True) (fun u b9 t9 => bM (dC, dI) (ty3 cI cJ cZ) (fun q : Nat => sz ≤ q) (shQ b9 (r - t)) t9) (fun q : Nat => sz ≤ q)) 1 2 (fun q : Nat => sz ≤ q) := by
  refine Met.ofW (cc := cX2_minus) (maxL := 8) (ret := (some (.object "SharedFault$Share"))) (by decide) rfl ?_
  intro p e s m args below meth c s₁ B hml hv
  obtain ⟨rfl, hsz, hP0, hK⟩ := hv
  have hx := B.exec
  have hb := B.bytes
  have hr := B.returns
  have hts := atoms_spec (ws := wT yX2_minus cX2_minus 8 (some (.object "SharedFault$Share"))) B.pre
  have hT := wT_T hts
  have hown : s.vm.findClass RX2 = some m.cls := findClass_of_methodNamed B.named
  have hlocks := B.notSynchronized
  subst hsz
  have hA : ∀ q : Nat, s.heap.size ≤ q → (fun q : Nat => s.heap.size ≤ q) q := fun q h => h
  have hS : va_S (fun q : Nat => s.heap.size ≤ q) s.heap s.heap [] := va_S.rf
  have hP : va_P (dC, dI) vwCl [] s.heap := nilP
  have hD : va_D (fun q : Nat => s.heap.size ≤ q) [] := nilD
  have hl := lv_entry ([.ref a, .ref a2]) (n := 8) (Nat.le_of_ble_eq_true rfl)
  rw [lg_entry_eq]
  generalize (lg_sl ([.ref a, .ref a2]) ++ List.replicate (8 - (lg_sl ([.ref a, .ref a2])).length) Slot.unset).toArray = ls at hl ⊢
  have hl : lv_has ls 8 [(0, .ref a), (1, .ref a2)] := hl
  have hr3 := bd_nd hD1 hr2
  have ht3 := bd_nd hD1 ht2
  have hr4 := bd_den_le hD1 hr2
  have ht4 := bd_den_le hD1 ht2
  have hr5 := r.den_pos
  have ht5 := t.den_pos
  have hg1 := Nat.gcd_pos_of_pos_left t.den hr5
  have hg2 := Nat.gcd_le_left t.den hr5
  have hl1 := lcm_le hD1 hr3.1 ht3.1
  have hc1 := comb_bd hr5 hD1 hr3.1 ht3.1 hr3.2 ht3.2
  have hgr : rng ((Nat.gcd r.den t.den : Nat) : Int) := rng_of (by omega) (by omega)
  have hg0 : ((Nat.gcd r.den t.den : Nat) : Int) ≠ 0 := by omega
  have hvd : V * D + U * D < 2 ^ 62 := by rw [← Nat.add_mul]; exact hV
  refine lv_aload_n hx hb dX2_minus_0 rfl (lv_at hl 0 rfl) ?_
  refine va_get (D := (dC, dI)) (ci := 2) (v := .long (iL ((r).den : Int))) (C := RX2) (T := TX2) (N := 2) hx hb hT hiX2 hown hK (keepP hP0 hS) 0 rfl rfl 1 (by decide) (hT _ kf_X2_13) (fun _ h9 => h9) rfl dX2_minus_1 ?_
  refine lv_aload_n hx hb dX2_minus_4 rfl (lv_at hl 1 rfl) ?_
  refine va_get (D := (dC, dI)) (ci := 2) (v := .long (iL ((t).den : Int))) (C := RX2) (T := TX2) (N := 2) hx hb hT hiX2 hown hK (keepP hP0 hS) 1 rfl rfl 1 (by decide) (hT _ kf_X2_13) (fun _ h9 => h9) rfl dX2_minus_5 ?_
  refine vp_callSl (rRS (As := [.long (iL ((r).den : Int)), .long (iL ((t).den : Int))]) (rest := []) ⟨hx, hb, hml, hown, hT⟩ (c_X2_commonDivisor (l := l) ((r).den) ((t).den) (by omega) ht5 (by omega)) (cwTS 2 hT kc_X2_commonDivisor km_X2_25 kt_X2_commonDivisor kn_X2 rfl rfl md_X2_commonDivisor ⟨Nat.le_of_ble_eq_true rfl, Nat.le_of_ble_eq_true rfl⟩) nilP hK  rfl hl.1 rfl (Nat.le_of_ble_eq_true rfl) dX2_minus_8 ⟨Nat.le_of_ble_eq_true rfl, Nat.le_of_ble_eq_true rfl⟩) (fun r_8 hw_8 => ?_)
  subst hw_8
  refine lv_lstore_n (lv' := [(2, .long (iL ((Nat.gcd ((r).den) ((t).den) : Nat) : Int))), (0, .ref a), (1, .ref a2)]) hx hb dX2_minus_11 rfl hl (by decide) rfl (fun ls hl => ?_)
  refine lv_aload_n hx hb dX2_minus_12 rfl (lv_at hl 1 rfl) ?_
  refine va_get (D := (dC, dI)) (ci := 2) (v := .long (iL ((r).den : Int))) (C := RX2) (T := TX2) (N := 2) hx hb hT hiX2 hown hK (keepP hP0 hS) 0 rfl rfl 1 (by decide) (hT _ kf_X2_13) (fun _ h9 => h9) rfl dX2_minus_13 ?_
  refine lv_lload_n hx hb dX2_minus_16 rfl (lv_at hl 0 rfl) ?_
  refine li_div hx hb (a := ((r).den : Int)) (b := ((Nat.gcd ((r).den) ((t).den) : Nat) : Int)) (rng_of (by omega) (by omega)) hgr hg0 dX2_minus_17 ?_
  refine topl_eq (y := (iL ((r.den / Nat.gcd r.den t.den : Nat) : Int))) (by rw [nat_tdiv]) ?_
  refine lv_lstore (lv' := [(4, .long (iL ((r.den / Nat.gcd r.den t.den : Nat) : Int))), (2, .long (iL ((Nat.gcd ((r).den) ((t).den) : Nat) : Int))), (0, .ref a), (1, .ref a2)]) hx hb dX2_minus_18 hl (by decide) rfl (fun ls hl => ?_)
  refine lv_aload_n hx hb dX2_minus_20 rfl (lv_at hl 3 rfl) ?_
  refine va_get (D := (dC, dI)) (ci := 2) (v := .long (iL ((t).den : Int))) (C := RX2) (T := TX2) (N := 2) hx hb hT hiX2 hown hK (keepP hP0 hS) 1 rfl rfl 1 (by decide) (hT _ kf_X2_13) (fun _ h9 => h9) rfl dX2_minus_21 ?_
  refine lv_lload_n hx hb dX2_minus_24 rfl (lv_at hl 1 rfl) ?_
  refine li_div hx hb (a := ((t).den : Int)) (b := ((Nat.gcd ((r).den) ((t).den) : Nat) : Int)) (rng_of (by omega) (by omega)) hgr hg0 dX2_minus_25 ?_
  refine topl_eq (y := (iL ((t.den / Nat.gcd r.den t.den : Nat) : Int))) (by rw [nat_tdiv]) ?_
  refine lv_lstore (lv' := [(6, .long (iL ((t.den / Nat.gcd r.den t.den : Nat) : Int))), (4, .long (iL ((r.den / Nat.gcd r.den t.den : Nat) : Int))), (2, .long (iL ((Nat.gcd ((r).den) ((t).den) : Nat) : Int))), (0, .ref a), (1, .ref a2)]) hx hb dX2_minus_26 hl (by decide) rfl (fun ls hl => ?_)
  refine lv_aload_n hx hb dX2_minus_28 rfl (lv_at hl 3 rfl) ?_
  refine va_get (D := (dC, dI)) (ci := 2) (v := .long (iL (r).num)) (C := RX2) (T := TX2) (N := 2) hx hb hT hiX2 hown hK (keepP hP0 hS) 0 rfl rfl 0 (by decide) (hT _ kf_X2_7) (fun _ h9 => h9) rfl dX2_minus_29 ?_
  refine lv_lload hx hb dX2_minus_32 (lv_at hl 0 rfl) ?_
  refine li_mul hx hb (a := ((r).num)) (b := ((t.den / Nat.gcd r.den t.den : Nat) : Int)) dX2_minus_34 ?_
  refine lv_aload_n hx hb dX2_minus_35 rfl (lv_at hl 4 rfl) ?_
  refine va_get (D := (dC, dI)) (ci := 2) (v := .long (iL (t).num)) (C := RX2) (T := TX2) (N := 2) hx hb hT hiX2 hown hK (keepP hP0 hS) 1 rfl rfl 0 (by decide) (hT _ kf_X2_7) (fun _ h9 => h9) rfl dX2_minus_36 ?_
  refine lv_lload hx hb dX2_minus_39 (lv_at hl 1 rfl) ?_
  refine li_mul hx hb (a := ((t).num)) (b := ((r.den / Nat.gcd r.den t.den : Nat) : Int)) dX2_minus_41 ?_
  refine li_sub hx hb (a := (((r).num) * ((t.den / Nat.gcd r.den t.den : Nat) : Int))) (b := (((t).num) * ((r.den / Nat.gcd r.den t.den : Nat) : Int))) dX2_minus_42 ?_
  refine lv_aload_n hx hb dX2_minus_43 rfl (lv_at hl 3 rfl) ?_
  refine va_get (D := (dC, dI)) (ci := 2) (v := .long (iL ((r).den : Int))) (C := RX2) (T := TX2) (N := 2) hx hb hT hiX2 hown hK (keepP hP0 hS) 0 rfl rfl 1 (by decide) (hT _ kf_X2_13) (fun _ h9 => h9) rfl dX2_minus_44 ?_
  refine lv_lload hx hb dX2_minus_47 (lv_at hl 0 rfl) ?_
  refine li_mul hx hb (a := ((r).den : Int)) (b := ((t.den / Nat.gcd r.den t.den : Nat) : Int)) dX2_minus_49 ?_
  refine fN_r (rNS (As := [.long (iL ((((r).num) * ((t.den / Nat.gcd r.den t.den : Nat) : Int)) - (((t).num) * ((r.den / Nat.gcd r.den t.den : Nat) : Int)))), .long (iL (((r).den : Int) * ((t.den / Nat.gcd r.den t.den : Nat) : Int)))]) (rest := []) ⟨hx, hb, hml, hown, hT⟩ (c_X2_of (l := l) s.heap.size ((((r).num) * ((t.den / Nat.gcd r.den t.den : Nat) : Int)) - (((t).num) * ((r.den / Nat.gcd r.den t.den : Nat) : Int))) (((r).den : Int) * ((t.den / Nat.gcd r.den t.den : Nat) : Int)) (by unfold rng; omega) (by rw [← Int.natCast_mul]; omega) (by rw [← Int.natCast_mul]; omega)) (cwTS 2 hT kc_X2_of km_X2_29 kt_X2_of kn_X2 rfl rfl md_X2_of ⟨Nat.le_of_ble_eq_true rfl, Nat.le_of_ble_eq_true rfl⟩) nilP hK  rfl hl.1 rfl (Nat.le_of_ble_eq_true rfl) dX2_minus_50 ⟨Nat.le_of_ble_eq_true rfl, Nat.le_of_ble_eq_true rfl⟩) hP hD hS hA (fun u_50 b_50 H locs hw_50 hP hD hS => ?_)
  have hP : va_P (dC, dI) vwCl (shQ  b_50 (Rat.divInt ((((r).num) * ((t.den / Nat.gcd r.den t.den : Nat) : Int)) - (((t).num) * ((r.den / Nat.gcd r.den t.den : Nat) : Int))) (((r).den : Int) * ((t.den / Nat.gcd r.den t.den : Nat) : Int)))) H := hP
  have hD : va_D (fun q : Nat => s.heap.size ≤ q) (shQ  b_50 (Rat.divInt ((((r).num) * ((t.den / Nat.gcd r.den t.den : Nat) : Int)) - (((t).num) * ((r.den / Nat.gcd r.den t.den : Nat) : Int))) (((r).den : Int) * ((t.den / Nat.gcd r.den t.den : Nat) : Int)))) := hD
  rw [show (Rat.divInt ((((r).num) * ((t.den / Nat.gcd r.den t.den : Nat) : Int)) - (((t).num) * ((r.den / Nat.gcd r.den t.den : Nat) : Int))) (((r).den : Int) * ((t.den / Nat.gcd r.den t.den : Nat) : Int))) = (r - t) from t_sub r t] at hP hD
  have hP : va_P (dC, dI) vwCl (shQ  b_50 (r - t)) H := hP
  have hD : va_D (fun q : Nat => s.heap.size ≤ q) (shQ  b_50 (r - t)) := hD
  exact retM_r (S := Unit) (post := fun _ => True) (w2 := fun u b9 => shQ b9 (r - t)) () hx hb hr hlocks trivial hP hK hD hS dX2_minus_53
set_option maxHeartbeats 4000000 in
set_option maxRecDepth 100000 in
theorem c_X2_told {a : Nat} {r : Rat} (wh : Int32) : Met l yX2_told (wT yX2_told cX2_told 2 (some .long)) ({ frames := 0, cells := 0, slots := 0, locals := 0 }) (pR (dC, dI) (ty3 cI cJ cZ) (shQ  a r) [.ref a, .int wh]) (vp_Sl (fun r9 => r9 = tellQ r wh)) 0 0 (fun _ => False) := by
  refine Met.ofW (cc := cX2_told) (maxL := 2) (ret := (some .long)) (by decide) rfl ?_
  intro p e s m args below meth c s₁ B hml hv
  obtain ⟨rfl, hP, hK⟩ := hv
  have hx := B.exec
  have hb := B.bytes
  have hr := B.returns
  have hts := atoms_spec (ws := wT yX2_told cX2_told 2 (some .long)) B.pre
  have hT := wT_T hts
  have hown : s.vm.findClass RX2 = some m.cls := findClass_of_methodNamed B.named
  have hlocks := B.notSynchronized
  have hl := lv_entry ([.ref a, .int wh]) (n := 2) (Nat.le_of_ble_eq_true rfl)
  rw [lg_entry_eq]
  generalize (lg_sl ([.ref a, .int wh]) ++ List.replicate (2 - (lg_sl ([.ref a, .int wh])).length) Slot.unset).toArray = ls at hl ⊢
  have hl : lv_has ls 2 [(0, .ref a), (1, .int wh)] := hl
  refine lv_iload_n hx hb dX2_told_0 rfl (lv_at hl 1 rfl) ?_
  refine lv_if_ne (tgt := 11) hx hb dX2_told_1 (by decide) (fun c_1 => ?_) (fun c_1 => ?_)
  · refine lv_aload_n hx hb dX2_told_11 rfl (lv_at hl 0 rfl) ?_
    refine va_get (D := (dC, dI)) (ci := 2) (v := .long (iL ((r).den : Int))) (C := RX2) (T := TX2) (N := 2) hx hb hT hiX2 hown hK hP 0 rfl rfl 1 (by decide) (hT _ kf_X2_13) (fun _ h9 => h9) rfl dX2_told_12 ?_
    exact retR_l hx hb hr hlocks (by simp only [tellQ, c_1, ↓reduceIte, Bool.false_eq_true, i10]) dX2_told_15
  · refine lv_aload_n hx hb dX2_told_4 rfl (lv_at hl 0 rfl) ?_
    refine va_get (D := (dC, dI)) (ci := 2) (v := .long (iL (r).num)) (C := RX2) (T := TX2) (N := 2) hx hb hT hiX2 hown hK hP 0 rfl rfl 0 (by decide) (hT _ kf_X2_7) (fun _ h9 => h9) rfl dX2_told_5 ?_
    refine lv_goto (tgt := 15) hx hb dX2_told_8 (by decide) ?_
    exact retR_l hx hb hr hlocks (by simp only [tellQ, c_1, ↓reduceIte, Bool.false_eq_true, i10]) dX2_told_15
