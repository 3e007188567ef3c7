variable {l : Launch} {dC : Nat → ClassId} {dI : Nat → Nat → Nat} {cI cJ cZ : ClassId}
variable {q : Nat → Nat} {ln cw ic bs ss : Int32} {se we un sf pa : Nat → Int32}
variable {ct : Int32} {ov gf : Nat → Int64} {gi ta : Nat → Int32}
variable {k : Nat → Nat} {r : Rat} {up lo : Int64} {cn tm : Int32} {isI br ma : Nat → Int32} {aU aL uU uL oU oL gU gL : Nat → Int64}

def adQ (a : Int) (b : Nat) (c : Int) (d : Nat) (t : Int) : Rat := (a : Rat) / ((b : Int) : Rat) + (t : Rat) * ((c : Rat) / ((d : Int) : Rat))
def muQ (a : Int) (b : Nat) (c : Int) (d : Nat) : Rat := ((a : Rat) / ((b : Int) : Rat)) * ((c : Rat) / ((d : Int) : Rat))
theorem lcm_swap {b d : Nat} (hb : 0 < b) : b / Nat.gcd b d * d = b * (d / Nat.gcd b d) := by
  obtain ⟨g, x, y, hg, e, ea, eb, h1, h2⟩ := gcd_parts b d hb
  rw [h1, h2]
  conv => lhs; rw [eb]
  conv => rhs; rw [ea]
  rw [Nat.mul_left_comm, Nat.mul_assoc]
theorem ad_eq (a c t : Int) (b d : Nat) (hb : 0 < b) (hd : 0 < d) : Rat.divInt (a * ((d / Nat.gcd b d : Nat) : Int) + t * c * ((b / Nat.gcd b d : Nat) : Int)) (((b / Nat.gcd b d : Nat) : Int) * (d : Int)) = adQ a b c d t := by
  rw [← Int.natCast_mul, lcm_swap hb, comb_eq a (t * c) b d hb hd]
  unfold adQ
  rw [Rat.intCast_mul]
  have := ic_ne hd
  grind
theorem ad_num {a c t : Int} {b d D V U : Nat} (hb : 0 < b) (hD : 0 < D) (h1 : b ∣ D) (h2 : d ∣ D) (ha : a.natAbs ≤ V * b) (hc : c.natAbs ≤ U * d) (hV : (V + U) * D < 4611686018427387904) (ht : t = 1 ∨ t = -1) : rng (a * ((d / Nat.gcd b d : Nat) : Int) + t * c * ((b / Nat.gcd b d : Nat) : Int)) := by
  have hc2 : (t * c).natAbs ≤ U * d := by rcases ht with rfl | rfl <;> simpa using hc
  have h := comb_bd hb hD h1 h2 ha hc2
  rw [Nat.add_mul] at hV
  unfold rng
  omega
theorem ad_den {b d D : Nat} (hb : 0 < b) (hd : 0 < d) (hD : 0 < D) (h1 : b ∣ D) (h2 : d ∣ D) (hV : D < 4611686018427387904) : 0 < ((b / Nat.gcd b d : Nat) : Int) * (d : Int) ∧ rng (((b / Nat.gcd b d : Nat) : Int) * (d : Int)) := by
  rw [← Int.natCast_mul, lcm_swap hb]
  have h3 := lcm_le hD h1 h2
  have hg : 0 < Nat.gcd b d := Nat.gcd_pos_of_pos_left _ hb
  have h4 : 0 < d / Nat.gcd b d := Nat.div_pos (Nat.gcd_le_right _ hd) hg
  have h5 : 0 < b * (d / Nat.gcd b d) := Nat.mul_pos hb h4
  exact ⟨by omega, by unfold rng; omega⟩
theorem tdiv_parts (a : Int) (d : Nat) (hd : 0 < d) : ∃ (g y : Nat) (x : Int), 0 < g ∧ 0 < y ∧ Nat.gcd a.natAbs d = g ∧ a = x * g ∧ d = y * g ∧ a.tdiv ((Nat.gcd a.natAbs d : Nat) : Int) = x ∧ d / Nat.gcd a.natAbs d = y := by
  have hg : 0 < Nat.gcd a.natAbs d := Nat.gcd_pos_of_pos_right _ hd
  have h1 : ((Nat.gcd a.natAbs d : Nat) : Int) ∣ a := Int.gcd_dvd_left (a := a) (b := (d : Int))
  obtain ⟨x, hx⟩ := h1
  obtain ⟨y, hy⟩ := Nat.gcd_dvd_right a.natAbs d
  generalize hgg : Nat.gcd a.natAbs d = g at *
  have hy0 : 0 < y := Nat.pos_of_ne_zero (fun h => by subst h; omega)
  refine ⟨g, y, x, hg, hy0, rfl, by rw [hx, Int.mul_comm], by rw [hy, Nat.mul_comm], ?_, ?_⟩
  · rw [hx]; exact Int.mul_tdiv_cancel_left _ (by omega)
  · rw [hy]; exact Nat.mul_div_cancel_left _ hg
theorem mu_eq (a c : Int) (b d : Nat) (hb : 0 < b) (hd : 0 < d) : Rat.divInt (a.tdiv ((Nat.gcd a.natAbs d : Nat) : Int) * c.tdiv ((Nat.gcd c.natAbs b : Nat) : Int)) (((b / Nat.gcd c.natAbs b : Nat) : Int) * ((d / Nat.gcd a.natAbs d : Nat) : Int)) = muQ a b c d := by
  obtain ⟨g, y, x, h1, h2, -, h3, h4, h5, h6⟩ := tdiv_parts a d hd
  obtain ⟨f, v, u, k1, k2, -, k3, k4, k5, k6⟩ := tdiv_parts c b hb
  rw [h5, h6, k5, k6, rq_eq]
  unfold muQ
  rw [h3, h4, k3, k4]
  have e1 := ic_ne h1
  have e2 := ic_ne h2
  have e3 := ic_ne k1
  have e4 := ic_ne k2
  simp only [Rat.intCast_mul, Int.natCast_mul]
  grind
theorem mu_num {a c : Int} {b d N : Nat} (h : a.natAbs * c.natAbs ≤ N) (hN : N < 4611686018427387904) : rng (a.tdiv ((Nat.gcd a.natAbs d : Nat) : Int) * c.tdiv ((Nat.gcd c.natAbs b : Nat) : Int)) := by
  refine rng_le (b := N) ?_ hN
  rw [Int.natAbs_mul, Int.natAbs_tdiv, Int.natAbs_tdiv, Int.natAbs_natCast, Int.natAbs_natCast]
  exact Nat.le_trans (Nat.mul_le_mul (Nat.div_le_self _ _) (Nat.div_le_self _ _)) h
theorem mu_den {a c : Int} {b d N : Nat} (hb : 0 < b) (hd : 0 < d) (h : b * d ≤ N) (hN : N < 4611686018427387904) : rng (((b / Nat.gcd c.natAbs b : Nat) : Int) * ((d / Nat.gcd a.natAbs d : Nat) : Int)) := by
  refine rng_le (b := N) ?_ hN
  rw [← Int.natCast_mul, Int.natAbs_natCast]
  exact Nat.le_trans (Nat.mul_le_mul (Nat.div_le_self _ _) (Nat.div_le_self _ _)) h
theorem mu_dpos {a c : Int} {b d : Nat} (hb : 0 < b) (hd : 0 < d) : 0 < ((b / Nat.gcd c.natAbs b : Nat) : Int) * ((d / Nat.gcd a.natAbs d : Nat) : Int) := by
  have h1 : 0 < b / Nat.gcd c.natAbs b := Nat.div_pos (Nat.gcd_le_right _ hb) (Nat.gcd_pos_of_pos_right _ hb)
  have h2 : 0 < d / Nat.gcd a.natAbs d := Nat.div_pos (Nat.gcd_le_right _ hd) (Nat.gcd_pos_of_pos_right _ hd)
  exact Int.mul_pos (by omega) (by omega)
theorem adQ_rr (x y : Rat) (t : Int) : adQ x.num x.den y.num y.den t = x + (t : Rat) * y := by
  unfold adQ
  rw [← rat_nd x, ← rat_nd y]
theorem muQ_rr (x y : Rat) : muQ x.num x.den y.num y.den = x * y := by
  unfold muQ
  rw [← rat_nd x, ← rat_nd y]
theorem gcd_rng (a : Nat) {d : Nat} (hd : 0 < d) (h : d < 4611686018427387904) : rng ((Nat.gcd a d : Nat) : Int) ∧ ((Nat.gcd a d : Nat) : Int) ≠ 0 := by
  have h1 := Nat.gcd_pos_of_pos_right a hd
  have h2 := Nat.gcd_le_right (n := d) a hd
  exact ⟨by unfold rng; omega, by omega⟩

def m_set (ma sf : Nat → Int32) (w : Nat) (x : Int32) : Nat → Int32 := if ma w = -9 then upd sf w x else upd (upd sf w x) (m_mt ma w) x
set_option maxHeartbeats 4000000 in
set_option maxRecDepth 100000 in
theorem c_X4_makes (sz : Nat) (a b : Int) (ha : rng a) (h0 : 0 < b) (hbb : rng b) : Met l yX4_makes (wT yX4_makes cX4_makes 7 none) ({ frames := 1, cells := 0, slots := 0, locals := 29 }) (pM (dC, dI) (ty3 cI cJ cZ) (mQ cI cZ k r ln cn tm se isI we br ma sf pa) [.ref (k 0), .long (iL a), .long (iL b)] sz) (va_Qv (S := Unit) (fun _ => True) (fun u t9 => bM (dC, dI) (ty3 cI cJ cZ) (va_A (mQ cI cZ k r ln cn tm se isI we br ma sf pa) sz) (mQ cI cZ k (Rat.divInt a b) ln cn tm se isI we br ma sf pa) t9) (va_A (mQ cI cZ k r ln cn tm se isI we br ma sf pa) sz)) 0 0 (va_A (mQ cI cZ k r ln cn tm se isI we br ma sf pa) sz) := by
  refine Met.ofW (cc := cX4_makes) (maxL := 7) (ret := none) (by decide) rfl ?_
  intro p e s m args below meth c s₁ B hml hv
  obtain ⟨rfl, hsz, hP, hK, hD0⟩ := hv
  have hx := B.exec
  have hb := B.bytes
  have hr := B.returns
  have hts := atoms_spec (ws := wT yX4_makes cX4_makes 7 none) B.pre
  have hT := wT_T hts
  have hown : s.vm.findClass RX4 = some m.cls := findClass_of_methodNamed B.named
  have hlocks := B.notSynchronized
  subst hsz
  have hD := hD0.self (sz := s.heap.size)
  generalize hAe : va_A (mQ cI cZ k r ln cn tm se isI we br ma sf pa) s.heap.size = A at hD ⊢
  have hA : ∀ q : Nat, s.heap.size ≤ q → A q := fun q h => by rw [← hAe]; exact Or.inr h
  have hS : va_S A s.heap s.heap [] := va_S.rf
  have hl := lv_entry ([.ref (k 0), .long (iL a), .long (iL b)]) (n := 7) (Nat.le_of_ble_eq_true rfl)
  rw [lg_entry_eq]
  generalize (lg_sl ([.ref (k 0), .long (iL a), .long (iL b)]) ++ List.replicate (7 - (lg_sl ([.ref (k 0), .long (iL a), .long (iL b)])).length) Slot.unset).toArray = ls at hl ⊢
  have hl : lv_has ls 7 [(0, .ref (k 0)), (1, .long (iL a)), (3, .long (iL b))] := hl
  refine lv_lload_n hx hb dX4_makes_0 rfl (lv_at hl 1 rfl) ?_
  refine lv_lload_n hx hb dX4_makes_1 rfl (lv_at hl 2 rfl) ?_
  refine vp_callSl (rRS (As := [.long (iL a), .long (iL b)]) (rest := []) ⟨hx, hb, hml, hown, hT⟩ (c_X4_common (l := l) a b ha hbb) (cwTS 2 hT kc_X4_common km_X4_71 kt_X4_common kn_X4 rfl rfl md_X4_common ⟨Nat.le_of_ble_eq_true rfl, Nat.le_of_ble_eq_true rfl⟩) nilP hK  rfl hl.1 rfl (Nat.le_of_ble_eq_true rfl) dX4_makes_2 ⟨Nat.le_of_ble_eq_true rfl, Nat.le_of_ble_eq_true rfl⟩) (fun r_2 hw_2 => ?_)
  have hg := gcd_rng a.natAbs (d := b.natAbs) (by omega) (by unfold rng at hbb; omega)
  subst hw_2
  refine lv_lstore (lv' := [(5, .long (iL ((Nat.gcd a.natAbs b.natAbs : Nat) : Int))), (0, .ref (k 0)), (1, .long (iL a)), (3, .long (iL b))]) hx hb dX4_makes_5 hl (by decide) rfl (fun ls hl => ?_)
  refine lv_aload_n hx hb dX4_makes_7 rfl (lv_at hl 1 rfl) ?_
  refine lv_lload_n hx hb dX4_makes_8 rfl (lv_at hl 2 rfl) ?_
  refine lv_lload hx hb dX4_makes_9 (lv_at hl 0 rfl) ?_
  refine li_div hx hb (a := a) (b := ((Nat.gcd a.natAbs b.natAbs : Nat) : Int)) ha hg.1 hg.2 dX4_makes_11 ?_
  refine topl_eq (y := (iL (Rat.divInt a b).num)) (by rw [rq_num a b h0]) ?_
  refine va_put (D := (dC, dI)) (ci := 4) (v := .long (iL (Rat.divInt a b).num)) (ty := .long) (C := RX4) (T := TX4) (N := 22) hx hb hT hiX4 tyX4 tyX4_ok nmX4 hown hK hP hD hS 0 rfl rfl 0 (by decide) (hT _ kf_X4_75) (fun _ h9 => h9) rfl (by decide +kernel) rfl rfl (Nat.le_of_ble_eq_true rfl) dX4_makes_12 (fun H locs hP hD hS => ?_)
  have hP : va_P (dC, dI) vwCl (mW cI cZ k (iL (Rat.divInt a b).num) (iL ((r).den : Int)) ln cn tm se isI we br ma sf pa) H := hP
  have hD : va_D A (mW cI cZ k (iL (Rat.divInt a b).num) (iL ((r).den : Int)) ln cn tm se isI we br ma sf pa) := hD
  refine lv_aload_n hx hb dX4_makes_15 rfl (lv_at hl 1 rfl) ?_
  refine lv_lload_n hx hb dX4_makes_16 rfl (lv_at hl 3 rfl) ?_
  refine lv_lload hx hb dX4_makes_17 (lv_at hl 0 rfl) ?_
  refine li_div hx hb (a := b) (b := ((Nat.gcd a.natAbs b.natAbs : Nat) : Int)) hbb hg.1 hg.2 dX4_makes_19 ?_
  refine topl_eq (y := (iL ((Rat.divInt a b).den : Int))) (by rw [rq_den a b h0]) ?_
  refine va_put (D := (dC, dI)) (ci := 4) (v := .long (iL ((Rat.divInt a b).den : Int))) (ty := .long) (C := RX4) (T := TX4) (N := 22) hx hb hT hiX4 tyX4 tyX4_ok nmX4 hown hK hP hD hS 0 rfl rfl 1 (by decide) (hT _ kf_X4_7) (fun _ h9 => h9) rfl (by decide +kernel) rfl rfl (Nat.le_of_ble_eq_true rfl) dX4_makes_20 (fun H locs hP hD hS => ?_)
  have hP : va_P (dC, dI) vwCl (mW cI cZ k (iL (Rat.divInt a b).num) (iL ((Rat.divInt a b).den : Int)) ln cn tm se isI we br ma sf pa) H := hP
  have hD : va_D A (mW cI cZ k (iL (Rat.divInt a b).num) (iL ((Rat.divInt a b).den : Int)) ln cn tm se isI we br ma sf pa) := hD
  exact retM_v (S := Unit) (post := fun _ => True) (w2 := fun u => mQ cI cZ k (Rat.divInt a b) ln cn tm se isI we br ma sf pa) () hx hb hr hlocks trivial hP hK hD hS dX4_makes_23
set_option maxHeartbeats 4000000 in
set_option maxRecDepth 100000 in
theorem c_X4_adds (sz : Nat) (a : Int) (b : Nat) (c2 : Int) (d : Nat) (t : Int) (D V U : Nat) (hb0 : 0 < b) (hd0 : 0 < d) (hD1 : 0 < D) (hbD : b ∣ D) (hdD : d ∣ D) (haV : a.natAbs ≤ V * b) (hcU : c2.natAbs ≤ U * d) (hVU : (V + U) * D < 4611686018427387904) (hD2 : D < 4611686018427387904) (ht : t = 1 ∨ t = -1) : Met l yX4_adds (wT yX4_adds cX4_adds 13 none) ({ frames := 2, cells := 0, slots := 0, locals := 55 }) (pM (dC, dI) (ty3 cI cJ cZ) (mQ cI cZ k r ln cn tm se isI we br ma sf pa) [.ref (k 0), .long (iL a), .long (iL (b : Int)), .long (iL c2), .long (iL (d : Int)), .long (iL t)] sz) (va_Qv (S := Unit) (fun _ => True) (fun u t9 => bM (dC, dI) (ty3 cI cJ cZ) (va_A (mQ cI cZ k r ln cn tm se isI we br ma sf pa) sz) (mQ cI cZ k (adQ a b c2 d t) ln cn tm se isI we br ma sf pa) t9) (va_A (mQ cI cZ k r ln cn tm se isI we br ma sf pa) sz)) 0 0 (va_A (mQ cI cZ k r ln cn tm se isI we br ma sf pa) sz) := by
  refine Met.ofW (cc := cX4_adds) (maxL := 13) (ret := none) (by decide) rfl ?_
  intro p e s m args below meth c s₁ B hml hv
  obtain ⟨rfl, hsz, hP, hK, hD0⟩ := hv
  have hx := B.exec
  have hb := B.bytes
  have hr := B.returns
  have hts := atoms_spec (ws := wT yX4_adds cX4_adds 13 none) B.pre
  have hT := wT_T hts
  have hown : s.vm.findClass RX4 = some m.cls := findClass_of_methodNamed B.named
  have hlocks := B.notSynchronized
  subst hsz
  have hD := hD0.self (sz := s.heap.size)
  generalize hAe : va_A (mQ cI cZ k r ln cn tm se isI we br ma sf pa) s.heap.size = A at hD ⊢
  have hA : ∀ q : Nat, s.heap.size ≤ q → A q := fun q h => by rw [← hAe]; exact Or.inr h
  have hS : va_S A s.heap s.heap [] := va_S.rf
  have hl := lv_entry ([.ref (k 0), .long (iL a), .long (iL (b : Int)), .long (iL c2), .long (iL (d : Int)), .long (iL t)]) (n := 13) (Nat.le_of_ble_eq_true rfl)
  rw [lg_entry_eq]
  generalize (lg_sl ([.ref (k 0), .long (iL a), .long (iL (b : Int)), .long (iL c2), .long (iL (d : Int)), .long (iL t)]) ++ List.replicate (13 - (lg_sl ([.ref (k 0), .long (iL a), .long (iL (b : Int)), .long (iL c2), .long (iL (d : Int)), .long (iL t)])).length) Slot.unset).toArray = ls at hl ⊢
  have hl : lv_has ls 13 [(0, .ref (k 0)), (1, .long (iL a)), (3, .long (iL (b : Int))), (5, .long (iL c2)), (7, .long (iL (d : Int))), (9, .long (iL t))] := hl
  have hb9 := Nat.le_of_dvd hD1 hbD
  have hd9 := Nat.le_of_dvd hD1 hdD
  have hbr : rng (b : Int) := by unfold rng; omega
  have hdr : rng (d : Int) := by unfold rng; omega
  have hg := gcd_rng b (d := d) hd0 (by omega)
  have hde := ad_den hb0 hd0 hD1 hbD hdD hD2
  refine lv_lload_n hx hb dX4_adds_0 rfl (lv_at hl 2 rfl) ?_
  refine lv_lload hx hb dX4_adds_1 (lv_at hl 4 rfl) ?_
  refine vp_callSl (rRS (As := [.long (iL (b : Int)), .long (iL (d : Int))]) (rest := []) ⟨hx, hb, hml, hown, hT⟩ (c_X4_common (l := l) (b : Int) (d : Int) hbr hdr) (cwTS 2 hT kc_X4_common km_X4_71 kt_X4_common kn_X4 rfl rfl md_X4_common ⟨Nat.le_of_ble_eq_true rfl, Nat.le_of_ble_eq_true rfl⟩) nilP hK  rfl hl.1 rfl (Nat.le_of_ble_eq_true rfl) dX4_adds_3 ⟨Nat.le_of_ble_eq_true rfl, Nat.le_of_ble_eq_true rfl⟩) (fun r_3 hw_3 => ?_)
  subst hw_3
  refine topl_eq (y := (iL ((Nat.gcd b d : Nat) : Int))) rfl ?_
  refine lv_lstore (lv' := [(11, .long (iL ((Nat.gcd b d : Nat) : Int))), (0, .ref (k 0)), (1, .long (iL a)), (3, .long (iL (b : Int))), (5, .long (iL c2)), (7, .long (iL (d : Int))), (9, .long (iL t))]) hx hb dX4_adds_6 hl (by decide) rfl (fun ls hl => ?_)
  refine lv_aload_n hx hb dX4_adds_8 rfl (lv_at hl 1 rfl) ?_
  refine lv_lload_n hx hb dX4_adds_9 rfl (lv_at hl 2 rfl) ?_
  refine lv_lload hx hb dX4_adds_10 (lv_at hl 5 rfl) ?_
  refine lv_lload hx hb dX4_adds_12 (lv_at hl 0 rfl) ?_
  refine li_div hx hb (a := (d : Int)) (b := ((Nat.gcd b d : Nat) : Int)) hdr hg.1 hg.2 dX4_adds_14 ?_
  refine topl_eq (y := (iL ((d / Nat.gcd b d : Nat) : Int))) (by rw [nat_tdiv]) ?_
  refine li_mul hx hb (a := a) (b := ((d / Nat.gcd b d : Nat) : Int)) dX4_adds_15 ?_
  refine lv_lload hx hb dX4_adds_16 (lv_at hl 6 rfl) ?_
  refine lv_lload hx hb dX4_adds_18 (lv_at hl 4 rfl) ?_
  refine li_mul hx hb (a := t) (b := c2) dX4_adds_20 ?_
  refine lv_lload_n hx hb dX4_adds_21 rfl (lv_at hl 3 rfl) ?_
  refine lv_lload hx hb dX4_adds_22 (lv_at hl 0 rfl) ?_
  refine li_div hx hb (a := (b : Int)) (b := ((Nat.gcd b d : Nat) : Int)) hbr hg.1 hg.2 dX4_adds_24 ?_
  refine topl_eq (y := (iL ((b / Nat.gcd b d : Nat) : Int))) (by rw [nat_tdiv]) ?_
  refine li_mul hx hb (a := (t * c2)) (b := ((b / Nat.gcd b d : Nat) : Int)) dX4_adds_25 ?_
  refine li_add hx hb (a := (a * ((d / Nat.gcd b d : Nat) : Int))) (b := ((t * c2) * ((b / Nat.gcd b d : Nat) : Int))) dX4_adds_26 ?_
  refine lv_lload_n hx hb dX4_adds_27 rfl (lv_at hl 3 rfl) ?_
  refine lv_lload hx hb dX4_adds_28 (lv_at hl 0 rfl) ?_
  refine li_div hx hb (a := (b : Int)) (b := ((Nat.gcd b d : Nat) : Int)) hbr hg.1 hg.2 dX4_adds_30 ?_
  refine topl_eq (y := (iL ((b / Nat.gcd b d : Nat) : Int))) (by rw [nat_tdiv]) ?_
  refine lv_lload hx hb dX4_adds_31 (lv_at hl 5 rfl) ?_
  refine li_mul hx hb (a := ((b / Nat.gcd b d : Nat) : Int)) (b := (d : Int)) dX4_adds_33 ?_
  refine fM_v (wc := mQ cI cZ k r ln cn tm se isI we br ma sf pa) (wr := []) (rMV (wc := mQ cI cZ k r ln cn tm se isI we br ma sf pa) (As := [.long (iL ((a * ((d / Nat.gcd b d : Nat) : Int)) + ((t * c2) * ((b / Nat.gcd b d : Nat) : Int)))), .long (iL (((b / Nat.gcd b d : Nat) : Int) * (d : Int)))]) (rest := []) ⟨hx, hb, hml, hown, hT⟩ (c_X4_makes (l := l) s.heap.size ((a * ((d / Nat.gcd b d : Nat) : Int)) + ((t * c2) * ((b / Nat.gcd b d : Nat) : Int))) (((b / Nat.gcd b d : Nat) : Int) * (d : Int)) (ad_num hb0 hD1 hbD hdD haV hcU hVU ht) hde.1 hde.2) (cwTV 2 hT kc_X4_makes km_X4_78 ki_X4_makes ks_X4_makes kn_X4 rfl rfl md_X4_makes ⟨Nat.le_of_ble_eq_true rfl, Nat.le_of_ble_eq_true rfl⟩) hP hD hK (va_recv hK hP (ci := 4) (q0 := 0) rfl rfl) rfl hl.1 rfl (Nat.le_of_ble_eq_true rfl) dX4_adds_34 ⟨Nat.le_of_ble_eq_true rfl, Nat.le_of_ble_eq_true rfl⟩) hP hD hS hA (fun u_34 H locs hw_34 hP hD hS => ?_)
  have hP : va_P (dC, dI) vwCl (mQ cI cZ k (Rat.divInt ((a * ((d / Nat.gcd b d : Nat) : Int)) + ((t * c2) * ((b / Nat.gcd b d : Nat) : Int))) (((b / Nat.gcd b d : Nat) : Int) * (d : Int))) ln cn tm se isI we br ma sf pa) H := hP
  have hD : va_D A (mQ cI cZ k (Rat.divInt ((a * ((d / Nat.gcd b d : Nat) : Int)) + ((t * c2) * ((b / Nat.gcd b d : Nat) : Int))) (((b / Nat.gcd b d : Nat) : Int) * (d : Int))) ln cn tm se isI we br ma sf pa) := hD
  rw [show (Rat.divInt ((a * ((d / Nat.gcd b d : Nat) : Int)) + ((t * c2) * ((b / Nat.gcd b d : Nat) : Int))) (((b / Nat.gcd b d : Nat) : Int) * (d : Int))) = (adQ a b c2 d t) from (ad_eq a c2 t b d hb0 hd0)] at hP hD
  have hP : va_P (dC, dI) vwCl (mQ cI cZ k (adQ a b c2 d t) ln cn tm se isI we br ma sf pa) H := hP
  have hD : va_D A (mQ cI cZ k (adQ a b c2 d t) ln cn tm se isI we br ma sf pa) := hD
  exact retM_v (S := Unit) (post := fun _ => True) (w2 := fun u => mQ cI cZ k (adQ a b c2 d t) ln cn tm se isI we br ma sf pa) () hx hb hr hlocks trivial hP hK hD hS dX4_adds_37
set_option maxHeartbeats 4000000 in
set_option maxRecDepth 100000 in
theorem c_X4_multiplies (sz : Nat) (a : Int) (b : Nat) (c2 : Int) (d : Nat) (ha : rng a) (hc : rng c2) (hb0 : 0 < b) (hd0 : 0 < d) (hbr : rng (b : Int)) (hdr : rng (d : Int)) (hn : rng (a.tdiv ((Nat.gcd a.natAbs d : Nat) : Int) * c2.tdiv ((Nat.gcd c2.natAbs b : Nat) : Int))) (hdn : rng (((b / Nat.gcd c2.natAbs b : Nat) : Int) * ((d / Nat.gcd a.natAbs d : Nat) : Int))) : Met l yX4_multiplies (wT yX4_multiplies cX4_multiplies 13 none) ({ frames := 2, cells := 0, slots := 0, locals := 55 }) (pM (dC, dI) (ty3 cI cJ cZ) (mQ cI cZ k r ln cn tm se isI we br ma sf pa) [.ref (k 0), .long (iL a), .long (iL (b : Int)), .long (iL c2), .long (iL (d : Int))] sz) (va_Qv (S := Unit) (fun _ => True) (fun u t9 => bM (dC, dI) (ty3 cI cJ cZ) (va_A (mQ cI cZ k r ln cn tm se isI we br ma sf pa) sz) (mQ cI cZ k (muQ a b c2 d) ln cn tm se isI we br ma sf pa) t9) (va_A (mQ cI cZ k r ln cn tm se isI we br ma sf pa) sz)) 0 0 (va_A (mQ cI cZ k r ln cn tm se isI we br ma sf pa) sz) := by
  refine Met.ofW (cc := cX4_multiplies) (maxL := 13) (ret := none) (by decide) rfl ?_
  intro p e s m args below meth c s₁ B hml hv
  obtain ⟨rfl, hsz, hP, hK, hD0⟩ := hv
  have hx := B.exec
  have hb := B.bytes
  have hr := B.returns
  have hts := atoms_spec (ws := wT yX4_multiplies cX4_multiplies 13 none) B.pre
  have hT := wT_T hts
  have hown : s.vm.findClass RX4 = some m.cls := findClass_of_methodNamed B.named
  have hlocks := B.notSynchronized
  subst hsz
  have hD := hD0.self (sz := s.heap.size)
  generalize hAe : va_A (mQ cI cZ k r ln cn tm se isI we br ma sf pa) s.heap.size = A at hD ⊢
  have hA : ∀ q : Nat, s.heap.size ≤ q → A q := fun q h => by rw [← hAe]; exact Or.inr h
  have hS : va_S A s.heap s.heap [] := va_S.rf
  have hl := lv_entry ([.ref (k 0), .long (iL a), .long (iL (b : Int)), .long (iL c2), .long (iL (d : Int))]) (n := 13) (Nat.le_of_ble_eq_true rfl)
  rw [lg_entry_eq]
  generalize (lg_sl ([.ref (k 0), .long (iL a), .long (iL (b : Int)), .long (iL c2), .long (iL (d : Int))]) ++ List.replicate (13 - (lg_sl ([.ref (k 0), .long (iL a), .long (iL (b : Int)), .long (iL c2), .long (iL (d : Int))])).length) Slot.unset).toArray = ls at hl ⊢
  have hl : lv_has ls 13 [(0, .ref (k 0)), (1, .long (iL a)), (3, .long (iL (b : Int))), (5, .long (iL c2)), (7, .long (iL (d : Int)))] := hl
  have hg1 := gcd_rng a.natAbs (d := d) hd0 (by unfold rng at hdr; omega)
  have hg2 := gcd_rng c2.natAbs (d := b) hb0 (by unfold rng at hbr; omega)
  refine lv_lload_n hx hb dX4_multiplies_0 rfl (lv_at hl 1 rfl) ?_
  refine lv_lload hx hb dX4_multiplies_1 (lv_at hl 4 rfl) ?_
  refine vp_callSl (rRS (As := [.long (iL a), .long (iL (d : Int))]) (rest := []) ⟨hx, hb, hml, hown, hT⟩ (c_X4_common (l := l) a (d : Int) ha hdr) (cwTS 2 hT kc_X4_common km_X4_71 kt_X4_common kn_X4 rfl rfl md_X4_common ⟨Nat.le_of_ble_eq_true rfl, Nat.le_of_ble_eq_true rfl⟩) nilP hK  rfl hl.1 rfl (Nat.le_of_ble_eq_true rfl) dX4_multiplies_3 ⟨Nat.le_of_ble_eq_true rfl, Nat.le_of_ble_eq_true rfl⟩) (fun r_3 hw_3 => ?_)
  subst hw_3
  refine topl_eq (y := (iL ((Nat.gcd (a).natAbs d : Nat) : Int))) rfl ?_
  refine lv_lstore (lv' := [(9, .long (iL ((Nat.gcd (a).natAbs d : Nat) : Int))), (0, .ref (k 0)), (1, .long (iL a)), (3, .long (iL (b : Int))), (5, .long (iL c2)), (7, .long (iL (d : Int)))]) hx hb dX4_multiplies_6 hl (by decide) rfl (fun ls hl => ?_)
  refine lv_lload hx hb dX4_multiplies_8 (lv_at hl 4 rfl) ?_
  refine lv_lload_n hx hb dX4_multiplies_10 rfl (lv_at hl 3 rfl) ?_
  refine vp_callSl (rRS (As := [.long (iL c2), .long (iL (b : Int))]) (rest := []) ⟨hx, hb, hml, hown, hT⟩ (c_X4_common (l := l) c2 (b : Int) hc hbr) (cwTS 2 hT kc_X4_common km_X4_71 kt_X4_common kn_X4 rfl rfl md_X4_common ⟨Nat.le_of_ble_eq_true rfl, Nat.le_of_ble_eq_true rfl⟩) nilP hK  rfl hl.1 rfl (Nat.le_of_ble_eq_true rfl) dX4_multiplies_11 ⟨Nat.le_of_ble_eq_true rfl, Nat.le_of_ble_eq_true rfl⟩) (fun r_11 hw_11 => ?_)
  subst hw_11
  refine topl_eq (y := (iL ((Nat.gcd (c2).natAbs b : Nat) : Int))) rfl ?_
  refine lv_lstore (lv' := [(11, .long (iL ((Nat.gcd (c2).natAbs b : Nat) : Int))), (9, .long (iL ((Nat.gcd (a).natAbs d : Nat) : Int))), (0, .ref (k 0)), (1, .long (iL a)), (3, .long (iL (b : Int))), (5, .long (iL c2)), (7, .long (iL (d : Int)))]) hx hb dX4_multiplies_14 hl (by decide) rfl (fun ls hl => ?_)
  refine lv_lload hx hb dX4_multiplies_16 (lv_at hl 1 rfl) ?_
  refine lv_lconst (v := iL 0) hx hb dX4_multiplies_18 rfl ?_
  refine lc_ne (tgt := 27) hx hb dX4_multiplies_19 dX4_multiplies_20 (by decide) (fun c_19 => ?_) (fun h => absurd ((iL_eq hg1.1 rng_0).mp h) hg1.2)
  refine lv_lload hx hb dX4_multiplies_27 (lv_at hl 1 rfl) ?_
  refine lv_lstore (lv' := [(9, .long (iL ((Nat.gcd (a).natAbs d : Nat) : Int))), (11, .long (iL ((Nat.gcd (c2).natAbs b : Nat) : Int))), (0, .ref (k 0)), (1, .long (iL a)), (3, .long (iL (b : Int))), (5, .long (iL c2)), (7, .long (iL (d : Int)))]) hx hb dX4_multiplies_29 hl (by decide) rfl (fun ls hl => ?_)
  refine lv_lload hx hb dX4_multiplies_31 (lv_at hl 1 rfl) ?_
  refine lv_lconst (v := iL 0) hx hb dX4_multiplies_33 rfl ?_
  refine lc_ne (tgt := 42) hx hb dX4_multiplies_34 dX4_multiplies_35 (by decide) (fun c_34 => ?_) (fun h => absurd ((iL_eq hg2.1 rng_0).mp h) hg2.2)
  refine lv_lload hx hb dX4_multiplies_42 (lv_at hl 1 rfl) ?_
  refine lv_lstore (lv' := [(11, .long (iL ((Nat.gcd (c2).natAbs b : Nat) : Int))), (9, .long (iL ((Nat.gcd (a).natAbs d : Nat) : Int))), (0, .ref (k 0)), (1, .long (iL a)), (3, .long (iL (b : Int))), (5, .long (iL c2)), (7, .long (iL (d : Int)))]) hx hb dX4_multiplies_44 hl (by decide) rfl (fun ls hl => ?_)
  refine lv_aload_n hx hb dX4_multiplies_46 rfl (lv_at hl 2 rfl) ?_
  refine lv_lload_n hx hb dX4_multiplies_47 rfl (lv_at hl 3 rfl) ?_
  refine lv_lload hx hb dX4_multiplies_48 (lv_at hl 1 rfl) ?_
  refine li_div hx hb (a := a) (b := ((Nat.gcd (a).natAbs d : Nat) : Int)) ha hg1.1 hg1.2 dX4_multiplies_50 ?_
  refine lv_lload hx hb dX4_multiplies_51 (lv_at hl 5 rfl) ?_
  refine lv_lload hx hb dX4_multiplies_53 (lv_at hl 0 rfl) ?_
  refine li_div hx hb (a := c2) (b := ((Nat.gcd (c2).natAbs b : Nat) : Int)) hc hg2.1 hg2.2 dX4_multiplies_55 ?_
  refine li_mul hx hb (a := (Int.tdiv a ((Nat.gcd (a).natAbs d : Nat) : Int))) (b := (Int.tdiv c2 ((Nat.gcd (c2).natAbs b : Nat) : Int))) dX4_multiplies_56 ?_
  refine lv_lload_n hx hb dX4_multiplies_57 rfl (lv_at hl 4 rfl) ?_
  refine lv_lload hx hb dX4_multiplies_58 (lv_at hl 0 rfl) ?_
  refine li_div hx hb (a := (b : Int)) (b := ((Nat.gcd (c2).natAbs b : Nat) : Int)) hbr hg2.1 hg2.2 dX4_multiplies_60 ?_
  refine topl_eq (y := (iL ((b / Nat.gcd (c2).natAbs b : Nat) : Int))) (by rw [nat_tdiv]) ?_
  refine lv_lload hx hb dX4_multiplies_61 (lv_at hl 6 rfl) ?_
  refine lv_lload hx hb dX4_multiplies_63 (lv_at hl 1 rfl) ?_
  refine li_div hx hb (a := (d : Int)) (b := ((Nat.gcd (a).natAbs d : Nat) : Int)) hdr hg1.1 hg1.2 dX4_multiplies_65 ?_
  refine topl_eq (y := (iL ((d / Nat.gcd (a).natAbs d : Nat) : Int))) (by rw [nat_tdiv]) ?_
  refine li_mul hx hb (a := ((b / Nat.gcd (c2).natAbs b : Nat) : Int)) (b := ((d / Nat.gcd (a).natAbs d : Nat) : Int)) dX4_multiplies_66 ?_
  refine fM_v (wc := mQ cI cZ k r ln cn tm se isI we br ma sf pa) (wr := []) (rMV (wc := mQ cI cZ k r ln cn tm se isI we br ma sf pa) (As := [.long (iL ((Int.tdiv a ((Nat.gcd (a).natAbs d : Nat) : Int)) * (Int.tdiv c2 ((Nat.gcd (c2).natAbs b : Nat) : Int)))), .long (iL (((b / Nat.gcd (c2).natAbs b : Nat) : Int) * ((d / Nat.gcd (a).natAbs d : Nat) : Int)))]) (rest := []) ⟨hx, hb, hml, hown, hT⟩ (c_X4_makes (l := l) s.heap.size ((Int.tdiv a ((Nat.gcd (a).natAbs d : Nat) : Int)) * (Int.tdiv c2 ((Nat.gcd (c2).natAbs b : Nat) : Int))) (((b / Nat.gcd (c2).natAbs b : Nat) : Int) * ((d / Nat.gcd (a).natAbs d : Nat) : Int)) hn (mu_dpos hb0 hd0) hdn) (cwTV 2 hT kc_X4_makes km_X4_78 ki_X4_makes ks_X4_makes kn_X4 rfl rfl md_X4_makes ⟨Nat.le_of_ble_eq_true rfl, Nat.le_of_ble_eq_true rfl⟩) hP hD hK (va_recv hK hP (ci := 4) (q0 := 0) rfl rfl) rfl hl.1 rfl (Nat.le_of_ble_eq_true rfl) dX4_multiplies_67 ⟨Nat.le_of_ble_eq_true rfl, Nat.le_of_ble_eq_true rfl⟩) hP hD hS hA (fun u_67 H locs hw_67 hP hD hS => ?_)
  have hP : va_P (dC, dI) vwCl (mQ cI cZ k (Rat.divInt ((Int.tdiv a ((Nat.gcd (a).natAbs d : Nat) : Int)) * (Int.tdiv c2 ((Nat.gcd (c2).natAbs b : Nat) : Int))) (((b / Nat.gcd (c2).natAbs b : Nat) : Int) * ((d / Nat.gcd (a).natAbs d : Nat) : Int))) ln cn tm se isI we br ma sf pa) H := hP
  have hD : va_D A (mQ cI cZ k (Rat.divInt ((Int.tdiv a ((Nat.gcd (a).natAbs d : Nat) : Int)) * (Int.tdiv c2 ((Nat.gcd (c2).natAbs b : Nat) : Int))) (((b / Nat.gcd (c2).natAbs b : Nat) : Int) * ((d / Nat.gcd (a).natAbs d : Nat) : Int))) ln cn tm se isI we br ma sf pa) := hD
  rw [show (Rat.divInt ((Int.tdiv a ((Nat.gcd (a).natAbs d : Nat) : Int)) * (Int.tdiv c2 ((Nat.gcd (c2).natAbs b : Nat) : Int))) (((b / Nat.gcd (c2).natAbs b : Nat) : Int) * ((d / Nat.gcd (a).natAbs d : Nat) : Int))) = (muQ a b c2 d) from (mu_eq a c2 b d hb0 hd0)] at hP hD
  have hP : va_P (dC, dI) vwCl (mQ cI cZ k (muQ a b c2 d) ln cn tm se isI we br ma sf pa) H := hP
  have hD : va_D A (mQ cI cZ k (muQ a b c2 d) ln cn tm se isI we br ma sf pa) := hD
  exact retM_v (S := Unit) (post := fun _ => True) (w2 := fun u => mQ cI cZ k (muQ a b c2 d) ln cn tm se isI we br ma sf pa) () hx hb hr hlocks trivial hP hK hD hS dX4_multiplies_70
set_option maxHeartbeats 4000000 in
set_option maxRecDepth 100000 in
theorem c_X4_keeps (sz : Nat) (w : Nat) (hw : w < 5) : Met l yX4_keeps (wT yX4_keeps cX4_keeps 2 none) ({ frames := 0, cells := 0, slots := 0, locals := 0 }) (pM (dC, dI) (ty3 cI cJ cZ) ((mQ cI cZ k r ln cn tm se isI we br ma sf pa) ++ (mS cJ k aU aL uU uL)) [.ref (k 0), .int (nI w)] sz) (va_Qv (S := Unit) (fun _ => True) (fun u t9 => bM (dC, dI) (ty3 cI cJ cZ) (va_A ((mQ cI cZ k r ln cn tm se isI we br ma sf pa) ++ (mS cJ k aU aL uU uL)) sz) ((mQ cI cZ k r ln cn tm se isI we br ma sf pa) ++ (mS cJ k (vp_updL aU w (iL (r).num)) (vp_updL aL w (iL ((r).den : Int))) uU uL)) t9) (va_A ((mQ cI cZ k r ln cn tm se isI we br ma sf pa) ++ (mS cJ k aU aL uU uL)) sz)) 0 0 (va_A ((mQ cI cZ k r ln cn tm se isI we br ma sf pa) ++ (mS cJ k aU aL uU uL)) sz) := by
  refine Met.ofW (cc := cX4_keeps) (maxL := 2) (ret := none) (by decide) rfl ?_
  intro p e s m args below meth c s₁ B hml hv
  obtain ⟨rfl, hsz, hP, hK, hD0⟩ := hv
  have hx := B.exec
  have hb := B.bytes
  have hr := B.returns
  have hts := atoms_spec (ws := wT yX4_keeps cX4_keeps 2 none) B.pre
  have hT := wT_T hts
  have hown : s.vm.findClass RX4 = some m.cls := findClass_of_methodNamed B.named
  have hlocks := B.notSynchronized
  subst hsz
  have hD := hD0.self (sz := s.heap.size)
  generalize hAe : va_A ((mQ cI cZ k r ln cn tm se isI we br ma sf pa) ++ (mS cJ k aU aL uU uL)) s.heap.size = A at hD ⊢
  have hA : ∀ q : Nat, s.heap.size ≤ q → A q := fun q h => by rw [← hAe]; exact Or.inr h
  have hS : va_S A s.heap s.heap [] := va_S.rf
  have hl := lv_entry ([.ref (k 0), .int (nI w)]) (n := 2) (Nat.le_of_ble_eq_true rfl)
  rw [lg_entry_eq]
  generalize (lg_sl ([.ref (k 0), .int (nI w)]) ++ List.replicate (2 - (lg_sl ([.ref (k 0), .int (nI w)])).length) Slot.unset).toArray = ls at hl ⊢
  have hl : lv_has ls 2 [(0, .ref (k 0)), (1, .int (nI w))] := hl
  refine lv_aload_n hx hb dX4_keeps_0 rfl (lv_at hl 0 rfl) ?_
  refine va_get (D := (dC, dI)) (ci := 4) (v := .ref (k 8)) (C := RX4) (T := TX4) (N := 22) hx hb hT hiX4 hown hK hP 0 rfl rfl 11 (by decide) (hT _ kf_X4_36) (fun _ h9 => h9) rfl dX4_keeps_1 ?_
  refine lv_iload_n hx hb dX4_keeps_4 rfl (lv_at hl 1 rfl) ?_
  refine lv_aload_n hx hb dX4_keeps_5 rfl (lv_at hl 0 rfl) ?_
  refine va_get (D := (dC, dI)) (ci := 4) (v := .long (iL (r).num)) (C := RX4) (T := TX4) (N := 22) hx hb hT hiX4 hown hK hP 0 rfl rfl 0 (by decide) (hT _ kf_X4_75) (fun _ h9 => h9) rfl dX4_keeps_6 ?_
  refine ast_l hx hb hK hP hD hS 8 1 rfl rfl (by decide) (w := w) rfl (by omega) dX4_keeps_9 (fun H locs hP hD hS => ?_)
  have hP : va_P (dC, dI) vwCl ((mQ cI cZ k r ln cn tm se isI we br ma sf pa) ++ (mS cJ k (vp_updL aU w (iL (r).num)) aL uU uL)) H := hP
  have hD : va_D A ((mQ cI cZ k r ln cn tm se isI we br ma sf pa) ++ (mS cJ k (vp_updL aU w (iL (r).num)) aL uU uL)) := hD
  refine lv_aload_n hx hb dX4_keeps_10 rfl (lv_at hl 0 rfl) ?_
  refine va_get (D := (dC, dI)) (ci := 4) (v := .ref (k 9)) (C := RX4) (T := TX4) (N := 22) hx hb hT hiX4 hown hK hP 0 rfl rfl 12 (by decide) (hT _ kf_X4_40) (fun _ h9 => h9) rfl dX4_keeps_11 ?_
  refine lv_iload_n hx hb dX4_keeps_14 rfl (lv_at hl 1 rfl) ?_
  refine lv_aload_n hx hb dX4_keeps_15 rfl (lv_at hl 0 rfl) ?_
  refine va_get (D := (dC, dI)) (ci := 4) (v := .long (iL ((r).den : Int))) (C := RX4) (T := TX4) (N := 22) hx hb hT hiX4 hown hK hP 0 rfl rfl 1 (by decide) (hT _ kf_X4_7) (fun _ h9 => h9) rfl dX4_keeps_16 ?_
  refine ast_l hx hb hK hP hD hS 9 1 rfl rfl (by decide) (w := w) rfl (by omega) dX4_keeps_19 (fun H locs hP hD hS => ?_)
  have hP : va_P (dC, dI) vwCl ((mQ cI cZ k r ln cn tm se isI we br ma sf pa) ++ (mS cJ k (vp_updL aU w (iL (r).num)) (vp_updL aL w (iL ((r).den : Int))) uU uL)) H := hP
  have hD : va_D A ((mQ cI cZ k r ln cn tm se isI we br ma sf pa) ++ (mS cJ k (vp_updL aU w (iL (r).num)) (vp_updL aL w (iL ((r).den : Int))) uU uL)) := hD
  exact retM_v (S := Unit) (post := fun _ => True) (w2 := fun u => (mQ cI cZ k r ln cn tm se isI we br ma sf pa) ++ (mS cJ k (vp_updL aU w (iL (r).num)) (vp_updL aL w (iL ((r).den : Int))) uU uL)) () hx hb hr hlocks trivial hP hK hD hS dX4_keeps_20
set_option maxHeartbeats 4000000 in
set_option maxRecDepth 100000 in
theorem c_X4_clears (sz : Nat) (w : Nat) (hw : w < 6) : Met l yX4_clears (wT yX4_clears cX4_clears 2 none) ({ frames := 0, cells := 0, slots := 0, locals := 0 }) (pM (dC, dI) (ty3 cI cJ cZ) (mW cI cZ k up lo ln cn tm se isI we br ma sf pa) [.ref (k 0), .int (nI w)] sz) (va_Qv (S := Unit) (fun _ => True) (fun u t9 => bM (dC, dI) (ty3 cI cJ cZ) (va_A (mW cI cZ k up lo ln cn tm se isI we br ma sf pa) sz) (mW cI cZ k up lo ln cn tm se (upd isI w 0) (upd we w 0) (upd br w 0) (upd ma w (-9)) (upd sf w (-9)) (upd pa w 0)) t9) (va_A (mW cI cZ k up lo ln cn tm se isI we br ma sf pa) sz)) 0 0 (va_A (mW cI cZ k up lo ln cn tm se isI we br ma sf pa) sz) := by
  refine Met.ofW (cc := cX4_clears) (maxL := 2) (ret := none) (by decide) rfl ?_
  intro p e s m args below meth c s₁ B hml hv
  obtain ⟨rfl, hsz, hP, hK, hD0⟩ := hv
  have hx := B.exec
  have hb := B.bytes
  have hr := B.returns
  have hts := atoms_spec (ws := wT yX4_clears cX4_clears 2 none) B.pre
  have hT := wT_T hts
  have hown : s.vm.findClass RX4 = some m.cls := findClass_of_methodNamed B.named
  have hlocks := B.notSynchronized
  subst hsz
  have hD := hD0.self (sz := s.heap.size)
  generalize hAe : va_A (mW cI cZ k up lo ln cn tm se isI we br ma sf pa) s.heap.size = A at hD ⊢
  have hA : ∀ q : Nat, s.heap.size ≤ q → A q := fun q h => by rw [← hAe]; exact Or.inr h
  have hS : va_S A s.heap s.heap [] := va_S.rf
  have hl := lv_entry ([.ref (k 0), .int (nI w)]) (n := 2) (Nat.le_of_ble_eq_true rfl)
  rw [lg_entry_eq]
  generalize (lg_sl ([.ref (k 0), .int (nI w)]) ++ List.replicate (2 - (lg_sl ([.ref (k 0), .int (nI w)])).length) Slot.unset).toArray = ls at hl ⊢
  have hl : lv_has ls 2 [(0, .ref (k 0)), (1, .int (nI w))] := hl
  refine lv_aload_n hx hb dX4_clears_0 rfl (lv_at hl 0 rfl) ?_
  refine va_get (D := (dC, dI)) (ci := 4) (v := .ref (k 2)) (C := RX4) (T := TX4) (N := 22) hx hb hT hiX4 hown hK hP 0 rfl rfl 5 (by decide) (hT _ kf_X4_17) (fun _ h9 => h9) rfl dX4_clears_1 ?_
  refine lv_iload_n hx hb dX4_clears_4 rfl (lv_at hl 1 rfl) ?_
  refine lv_iconst (v := 0) hx hb dX4_clears_5 (by decide) ?_
  refine ast_z hx hb hK hP hD hS 2 2 rfl rfl (by decide) (w := w) rfl (by omega) (by first | exact Or.inl rfl | exact Or.inr rfl | assumption) dX4_clears_6 (fun H locs hP hD hS => ?_)
  have hP : va_P (dC, dI) vwCl (mW cI cZ k up lo ln cn tm se (upd isI w 0) we br ma sf pa) H := hP
  have hD : va_D A (mW cI cZ k up lo ln cn tm se (upd isI w 0) we br ma sf pa) := hD
  refine lv_aload_n hx hb dX4_clears_7 rfl (lv_at hl 0 rfl) ?_
  refine va_get (D := (dC, dI)) (ci := 4) (v := .ref (k 3)) (C := RX4) (T := TX4) (N := 22) hx hb hT hiX4 hown hK hP 0 rfl rfl 6 (by decide) (hT _ kf_X4_21) (fun _ h9 => h9) rfl dX4_clears_8 ?_
  refine lv_iload_n hx hb dX4_clears_11 rfl (lv_at hl 1 rfl) ?_
  refine lv_iconst (v := 0) hx hb dX4_clears_12 (by decide) ?_
  refine ast_i hx hb hK hP hD hS 3 0 rfl rfl (by decide) (w := w) rfl (by omega) dX4_clears_13 (fun H locs hP hD hS => ?_)
  have hP : va_P (dC, dI) vwCl (mW cI cZ k up lo ln cn tm se (upd isI w 0) (upd we w 0) br ma sf pa) H := hP
  have hD : va_D A (mW cI cZ k up lo ln cn tm se (upd isI w 0) (upd we w 0) br ma sf pa) := hD
  refine lv_aload_n hx hb dX4_clears_14 rfl (lv_at hl 0 rfl) ?_
  refine va_get (D := (dC, dI)) (ci := 4) (v := .ref (k 4)) (C := RX4) (T := TX4) (N := 22) hx hb hT hiX4 hown hK hP 0 rfl rfl 7 (by decide) (hT _ kf_X4_24) (fun _ h9 => h9) rfl dX4_clears_15 ?_
  refine lv_iload_n hx hb dX4_clears_18 rfl (lv_at hl 1 rfl) ?_
  refine lv_iconst (v := 0) hx hb dX4_clears_19 (by decide) ?_
  refine ast_z hx hb hK hP hD hS 4 2 rfl rfl (by decide) (w := w) rfl (by omega) (by first | exact Or.inl rfl | exact Or.inr rfl | assumption) dX4_clears_20 (fun H locs hP hD hS => ?_)
  have hP : va_P (dC, dI) vwCl (mW cI cZ k up lo ln cn tm se (upd isI w 0) (upd we w 0) (upd br w 0) ma sf pa) H := hP
  have hD : va_D A (mW cI cZ k up lo ln cn tm se (upd isI w 0) (upd we w 0) (upd br w 0) ma sf pa) := hD
  refine lv_aload_n hx hb dX4_clears_21 rfl (lv_at hl 0 rfl) ?_
  refine va_get (D := (dC, dI)) (ci := 4) (v := .ref (k 5)) (C := RX4) (T := TX4) (N := 22) hx hb hT hiX4 hown hK hP 0 rfl rfl 8 (by decide) (hT _ kf_X4_27) (fun _ h9 => h9) rfl dX4_clears_22 ?_
  refine lv_iload_n hx hb dX4_clears_25 rfl (lv_at hl 1 rfl) ?_
  refine lv_bipush (v := (-9)) hx hb dX4_clears_26 (by decide) ?_
  refine ast_i hx hb hK hP hD hS 5 0 rfl rfl (by decide) (w := w) rfl (by omega) dX4_clears_28 (fun H locs hP hD hS => ?_)
  have hP : va_P (dC, dI) vwCl (mW cI cZ k up lo ln cn tm se (upd isI w 0) (upd we w 0) (upd br w 0) (upd ma w (-9)) sf pa) H := hP
  have hD : va_D A (mW cI cZ k up lo ln cn tm se (upd isI w 0) (upd we w 0) (upd br w 0) (upd ma w (-9)) sf pa) := hD
  refine lv_aload_n hx hb dX4_clears_29 rfl (lv_at hl 0 rfl) ?_
  refine va_get (D := (dC, dI)) (ci := 4) (v := .ref (k 6)) (C := RX4) (T := TX4) (N := 22) hx hb hT hiX4 hown hK hP 0 rfl rfl 9 (by decide) (hT _ kf_X4_30) (fun _ h9 => h9) rfl dX4_clears_30 ?_
  refine lv_iload_n hx hb dX4_clears_33 rfl (lv_at hl 1 rfl) ?_
  refine lv_bipush (v := (-9)) hx hb dX4_clears_34 (by decide) ?_
  refine ast_i hx hb hK hP hD hS 6 0 rfl rfl (by decide) (w := w) rfl (by omega) dX4_clears_36 (fun H locs hP hD hS => ?_)
  have hP : va_P (dC, dI) vwCl (mW cI cZ k up lo ln cn tm se (upd isI w 0) (upd we w 0) (upd br w 0) (upd ma w (-9)) (upd sf w (-9)) pa) H := hP
  have hD : va_D A (mW cI cZ k up lo ln cn tm se (upd isI w 0) (upd we w 0) (upd br w 0) (upd ma w (-9)) (upd sf w (-9)) pa) := hD
  refine lv_aload_n hx hb dX4_clears_37 rfl (lv_at hl 0 rfl) ?_
  refine va_get (D := (dC, dI)) (ci := 4) (v := .ref (k 7)) (C := RX4) (T := TX4) (N := 22) hx hb hT hiX4 hown hK hP 0 rfl rfl 10 (by decide) (hT _ kf_X4_33) (fun _ h9 => h9) rfl dX4_clears_38 ?_
  refine lv_iload_n hx hb dX4_clears_41 rfl (lv_at hl 1 rfl) ?_
  refine lv_iconst (v := 0) hx hb dX4_clears_42 (by decide) ?_
  refine ast_i hx hb hK hP hD hS 7 0 rfl rfl (by decide) (w := w) rfl (by omega) dX4_clears_43 (fun H locs hP hD hS => ?_)
  have hP : va_P (dC, dI) vwCl (mW cI cZ k up lo ln cn tm se (upd isI w 0) (upd we w 0) (upd br w 0) (upd ma w (-9)) (upd sf w (-9)) (upd pa w 0)) H := hP
  have hD : va_D A (mW cI cZ k up lo ln cn tm se (upd isI w 0) (upd we w 0) (upd br w 0) (upd ma w (-9)) (upd sf w (-9)) (upd pa w 0)) := hD
  exact retM_v (S := Unit) (post := fun _ => True) (w2 := fun u => mW cI cZ k up lo ln cn tm se (upd isI w 0) (upd we w 0) (upd br w 0) (upd ma w (-9)) (upd sf w (-9)) (upd pa w 0)) () hx hb hr hlocks trivial hP hK hD hS dX4_clears_44
set_option maxHeartbeats 4000000 in
set_option maxRecDepth 100000 in
theorem c_X4_settles (sz : Nat) (w : Nat) (x : Int32) (hw : w < 6) (hm : mok ma) : Met l yX4_settles (wT yX4_settles cX4_settles 3 none) ({ frames := 0, cells := 0, slots := 0, locals := 0 }) (pM (dC, dI) (ty3 cI cJ cZ) (mW cI cZ k up lo ln cn tm se isI we br ma sf pa) [.ref (k 0), .int (nI w), .int x] sz) (va_Qv (S := (Nat → Int32)) (fun u => u = m_set ma sf w x) (fun u t9 => bM (dC, dI) (ty3 cI cJ cZ) (va_A (mW cI cZ k up lo ln cn tm se isI we br ma sf pa) sz) (mW cI cZ k up lo ln cn tm se isI we br ma u pa) t9) (va_A (mW cI cZ k up lo ln cn tm se isI we br ma sf pa) sz)) 0 0 (va_A (mW cI cZ k up lo ln cn tm se isI we br ma sf pa) sz) := by
  refine Met.ofW (cc := cX4_settles) (maxL := 3) (ret := none) (by decide) rfl ?_
  intro p e s m args below meth c s₁ B hml hv
  obtain ⟨rfl, hsz, hP, hK, hD0⟩ := hv
  have hx := B.exec
  have hb := B.bytes
  have hr := B.returns
  have hts := atoms_spec (ws := wT yX4_settles cX4_settles 3 none) B.pre
  have hT := wT_T hts
  have hown : s.vm.findClass RX4 = some m.cls := findClass_of_methodNamed B.named
  have hlocks := B.notSynchronized
  subst hsz
  have hD := hD0.self (sz := s.heap.size)
  generalize hAe : va_A (mW cI cZ k up lo ln cn tm se isI we br ma sf pa) s.heap.size = A at hD ⊢
  have hA : ∀ q : Nat, s.heap.size ≤ q → A q := fun q h => by rw [← hAe]; exact Or.inr h
  have hS : va_S A s.heap s.heap [] := va_S.rf
  have hl := lv_entry ([.ref (k 0), .int (nI w), .int x]) (n := 3) (Nat.le_of_ble_eq_true rfl)
  rw [lg_entry_eq]
  generalize (lg_sl ([.ref (k 0), .int (nI w), .int x]) ++ List.replicate (3 - (lg_sl ([.ref (k 0), .int (nI w), .int x])).length) Slot.unset).toArray = ls at hl ⊢
  have hl : lv_has ls 3 [(0, .ref (k 0)), (1, .int (nI w)), (2, .int x)] := hl
  refine lv_aload_n hx hb dX4_settles_0 rfl (lv_at hl 0 rfl) ?_
  refine va_get (D := (dC, dI)) (ci := 4) (v := .ref (k 6)) (C := RX4) (T := TX4) (N := 22) hx hb hT hiX4 hown hK hP 0 rfl rfl 9 (by decide) (hT _ kf_X4_30) (fun _ h9 => h9) rfl dX4_settles_1 ?_
  refine lv_iload_n hx hb dX4_settles_4 rfl (lv_at hl 1 rfl) ?_
  refine lv_iload_n hx hb dX4_settles_5 rfl (lv_at hl 2 rfl) ?_
  refine ast_i hx hb hK hP hD hS 6 0 rfl rfl (by decide) (w := w) rfl (by omega) dX4_settles_6 (fun H locs hP hD hS => ?_)
  have hP : va_P (dC, dI) vwCl (mW cI cZ k up lo ln cn tm se isI we br ma (upd sf w x) pa) H := hP
  have hD : va_D A (mW cI cZ k up lo ln cn tm se isI we br ma (upd sf w x) pa) := hD
  refine lv_aload_n hx hb dX4_settles_7 rfl (lv_at hl 0 rfl) ?_
  refine va_get (D := (dC, dI)) (ci := 4) (v := .ref (k 5)) (C := RX4) (T := TX4) (N := 22) hx hb hT hiX4 hown hK hP 0 rfl rfl 8 (by decide) (hT _ kf_X4_27) (fun _ h9 => h9) rfl dX4_settles_8 ?_
  refine lv_iload_n hx hb dX4_settles_11 rfl (lv_at hl 1 rfl) ?_
  refine ald_i hx hb hK hP 5 0 rfl rfl (by decide) (w := w) rfl (by omega) dX4_settles_12 ?_
  refine lv_bipush (v := (-9)) hx hb dX4_settles_13 (by decide) ?_
  refine lv_icmp_eq (tgt := 30) hx hb dX4_settles_15 (by decide) (fun c_15 => ?_) (fun c_15 => ?_)
  · exact retM_v (S := (Nat → Int32)) (post := fun u => u = m_set ma sf w x) (w2 := fun u => mW cI cZ k up lo ln cn tm se isI we br ma u pa) (upd sf w x) hx hb hr hlocks (by first | (have hc := c_15; unfold m_set; rw [if_pos hc]) | (have hc := c_15; unfold m_set; rw [if_neg hc])) hP hK hD hS dX4_settles_30
  · refine lv_aload_n hx hb dX4_settles_18 rfl (lv_at hl 0 rfl) ?_
    refine va_get (D := (dC, dI)) (ci := 4) (v := .ref (k 6)) (C := RX4) (T := TX4) (N := 22) hx hb hT hiX4 hown hK hP 0 rfl rfl 9 (by decide) (hT _ kf_X4_30) (fun _ h9 => h9) rfl dX4_settles_19 ?_
    refine lv_aload_n hx hb dX4_settles_22 rfl (lv_at hl 0 rfl) ?_
    refine va_get (D := (dC, dI)) (ci := 4) (v := .ref (k 5)) (C := RX4) (T := TX4) (N := 22) hx hb hT hiX4 hown hK hP 0 rfl rfl 8 (by decide) (hT _ kf_X4_27) (fun _ h9 => h9) rfl dX4_settles_23 ?_
    refine lv_iload_n hx hb dX4_settles_26 rfl (lv_at hl 1 rfl) ?_
    refine ald_i hx hb hK hP 5 0 rfl rfl (by decide) (w := w) rfl (by omega) dX4_settles_27 ?_
    refine lv_iload_n hx hb dX4_settles_28 rfl (lv_at hl 2 rfl) ?_
    refine ast_i hx hb hK hP hD hS 6 0 rfl rfl (by decide) (w := (m_mt ma w)) (m_idx hm hw c_15).1 (m_idx hm hw c_15).2 dX4_settles_29 (fun H locs hP hD hS => ?_)
    have hP : va_P (dC, dI) vwCl (mW cI cZ k up lo ln cn tm se isI we br ma (upd (upd sf w x) (m_mt ma w) x) pa) H := hP
    have hD : va_D A (mW cI cZ k up lo ln cn tm se isI we br ma (upd (upd sf w x) (m_mt ma w) x) pa) := hD
    exact retM_v (S := (Nat → Int32)) (post := fun u => u = m_set ma sf w x) (w2 := fun u => mW cI cZ k up lo ln cn tm se isI we br ma u pa) (upd (upd sf w x) (m_mt ma w) x) hx hb hr hlocks (by first | (have hc := c_15; unfold m_set; rw [if_pos hc]) | (have hc := c_15; unfold m_set; rw [if_neg hc])) hP hK hD hS dX4_settles_30
