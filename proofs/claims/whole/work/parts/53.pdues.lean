/-! ===== credits, rest, dues: class and reference ===== -/
section DUES
variable {ic bs st cw ln mn sp dn : Int32} {un isI ma br sf sfr we se pa se2 : Nat → Int32} {w i : Nat}
def SFb (sf : Nat → Int32) : Prop := ∀ w, w < 6 → 0 ≤ (sf w).toInt ∧ (sf w).toInt ≤ 1000000
def credI (ln : Int32) (we un sf : Nat → Int32) (w : Nat) (mn dn : Int32) : Int := if mn = 0 then (sf w).toInt * dn.toInt else if mn = 1 then ln.toInt * (x_sumN (un w) we 6).toInt else if ln.toInt * (x_sumN (un w) we 6).toInt < (sf w).toInt * dn.toInt then (sf w).toInt * dn.toInt else ln.toInt * (x_sumN (un w) we 6).toInt
theorem us_bd (hW : W1 we) : 0 ≤ (x_sumN (un w) we 6).toInt ∧ (x_sumN (un w) we 6).toInt ≤ 600 := by
  rw [x_sum_I (M := 100) hW (by omega)]
  exact w_nn hW (fun i => bt (un w) i)
theorem cred_bd (hW : W1 we) (hl : 0 ≤ ln.toInt ∧ ln.toInt ≤ 1000000) (hd : 1 ≤ dn.toInt ∧ dn.toInt ≤ 700) (hsf : SFb sf) (hw : w < 6) : 0 ≤ credI ln we un sf w mn dn ∧ credI ln we un sf w mn dn ≤ 700000000 := by
  have a := us_bd (un := un) (w := w) hW
  have m1 := mul_bd hl.1 hl.2 a.1 a.2
  have m2 := mul_bd (hsf w hw).1 (hsf w hw).2 (b := dn.toInt) (y := 700) (by omega) hd.2
  unfold credI
  split
  · omega
  · split
    · omega
    · split <;> omega
theorem cred_iL (hW : W1 we) (hl : 0 ≤ ln.toInt ∧ ln.toInt ≤ 1000000) (hd : 1 ≤ dn.toInt ∧ dn.toInt ≤ 700) (hsf : SFb sf) (hw : w < 6) : x_cred ln we un sf w mn dn = iL (credI ln we un sf w mn dn) := by
  have a := us_bd (un := un) (w := w) hW
  have m1 := mul_bd hl.1 hl.2 a.1 a.2
  have m2 := mul_bd (hsf w hw).1 (hsf w hw).2 (b := dn.toInt) (y := 700) (by omega) hd.2
  unfold x_cred credI
  rw [iL_32, iL_32, iL_32, iL_32, iL_mul, iL_mul]
  by_cases c : mn = 0
  · rw [if_pos c, if_pos c]
  · rw [if_neg c, if_neg c]
    by_cases c1 : mn = 1
    · rw [if_pos c1, if_pos c1]
    · rw [if_neg c1, if_neg c1]
      have hi := iL_lt (a := ln.toInt * (x_sumN (un w) we 6).toInt) (b := (sf w).toInt * dn.toInt) (by unfold rng; omega) (by unfold rng; omega)
      by_cases c2 : ln.toInt * (x_sumN (un w) we 6).toInt < (sf w).toInt * dn.toInt
      · rw [if_pos c2, if_pos (hi.mpr c2)]
      · rw [if_neg c2, if_neg (fun h => c2 (hi.mp h))]
def credS (ln ic : Int32) (we un sf : Nat → Int32) (mn st dn : Int32) (i : Nat) : Int := if bt (x_headsN ic un 6 &&& st) i = true then credI ln we un sf i mn dn else 0
theorem creds_iL (hW : W1 we) (hl : 0 ≤ ln.toInt ∧ ln.toInt ≤ 1000000) (hd : 1 ≤ dn.toInt ∧ dn.toInt ≤ 700) (hsf : SFb sf) : ∀ n, n ≤ 6 → x_credsN ln ic we un sf mn st dn n = iL (sN (credS ln ic we un sf mn st dn) n) := by
  intro n
  induction n with
  | zero => intro _; rfl
  | succ n ih =>
    intro hn
    have ih := ih (by omega)
    show (if bt (x_headsN ic un 6 &&& st) n = true then x_credsN ln ic we un sf mn st dn n + x_cred ln we un sf n mn dn else x_credsN ln ic we un sf mn st dn n) = iL (sN (credS ln ic we un sf mn st dn) n + (if bt (x_headsN ic un 6 &&& st) n = true then credI ln we un sf n mn dn else 0))
    split
    · rw [ih, cred_iL hW hl hd hsf (by omega), iL_add]
    · rw [ih, Int.add_zero]
theorem creds_bd (hW : W1 we) (hl : 0 ≤ ln.toInt ∧ ln.toInt ≤ 1000000) (hd : 1 ≤ dn.toInt ∧ dn.toInt ≤ 700) (hsf : SFb sf) : 0 ≤ sN (credS ln ic we un sf mn st dn) 6 ∧ sN (credS ln ic we un sf mn st dn) 6 ≤ 4200000000 := by
  have := sN_bd (f := credS ln ic we un sf mn st dn) (M := 700000000) (n := 6) (fun i hi => by
    have := cred_bd (un := un) (mn := mn) hW hl hd hsf hi
    unfold credS
    split <;> omega)
  omega
theorem C_I (h : RB ic un isI ma) (hW : W1 we) (hc : 0 ≤ cw.toInt ∧ cw.toInt ≤ 100) (hl : 0 ≤ ln.toInt ∧ ln.toInt ≤ 1000000) (hsf : SFb sf) : x_C ln cw ic we un sf mn st = sN (credS ln ic we un sf mn st (x_bd cw ic we)) 6 := by
  obtain ⟨-, -, -, b4, b5, b6⟩ := bl_bd h hW hc
  have hd : 1 ≤ (x_bd cw ic we).toInt ∧ (x_bd cw ic we).toInt ≤ 700 := by rw [b6]; exact ⟨b4, b5⟩
  unfold x_C
  rw [creds_iL hW hl hd hsf 6 (Nat.le_refl _)]
  have := creds_bd (ic := ic) (un := un) (mn := mn) (st := st) hW hl hd hsf
  exact iL_t (by unfold rng; omega)
-- ---- shares
theorem q_ne {d : Int} (h : 0 < d) : (d : Rat) ≠ 0 := ii_ne (by omega)
theorem q_add (a b d : Int) : Rat.divInt a d + Rat.divInt b d = Rat.divInt (a + b) d := by
  rw [rq_eq, rq_eq, rq_eq, Rat.intCast_add, Rat.div_def, Rat.div_def, Rat.div_def, Rat.add_mul]
theorem q_sub (a b d : Int) : Rat.divInt a d - Rat.divInt b d = Rat.divInt (a - b) d := by
  rw [rq_eq, rq_eq, rq_eq, Rat.intCast_sub]; grind
theorem q_can (a : Int) {d : Int} (h : 0 < d) : Rat.divInt (a * d) d = Rat.divInt a 1 := by
  have := q_ne h
  rw [rq_eq, rq_eq, Rat.intCast_mul]
  have e : ((1 : Int) : Rat) = 1 := rfl
  rw [e]; grind
theorem q_nd (n : Int) {d : Int} (h : 0 < d) : (Rat.divInt n d).num * d = n * ((Rat.divInt n d).den : Int) := by
  rw [rq_num n d h, rq_den n d h]
  have h1 : ((Nat.gcd n.natAbs d.natAbs : Nat) : Int) ∣ n := Int.gcd_dvd_left (a := n) (b := d)
  have h2 : ((Nat.gcd n.natAbs d.natAbs : Nat) : Int) ∣ d := Int.gcd_dvd_right (a := n) (b := d)
  have hg : 0 < Nat.gcd n.natAbs d.natAbs := gcd_pos_r h
  generalize Nat.gcd n.natAbs d.natAbs = g at h1 h2 hg
  obtain ⟨x, rfl⟩ := h1
  obtain ⟨y, rfl⟩ := h2
  rw [Int.mul_tdiv_cancel_left _ (by omega), Int.mul_tdiv_cancel_left _ (by omega)]
  rw [Int.mul_left_comm, Int.mul_assoc]
theorem q_le_iff (z n : Int) {d : Int} (h : 0 < d) : z * ((Rat.divInt n d).den : Int) ≤ (Rat.divInt n d).num ↔ z * d ≤ n := by
  have e := q_nd n h
  have hp : 0 < ((Rat.divInt n d).den : Int) := by have := (Rat.divInt n d).den_pos; omega
  generalize (Rat.divInt n d).num = a at e ⊢
  generalize ((Rat.divInt n d).den : Int) = b at e hp ⊢
  constructor
  · intro h1
    have h2 : z * b * d ≤ a * d := Int.mul_le_mul_of_nonneg_right h1 (by omega)
    rw [e, Int.mul_right_comm] at h2
    exact Int.le_of_mul_le_mul_right h2 hp
  · intro h1
    have h2 : z * d * b ≤ n * b := Int.mul_le_mul_of_nonneg_right h1 (by omega)
    rw [← e, Int.mul_right_comm] at h2
    exact Int.le_of_mul_le_mul_right h2 h
theorem q_nn (n : Int) {d : Int} (h : 0 < d) : 0 ≤ (Rat.divInt n d).num ↔ 0 ≤ n := by
  have := q_le_iff 0 n h
  rw [Int.zero_mul, Int.zero_mul] at this
  exact this
theorem q_z0 (n : Int) {d : Int} (h : 0 < d) : Rat.divInt n d = 0 ↔ n = 0 := by
  constructor
  · intro e
    have g := q_nd n h
    rw [e] at g
    have g : 0 * d = n * ((1 : Nat) : Int) := g
    omega
  · intro e; rw [e]; exact q_z d
-- ---- credits
theorem uw_bl (h : RB ic un isI ma) (hW : W1 we) (hc : 0 ≤ cw.toInt ∧ cw.toInt ≤ 100) (hw : w < 6) (hin : ¬ isI w = 0) (hb : (m_blN cw isI we 6).toInt ≤ 0) : (m_uw we ma w).toInt = 0 := by
  have e := bl_I (isI := isI) hW hc
  have g : ∀ v, v < 6 → ¬ isI v = 0 → (we v).toInt = 0 := by
    intro v hv hiv
    have := sN_ge (f := fun i => if isI i = 0 then 0 else (we i).toInt) (n := 6) (j := v) (fun i hi => by
      have := hW i hi
      show 0 ≤ (if isI i = 0 then 0 else (we i).toInt)
      split <;> omega) hv
    have e2 : (if isI v = 0 then 0 else (we v).toInt) = (we v).toInt := if_neg hiv
    rw [e2] at this
    have := hW v hv
    omega
  rw [uw_I h.1 hw hW, g w hw hin, g _ (mt_inv h.1 w hw).1 (fun e2 => hin ((RB_in h hw).mp e2))]
  split <;> rfl
theorem cb_eq (h : RB ic un isI ma) (hW : W1 we) (hc : 0 ≤ cw.toInt ∧ cw.toInt ≤ 100) (hw : w < 6) (hin : ¬ isI w = 0) (hn : ¬ sfr w = -9) : m_cb ln cw isI we ma sfr w = Rat.divInt (ln.toInt * (m_uw we ma w).toInt) (x_dn cw ic we) := by
  obtain ⟨b1, b2, b3, b4, b5, -⟩ := bl_bd h hW hc
  unfold m_cb
  rw [if_neg hn]
  by_cases c : m_blN cw isI we 6 ≤ 0
  · have c2 : (m_blN cw isI we 6).toInt ≤ 0 := Int32.le_iff_toInt_le.mp c
    rw [if_pos c, uw_bl h hW hc hw hin c2, Int.mul_zero, q_z, q_z]
  · have c2 := le0_of c
    rw [if_neg c, b3, if_neg (by omega)]
theorem cr_eq (h : RB ic un isI ma) (hs : RS ma sfr sf st) (hW : W1 we) (hc : 0 ≤ cw.toInt ∧ cw.toInt ≤ 100) (hw : w < 6) (hin : ¬ isI w = 0) (he : se2 0 = mn) (hmn : mn = 0 ∨ mn = 1 ∨ mn = 2) : m_cr ln cw se2 isI we ma sfr w = Rat.divInt (if bt st w = true then credI ln we un sf w mn (x_bd cw ic we) else 0) (x_dn cw ic we) := by
  obtain ⟨b1, b2, b3, b4, b5, b6⟩ := bl_bd h hW hc
  by_cases hn : sfr w = -9
  · rw [if_neg ((hs.1 w hw).mp hn), q_z]
    unfold m_cr m_sv m_cb
    rw [if_pos hn, if_pos hn, q_z]
    split
    · rfl
    · split
      · split <;> rfl
      · rfl
  · rw [if_pos ((RS_bt hs hw).mpr hn)]
    have e1 := cb_eq (ln := ln) h hW hc hw hin hn
    have e2 : m_sv sfr w = (sf w).toInt := by unfold m_sv; rw [if_neg hn, hs.2.1 w hw hn]
    unfold m_cr credI
    rw [e1, e2, he, x_uw h hw hin hW, b6]
    rcases hmn with rfl | rfl | rfl
    · rw [if_pos rfl, if_pos rfl, q_can _ (by omega)]
    · rw [if_neg (by decide), if_neg (by decide), if_neg (by decide), if_pos rfl]
    · have d20 : ¬ (2 : Int32) = 0 := by decide
      have d21 : ¬ (2 : Int32) = 1 := by decide
      rw [if_neg d20, if_pos rfl, if_neg d20, if_neg d21]
      have g := q_le_iff (sf w).toInt (ln.toInt * (m_uw we ma w).toInt) (d := x_dn cw ic we) (by omega)
      by_cases c : (sf w).toInt * x_dn cw ic we ≤ ln.toInt * (m_uw we ma w).toInt
      · rw [if_pos (g.mpr c), if_neg (by omega)]
      · rw [if_neg (fun h2 => c (g.mp h2)), if_pos (by omega), q_can _ (by omega)]
theorem crN_eq (h : RB ic un isI ma) (hs : RS ma sfr sf st) (hW : W1 we) (hc : 0 ≤ cw.toInt ∧ cw.toInt ≤ 100) (he : se2 0 = mn) (hmn : mn = 0 ∨ mn = 1 ∨ mn = 2) : ∀ n, n ≤ 6 → m_crN ln cw se2 isI we ma sfr n = Rat.divInt (sN (credS ln ic we un sf mn st (x_bd cw ic we)) n) (x_dn cw ic we) := by
  intro n
  induction n with
  | zero => intro _; exact (q_z _).symm
  | succ n ih =>
    intro hn
    have ih := ih (by omega)
    show _ = Rat.divInt (sN (credS ln ic we un sf mn st (x_bd cw ic we)) n + credS ln ic we un sf mn st (x_bd cw ic we) n) (x_dn cw ic we)
    have hh := heads_iff (i := n) h
    unfold credS
    by_cases hu : m_isU isI ma n
    · rw [m_crN_p hu, ih, cr_eq h hs hW hc (by omega) hu.1 he hmn, q_add]
      have e : bt (x_headsN ic un 6 &&& st) n = bt st n := by rw [b_and, hh.mpr ⟨by omega, hu⟩, Bool.true_and]
      rw [e]; rfl
    · rw [m_crN_n hu, ih]
      have e : ¬ bt (x_headsN ic un 6 &&& st) n = true := by
        rw [b_and, Bool.and_eq_true]
        exact fun h2 => hu (hh.mp h2.1).2
      rw [if_neg e, Int.add_zero]; rfl
theorem re_eq (h : RB ic un isI ma) (hs : RS ma sfr sf st) (hW : W1 we) (hc : 0 ≤ cw.toInt ∧ cw.toInt ≤ 100) (hl : 0 ≤ ln.toInt ∧ ln.toInt ≤ 1000000) (hsf : SFb sf) (he2 : se2 2 = se 2) (he : se2 0 = mn) (hmn : mn = 0 ∨ mn = 1 ∨ mn = 2) :
    m_re ln cw se2 isI we ma sfr = o_re (x_E ln cw ic se we) (x_C ln cw ic we un sf mn st) (x_dn cw ic we) := by
  obtain ⟨b1, b2, b3, b4, b5, b6⟩ := bl_bd h hW hc
  unfold m_re o_re o_R
  rw [ent_eq (se := se) h hW hc hl he2, crN_eq h hs hW hc he hmn 6 (Nat.le_refl _), ← C_I h hW hc hl hsf, q_sub]
  have g := q_nn (x_E ln cw ic se we - x_C ln cw ic we un sf mn st) (d := x_dn cw ic we) (by omega)
  by_cases c : 0 < x_E ln cw ic se we - x_C ln cw ic we un sf mn st
  · rw [if_pos (g.mpr (by omega)), if_pos c]
  · rw [if_neg c, q_z]
    by_cases c2 : 0 ≤ x_E ln cw ic se we - x_C ln cw ic we un sf mn st
    · rw [if_pos (g.mpr c2), show x_E ln cw ic se we - x_C ln cw ic we un sf mn st = 0 by omega, q_z]
    · rw [if_neg (fun h2 => c2 (g.mp h2)), q_z]
-- ---- dues
theorem pw_alg (R dn op la sh u : Rat) (h1 : dn ≠ 0) (h2 : op ≠ 0) (h3 : sh ≠ 0) : R / dn * (u / op + la * u / (op * sh)) = R * (sh + la) / (dn * op * sh) * u := by grind
theorem pw_alg0 (R dn op u : Rat) (h1 : dn ≠ 0) (h2 : op ≠ 0) : R / dn * (u / op) = R / (dn * op) * u := by grind
abbrev c_ow (isI br ma sfr : Nat → Int32) (u : Nat) : Prop := m_isU isI ma u ∧ sfr u = -9 ∧ ¬ m_ubr br ma u
/-- what the class finds for each 1 of weight -/
abbrev xPW (ln cw ic : Int32) (se we un sf : Nat → Int32) (mn sp st bs : Int32) : Rat := o_pw (x_E ln cw ic se we) (x_C ln cw ic we un sf mn st) (x_dn cw ic we) ((x_op ic we st).toInt) ((x_la ic we un st bs).toInt) ((x_sh cw ic we un sp st bs).toInt)
abbrev xDU (ln cw ic : Int32) (se we un sf : Nat → Int32) (mn sp st bs : Int32) : Rat := o_du (x_E ln cw ic se we) (x_C ln cw ic we un sf mn st) (x_dn cw ic we) ((x_op ic we st).toInt) ((x_la ic we un st bs).toInt) ((x_sh cw ic we un sp st bs).toInt)
theorem dU_eq (h : RB ic un isI ma) (hs : RS ma sfr sf st) (hr : RR br bs) (hW : W1 we) (hc : 0 ≤ cw.toInt ∧ cw.toInt ≤ 100) (hl : 0 ≤ ln.toInt ∧ ln.toInt ≤ 1000000) (hsf : SFb sf) (he2 : se2 2 = se 2) (he : se2 0 = mn) (he1 : se2 1 = sp) (hmn : mn = 0 ∨ mn = 1 ∨ mn = 2) (hi : i < 6) :
    m_dU ln cw se2 isI we br ma sfr i = xPW ln cw ic se we un sf mn sp st bs * iQ (if c_ow isI br ma sfr i then (m_uw we ma i).toInt else 0) := by
  obtain ⟨b1, b2, b3, b4, b5, b6⟩ := bl_bd h hW hc
  obtain ⟨o1, o2, o3, o4, o5⟩ := op_all h hs hr hW
  have hsb := sh_bd (sp := sp) h hs hr hW hc
  have hse := sh_eq (cw := cw) h hs hr hW he1
  have z0 : iQ 0 = 0 := rfl
  by_cases c : c_ow isI br ma sfr i
  · rw [if_pos c]
    by_cases c2 : m_opN 1 isI we br ma sfr 6 ≤ 0
    · have c3 : (m_opN 1 isI we br ma sfr 6).toInt ≤ 0 := Int32.le_iff_toInt_le.mp c2
      rw [m_dU_n (fun h2 => h2.2.2.2 c2)]
      have c4 : (x_op ic we st).toInt = 0 := by rw [← o1] at c3; omega
      have e : xPW ln cw ic se we un sf mn sp st bs = 0 := by
        show o_pw _ _ _ _ _ _ = 0
        unfold o_pw
        rw [c4, Int.mul_zero, Int.zero_mul, Rat.divInt_zero, Rat.divInt_zero, ite_self]
      rw [e, Rat.zero_mul]
    · rw [m_dU_p ⟨c.1, c.2.1, c.2.2, c2⟩, re_eq (se := se) h hs hW hc hl hsf he2 he hmn]
      have c3 := le0_of c2
      have hbk : (m_opN 1 isI we br ma sfr 6 - m_opN 0 isI we br ma sfr 6).toInt = (x_la ic we un st bs).toInt := by
        rw [i32_sub (by rw [← o1]; omega) (by rw [← o1]; omega), ← o1]; omega
      show o_re _ _ _ * _ = o_pw _ _ _ _ _ _ * _
      unfold m_x o_pw o_re
      rw [← hse, hbk, ← o1]
      rw [← o1] at c3
      have n1 := q_ne (d := x_dn cw ic we) (by omega)
      have n2 := q_ne (d := (x_op ic we st).toInt) (by omega)
      by_cases c4 : x_sh cw ic we un sp st bs ≤ 0
      · have c5 : (x_sh cw ic we un sp st bs).toInt ≤ 0 := Int32.le_iff_toInt_le.mp c4
        rw [if_pos c4, if_pos (by omega), rq_eq, rq_eq, rq_eq, Rat.intCast_mul]
        exact pw_alg0 _ _ _ _ n1 n2
      · have c5 := le0_of c4
        have n3 := q_ne (d := (x_sh cw ic we un sp st bs).toInt) (by omega)
        rw [if_neg c4, if_neg (by omega), rq_eq, rq_eq, rq_eq, rq_eq, Rat.intCast_mul, Rat.intCast_mul, Rat.intCast_mul, Rat.intCast_mul, Rat.intCast_mul, Rat.intCast_add]
        exact pw_alg _ _ _ _ _ _ n1 n2 n3
  · rw [if_neg c, m_dU_n (fun h2 => c ⟨h2.1, h2.2.1, h2.2.2.1⟩), z0, Rat.mul_zero]
theorem duN_add (n : Nat) : m_duN ln cw se2 isI we br ma sfr (n + 1) = m_duN ln cw se2 isI we br ma sfr n + m_dU ln cw se2 isI we br ma sfr n := by
  by_cases c : m_ow isI we br ma sfr n
  · exact m_duN_p c
  · rw [m_duN_n c, m_dU_n c, Rat.add_zero]
theorem duN_eq (h : RB ic un isI ma) (hs : RS ma sfr sf st) (hr : RR br bs) (hW : W1 we) (hc : 0 ≤ cw.toInt ∧ cw.toInt ≤ 100) (hl : 0 ≤ ln.toInt ∧ ln.toInt ≤ 1000000) (hsf : SFb sf) (he2 : se2 2 = se 2) (he : se2 0 = mn) (he1 : se2 1 = sp) (hmn : mn = 0 ∨ mn = 1 ∨ mn = 2) :
    m_duN ln cw se2 isI we br ma sfr 6 = xDU ln cw ic se we un sf mn sp st bs := by
  have g : ∀ n, n ≤ 6 → m_duN ln cw se2 isI we br ma sfr n = xPW ln cw ic se we un sf mn sp st bs * iQ (sN (fun i => if c_ow isI br ma sfr i then (m_uw we ma i).toInt else 0) n) := by
    intro n
    induction n with
    | zero => intro _; show (0 : Rat) = _ * iQ 0; rw [show iQ 0 = 0 from rfl, Rat.mul_zero]
    | succ n ih =>
      intro hn
      rw [duN_add, ih (by omega), dU_eq (se := se) h hs hr hW hc hl hsf he2 he he1 hmn (by omega)]
      show _ = _ * iQ (sN _ n + _)
      rw [← Rat.mul_add, ← Rat.intCast_add]
  obtain ⟨o1, o2, o3, o4, o5⟩ := op_all h hs hr hW
  rw [g 6 (Nat.le_refl _)]
  show _ = o_pw _ _ _ _ _ _ * _
  have e : sN (fun i => if c_ow isI br ma sfr i then (m_uw we ma i).toInt else 0) 6 = (x_op ic we st).toInt - (x_la ic we un st bs).toInt := by
    rw [← o2, (op0_I (br := br) h hs hW).1, ← sN_unit (mt_inv h.1) (fun w => p1 isI sfr w && !p2 br ma w) (fun w hw => by rw [p1_mt h hs hw, p2_mt h.1 hw]) (fun w => (we w).toInt)]
    refine sN_congr (fun i hi => ?_)
    have hq := op0_c (sfr := sfr) (br := br) h hi
    by_cases c : c_ow isI br ma sfr i
    · rw [if_pos c, if_pos (hq.mp ⟨c.1, c.2.1, Or.inr c.2.2⟩), uw_I h.1 hi hW]
    · rw [if_neg c, if_neg (fun h2 => c (by have := hq.mpr h2; exact ⟨this.1, this.2.1, this.2.2.elim (fun h3 => absurd rfl h3) id⟩))]
  rw [e]
end DUES
