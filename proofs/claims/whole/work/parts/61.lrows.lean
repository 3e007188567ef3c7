/-! THE CLAIM OUT OF ONE WALK OF THE LAW'S BODY. Your part is whole_start (and what it stands on); all else here is the same for every law, but numbers. -/
def R_law : String := "SharedFaultLaw"
def lw_P (b : Addr) (xs : List Int32) (args : Array Value) (s : State) : Prop := args = #[.ref b] ∧ s.IntsAt b xs ∧ xs.length ≤ 2048 ∧ (Jvm.Cond.and given_1 narrow_1).before args s = true
def lw_Q (_ : Array Value) (s : State) (o : Outcome) (t : State) : Prop := o = .returned (some (.int 1)) ∧ Framed s o t [] 737410 6890017
def lw_Z (below : List Frame) (a : Array Value) (s : State) : State → Prop := fun t => ∃ o, t.status = .running ∧ Ended t below o ∧ lw_Q a s o t
/-- the law's own end, with 1 on the stack, nothing written that was there before, its room as the claim has it -/
theorem lw_ret {p : Program} {l : Launch} {e : Env} {s : State} {m : MethodId} {below : List Frame} {meth : Method} {c : Code} {b : Nat} (hx : p.tables.exec = Jvm.exec) (hb : c.code = code) (hr : meth.sig.returnType = ret) (hlocks : meth.locks = false) {pc : Nat} {H : Heap} {ls : Array Slot} (hdg : decode code pc = .ok (.ireturn, 1)) : W p l e room_1 s m #[Value.ref b] below meth c H [] 737410 6890017 (lw_Z below #[Value.ref b] s) (F0 m pc ls [.int 1]) := by
  intro T hT X
  obtain ⟨fs, hret, hrun, hended, hW, hframe⟩ := X.leave (v := some (.int 1)) (hlocks := hlocks) (fun h => by rw [hr] at h; cases h)
  have hmeth' : T.vm.method? m = some meth := X.method'
  refine ⟨T.setFrames fs, ?_, .returned (some (.int 1)), hrun, hended, rfl, ⟨_, rfl⟩, hW, hframe⟩
  jvm_step X.here [X.here.top, hx, hb, hdg, hmeth', hr, ret, narrow_b1]
  (try refine ⟨rfl, ?_⟩); (try refine ⟨rfl, ?_⟩)
  first | (intro acts; rw [hret _ acts rfl rfl rfl]) | rw [hret _ _ rfl rfl rfl]
  exact Steps.refl _
/-- what holds at the law's entry: the machine, the code, the tables' words (any of lw_tbl by 'hts w (by decide +kernel)'), the script of L ints xs at the cell b, what the Statement gives of the start (any of its parts by flat_of_before) -/
def lw_At (p : Program) (s : State) (m : MethodId) (meth : Method) (c : Code) (b L : Nat) (xs : Nat → Int32) : Prop :=
  p.tables.exec = Jvm.exec ∧ c.code = code ∧ meth.sig.returnType = ret ∧ c.maxLocals = 4 ∧ s.vm.findClass R_law = some m.cls ∧ (∀ w ∈ lw_tbl, w.before #[Value.ref b] s = true) ∧ va_X b L xs s s.heap ∧ b < s.heap.size ∧ meth.locks = false ∧ (Jvm.Cond.and given_1 narrow_1).before #[Value.ref b] s = true
/-! ===== the law: rows over its script, calls that read the greatest settings ===== -/
section LROW
variable {p : Program} {l : Launch} {e : Env} {R : Room} {s : State} {m : MethodId} {args : Array Value} {below : List Frame} {meth : Method} {c : Code} {H : Heap} {locs : List Loc} {cells slots : Nat} {Q : State → Prop}
variable {pc : Nat} {ls : Array Slot} {rest st0 : List Value} {cc : ByteArray} {D : va_G} {tys : List (ClassId × FieldType)} {ws wc wr : va_W} {A : Nat → Prop} {H0 : Heap}
theorem sld_n (hexec : p.tables.exec = Jvm.exec) (hb : c.code = cc) {b L : Nat} {xs : Nat → Int32} (hX : va_X b L xs s H0) (hbl : b < H0.size) (hbA : ¬ A b) (hS : va_S A H0 H locs) {i : Int32} {w : Nat} (hi : i = nI w) (hw : w < L) (hL : L < 2 ^ 31) (hdg : decode cc pc = .ok (.iaload, 1))
    (kk : W p l e R s m args below meth c H locs cells slots Q (F0 m (pc + 1) ls (.int (xs w) :: rest))) : W p l e R s m args below meth c H locs cells slots Q (F0 m pc ls (.int i :: .ref b :: rest)) := by
  subst hi
  refine va_sld hexec hb hX hbl hbA hS (vp_in_nI hw hL) hdg ?_
  rw [nI_clamp (by omega)]
  exact kk
theorem SM_move {B : Nat → Prop} {U : State} (h : SMf A s) (hS : va_S A s.heap H locs) (hU : U.heap = H) (hv : s.vm.Alike U.vm) (hB : ∀ q, B q → A q) : SMf B U := by
  obtain ⟨t, h1, h2⟩ := h
  refine ⟨t, ?_, ?_⟩
  · rw [hU]; exact va_Z.moved hv ((h1.kept (fun a ha hn => hS.2.1 a ha hn)).narrow hB)
  · rw [hU]; exact va_T.moved hv ((h2.kept (fun a ha hn => hS.2.1 a ha hn)).narrow hB)
theorem rMVs {own C : String} {index n maxL nL mc ms : Nat} {y : MethodName} {bytes : ByteArray} {ret : Option FieldType} {wsy : List Cond} {rm : Room} {Qc : Array Value → State → Outcome → State → Prop} {free B : Addr → Prop} {b : Addr} {As : List Value} {Ts : List Cond} {locs0 : List Loc} (S : CallFix p m c cc nL s args Ts own) (hM : Met l y wsy rm (pMs D tys wc (.ref b :: As) H.size) Qc mc ms free) (cw : CallW R s args own C index y bytes maxL ret wsy rm mc ms n) (hP : va_P D vwCl wc H) (hD : va_D B wc) (hK : va_K D vwCl tys s) (hSM : SMf A s) (hS : va_S A s.heap H locs0) (hF : ∀ q, va_A wc H.size q → A q) (hrec : ∃ cell : Cell, H[b]? = some cell ∧ cell.vm.isStatics = false ∧ s.vm.findClass C = some cell.cls) (hn : As.length = n) (hsz : ls.size = nL) (hst : st0 = As.reverse ++ .ref b :: rest) (hW : (rest.map fun v => v.category).sum ≤ 8) (hdg : decode cc pc = .ok (.invokevirtual index, 3)) (hf : cells + mc ≤ R.cells ∧ slots + ms ≤ R.slots) :
    va_Run p l e R s m args below meth c H locs cells slots mc ms (F0 m pc ls st0) rest (Qc (Value.ref b :: As).toArray) free :=
  va_runV S hM cw ⟨pMs_blind, hrec, fun U hU hW => ⟨rfl, by rw [hU], by rw [hU]; exact hP, va_K.moved hW.alike hK, hD.weaken (fun _ _ _ _ => trivial), SM_move hSM hS hU hW.alike hF⟩⟩ rfl hn hsz hst (lv_room hW) hdg hf
theorem rNVs {own C : String} {index n maxL nL mc ms : Nat} {y : MethodName} {bytes : ByteArray} {ret : Option FieldType} {wsy : List Cond} {rm : Room} {Qc : Array Value → State → Outcome → State → Prop} {free : Addr → Prop} {b : Addr} {As : List Value} {Ts : List Cond} {locs0 : List Loc} (S : CallFix p m c cc nL s args Ts own) (hM : Met l y wsy rm (pNs D tys wc (.ref b :: As) H.size) Qc mc ms free) (cw : CallW R s args own C index y bytes maxL ret wsy rm mc ms n) (hP : va_P D vwCl wc H) (hK : va_K D vwCl tys s) (hSM : SMf A s) (hS : va_S A s.heap H locs0) (hF : ∀ q, H.size ≤ q → A q) (hrec : ∃ cell : Cell, H[b]? = some cell ∧ cell.vm.isStatics = false ∧ s.vm.findClass C = some cell.cls) (hn : As.length = n) (hsz : ls.size = nL) (hst : st0 = As.reverse ++ .ref b :: rest) (hW : (rest.map fun v => v.category).sum ≤ 8) (hdg : decode cc pc = .ok (.invokevirtual index, 3)) (hf : cells + mc ≤ R.cells ∧ slots + ms ≤ R.slots) :
    va_Run p l e R s m args below meth c H locs cells slots mc ms (F0 m pc ls st0) rest (Qc (Value.ref b :: As).toArray) free :=
  va_runV S hM cw ⟨pNs_blind, hrec, fun U hU hW => ⟨rfl, by rw [hU], by rw [hU]; exact hP, va_K.moved hW.alike hK, SM_move hSM hS hU hW.alike hF⟩⟩ rfl hn hsz hst (lv_room hW) hdg hf
theorem rMIn {own : String} {index n maxL nL mc ms : Nat} {y : MethodName} {bytes : ByteArray} {wsy : List Cond} {rm : Room} {Qc : Array Value → State → Outcome → State → Prop} {free B : Addr → Prop} {b : Addr} {As : List Value} {Ts : List Cond} (S : CallFix p m c cc nL s args Ts own) (hM : Met l y wsy rm (pMn D tys wc (.ref b :: As) H.size) Qc mc ms free) (cw : CallB R s args own index y bytes maxL none wsy rm mc ms n ∧ y.name = "<init>" ∧ (Cond.instanceMethod y).before args s = true) (hP : va_P D vwCl wc H) (hD : va_D B wc) (hK : va_K D vwCl tys s) (hNw : va_Nw nestW s) (hn : As.length = n) (hsz : ls.size = nL) (hst : st0 = As.reverse ++ .ref b :: rest) (hW : (rest.map fun v => v.category).sum ≤ 8) (hdg : decode cc pc = .ok (.invokespecial index, 3)) (hf : cells + mc ≤ R.cells ∧ slots + ms ≤ R.slots) :
    va_Run p l e R s m args below meth c H locs cells slots mc ms (F0 m pc ls st0) rest (Qc (Value.ref b :: As).toArray) free :=
  va_runI S hM cw ⟨pMn_blind, fun U hU hW => ⟨rfl, by rw [hU], by rw [hU]; exact hP, va_K.moved hW.alike hK, hD.weaken (fun _ _ _ _ => trivial), va_Nw.warmM hW hNw⟩⟩ rfl hn hsz hst (lv_room hW) hdg hf
end LROW
section LHYP
variable {ln cw ic bs ss : Int32} {se we un sf pa isI br ma sfr : Nat → Int32} {j : Nat}
theorem I_dn (I : INV ln cw ic bs ss se we un sf pa isI br ma sfr) : 1 ≤ x_dn cw ic we ∧ x_dn cw ic we ≤ 700 := by
  obtain ⟨-, -, -, b4, b5, -⟩ := bl_bd (I_rb I) (I_w I) (I_c I)
  exact ⟨b4, b5⟩
theorem I_xp (I : INV ln cw ic bs ss se we un sf pa isI br ma sfr) : 0 ≤ (x_sumN ic pa 6).toInt ∧ (x_sumN ic pa 6).toInt ≤ 10000000 := by
  have := pa_nn (I_p I)
  have := (I_p I).2
  rw [I_px I]; omega
theorem I_mp (I : INV ln cw ic bs ss se we un sf pa isI br ma sfr) : 0 ≤ (m_paN pa 6).toInt ∧ (m_paN pa 6).toInt ≤ 10000000 := by
  have := pa_nn (I_p I)
  have := (I_p I).2
  rw [I_pm I]; omega
theorem I_pw (I : INV ln cw ic bs ss se we un sf pa isI br ma sfr) : ∀ j, j < 6 → 0 ≤ (pa j).toInt ∧ (pa j).toInt ≤ 10000000 := fun j hj => by
  have := pa_le (I_p I) hj
  omega
theorem I_fu (I : INV ln cw ic bs ss se we un sf pa isI br ma sfr) : ∀ j, j < 6 → rng (x_fairUp ic bs ss we un pa j (iL (xDU ln cw ic se we un sf (se 0) (se 1) ss bs).num)).toInt := fun j hj => by
  have := (fu_I I hj).2
  unfold rng; omega
theorem I_ou (I : INV ln cw ic bs ss se we un sf pa isI br ma sfr) : ∀ j, j < 6 → rng (x_overUp ic bs ss we un pa j (iL (xDU ln cw ic se we un sf (se 0) (se 1) ss bs).num) (iL (xFD ln cw ic se we un sf (se 0) (se 1) ss bs))).toInt := fun j hj => by
  have := (ou_I I hj).2
  unfold rng; omega
theorem I_D (I : INV ln cw ic bs ss se we un sf pa isI br ma sfr) : 0 < (xFD ln cw ic se we un sf (se 0) (se 1) ss bs).natAbs ∧ (xFD ln cw ic se we un sf (se 0) (se 1) ss bs).natAbs ≤ 100000 := by
  have := fd_I I
  omega
theorem I_mb (I : INV ln cw ic bs ss se we un sf pa isI br ma sfr) : ∀ j, j < 6 → ¬ isI j = 0 → ∃ D, 0 < D ∧ D ≤ 205800000000 ∧ bd ((m_re ln cw se isI we ma sfr) - (m_duN ln cw se isI we (upd br j 1) ma sfr 6)) D 2000000 ∧ bd ((m_re ln cw se isI we ma sfr) - (m_duN ln cw se isI we (upd br j 0) ma sfr 6)) D 2000000 := by
  intro j hj hn
  have h1 := xok (I_rb I) (I_rs I) (RR_1 (I_rr I) hj) (I_w I) (I_c I) (I_l I) (I_sf I) se (se 0) (se 1)
  have h2 := xok (I_rb I) (I_rs I) (RR_0 (I_rr I) hj) (I_w I) (I_c I) (I_l I) (I_sf I) se (se 0) (se 1)
  obtain ⟨d1, d2, d3, d4⟩ := o_D2_bd h1 h2
  refine ⟨_, d1, d2, ?_, ?_⟩
  · rw [I_re I, duN_eq (se := se) (bs := bs ||| x_bit j) (I_rb I) (I_rs I) (RR_1 (I_rr I) hj) (I_w I) (I_c I) (I_l I) (I_sf I) rfl rfl rfl (I_se I)]
    exact bd_dvd (o_mi_bd h1) d1 d3
  · rw [I_re I, duN_eq (se := se) (bs := bs &&& (x_bit j ^^^ (-1))) (I_rb I) (I_rs I) (RR_0 (I_rr I) hj) (I_w I) (I_c I) (I_l I) (I_sf I) rfl rfl rfl (I_se I)]
    exact bd_dvd (o_mi_bd h2) d1 d4
end LHYP
/-- what the law's loop keeps -/
def LSt (dC : Nat → ClassId) (dI : Nat → Nat → Nat) (cI cJ cZ : ClassId) (s : State) (q k : Nat → Nat) (H : Heap) (locs : List Loc) : Prop := ∃ (u : XS) (f : FV) (w : MS) (t : TS × Int32), INVt u w ∧ va_P (dC, dI) vwCl (xWt cI q u ++ fWv cI cJ q f ++ mQ cI cZ k t.1.1.1 w.1 w.2.1 t.2 w.2.2.1 w.2.2.2.1 w.2.2.2.2.1 w.2.2.2.2.2.1 w.2.2.2.2.2.2.1 w.2.2.2.2.2.2.2.1 w.2.2.2.2.2.2.2.2 ++ mS cJ k t.1.1.2.1 t.1.1.2.2.1 t.1.1.2.2.2.1 t.1.1.2.2.2.2 ++ mT cI cJ k t.1.2.2.1 t.1.2.2.2.1 t.1.2.2.2.2.1 t.1.2.2.2.2.2.1 t.1.2.2.2.2.2.2.1 t.1.2.2.2.2.2.2.2) H ∧ va_D (fun x : Nat => s.heap.size ≤ x) (xWt cI q u ++ fWv cI cJ q f ++ mQ cI cZ k t.1.1.1 w.1 w.2.1 t.2 w.2.2.1 w.2.2.2.1 w.2.2.2.2.1 w.2.2.2.2.2.1 w.2.2.2.2.2.2.1 w.2.2.2.2.2.2.2.1 w.2.2.2.2.2.2.2.2 ++ mS cJ k t.1.1.2.1 t.1.1.2.2.1 t.1.1.2.2.2.1 t.1.1.2.2.2.2 ++ mT cI cJ k t.1.2.2.1 t.1.2.2.2.1 t.1.2.2.2.2.1 t.1.2.2.2.2.2.1 t.1.2.2.2.2.2.2.1 t.1.2.2.2.2.2.2.2) ∧ va_S (fun x : Nat => s.heap.size ≤ x) s.heap H locs
