section
-- ===== PART A: goes FIRST, ahead of the names: the tables' words, and 'selects' of the private methods out of them =====
/-- a private method of a class that the tables say can be made, by its rows of tables_1 -/
def lw_okq (q : MethodName × Nat) : Prop := (q.1.cls ≠ "java/lang/invoke/MethodHandle" ∧ q.1.cls ≠ "java/lang/invoke/VarHandle") ∧ Cond.instantiable q.1.cls q.2 ∈ tables_1 ∧ Cond.privateMethod q.1 ∈ tables_1 ∧ Cond.instanceMethod q.1 ∈ tables_1
theorem lw_p0 : lw_okq (⟨"SharedFault", "isKnown", "(I)Z"⟩, 11) := ⟨⟨by decide +kernel, by decide +kernel⟩, List.mem_of_getElem? (i := 9) (by decide +kernel), List.mem_of_getElem? (i := 106) (by decide +kernel), List.mem_of_getElem? (i := 107) (by decide +kernel)⟩
theorem lw_p1 : lw_okq (⟨"SharedFault", "openUnit", "(I)V"⟩, 11) := ⟨⟨by decide +kernel, by decide +kernel⟩, List.mem_of_getElem? (i := 9) (by decide +kernel), List.mem_of_getElem? (i := 110) (by decide +kernel), List.mem_of_getElem? (i := 111) (by decide +kernel)⟩
theorem lw_p2 : lw_okq (⟨"SharedFault", "fillUnit", "(II)V"⟩, 11) := ⟨⟨by decide +kernel, by decide +kernel⟩, List.mem_of_getElem? (i := 9) (by decide +kernel), List.mem_of_getElem? (i := 114) (by decide +kernel), List.mem_of_getElem? (i := 115) (by decide +kernel)⟩
theorem lw_p3 : lw_okq (⟨"SharedFault", "partUnit", "(I)V"⟩, 11) := ⟨⟨by decide +kernel, by decide +kernel⟩, List.mem_of_getElem? (i := 9) (by decide +kernel), List.mem_of_getElem? (i := 118) (by decide +kernel), List.mem_of_getElem? (i := 119) (by decide +kernel)⟩
theorem lw_p4 : lw_okq (⟨"SharedFault", "isPaired", "(I)Z"⟩, 11) := ⟨⟨by decide +kernel, by decide +kernel⟩, List.mem_of_getElem? (i := 9) (by decide +kernel), List.mem_of_getElem? (i := 140) (by decide +kernel), List.mem_of_getElem? (i := 141) (by decide +kernel)⟩
theorem lw_p5 : lw_okq (⟨"SharedFault", "owedNow", "()LSharedFault$Owed;"⟩, 11) := ⟨⟨by decide +kernel, by decide +kernel⟩, List.mem_of_getElem? (i := 9) (by decide +kernel), List.mem_of_getElem? (i := 177) (by decide +kernel), List.mem_of_getElem? (i := 178) (by decide +kernel)⟩
theorem lw_p6 : lw_okq (⟨"SharedFault", "owedIf", "(IIII)LSharedFault$Owed;"⟩, 11) := ⟨⟨by decide +kernel, by decide +kernel⟩, List.mem_of_getElem? (i := 9) (by decide +kernel), List.mem_of_getElem? (i := 181) (by decide +kernel), List.mem_of_getElem? (i := 182) (by decide +kernel)⟩
theorem lw_p7 : lw_okq (⟨"SharedFault", "openBroke", "(II)I"⟩, 11) := ⟨⟨by decide +kernel, by decide +kernel⟩, List.mem_of_getElem? (i := 9) (by decide +kernel), List.mem_of_getElem? (i := 185) (by decide +kernel), List.mem_of_getElem? (i := 186) (by decide +kernel)⟩
theorem lw_p8 : lw_okq (⟨"SharedFault", "blameDown", "()I"⟩, 11) := ⟨⟨by decide +kernel, by decide +kernel⟩, List.mem_of_getElem? (i := 9) (by decide +kernel), List.mem_of_getElem? (i := 189) (by decide +kernel), List.mem_of_getElem? (i := 190) (by decide +kernel)⟩
theorem lw_p9 : lw_okq (⟨"SharedFault", "blame", "()I"⟩, 11) := ⟨⟨by decide +kernel, by decide +kernel⟩, List.mem_of_getElem? (i := 9) (by decide +kernel), List.mem_of_getElem? (i := 193) (by decide +kernel), List.mem_of_getElem? (i := 194) (by decide +kernel)⟩
theorem lw_p10 : lw_okq (⟨"SharedFault", "entitledUp", "()J"⟩, 11) := ⟨⟨by decide +kernel, by decide +kernel⟩, List.mem_of_getElem? (i := 9) (by decide +kernel), List.mem_of_getElem? (i := 202) (by decide +kernel), List.mem_of_getElem? (i := 203) (by decide +kernel)⟩
theorem lw_p11 : lw_okq (⟨"SharedFault", "creditsUp", "(III)J"⟩, 11) := ⟨⟨by decide +kernel, by decide +kernel⟩, List.mem_of_getElem? (i := 9) (by decide +kernel), List.mem_of_getElem? (i := 206) (by decide +kernel), List.mem_of_getElem? (i := 207) (by decide +kernel)⟩
theorem lw_p12 : lw_okq (⟨"SharedFault", "unitHeads", "()I"⟩, 11) := ⟨⟨by decide +kernel, by decide +kernel⟩, List.mem_of_getElem? (i := 9) (by decide +kernel), List.mem_of_getElem? (i := 210) (by decide +kernel), List.mem_of_getElem? (i := 211) (by decide +kernel)⟩
theorem lw_p13 : lw_okq (⟨"SharedFault", "creditUp", "(III)J"⟩, 11) := ⟨⟨by decide +kernel, by decide +kernel⟩, List.mem_of_getElem? (i := 9) (by decide +kernel), List.mem_of_getElem? (i := 214) (by decide +kernel), List.mem_of_getElem? (i := 215) (by decide +kernel)⟩
theorem lw_p14 : lw_okq (⟨"SharedFault", "unitBears", "(II)I"⟩, 11) := ⟨⟨by decide +kernel, by decide +kernel⟩, List.mem_of_getElem? (i := 9) (by decide +kernel), List.mem_of_getElem? (i := 301) (by decide +kernel), List.mem_of_getElem? (i := 302) (by decide +kernel)⟩
theorem lw_p15 : lw_okq (⟨"SharedFault", "bears", "(I)I"⟩, 11) := ⟨⟨by decide +kernel, by decide +kernel⟩, List.mem_of_getElem? (i := 9) (by decide +kernel), List.mem_of_getElem? (i := 310) (by decide +kernel), List.mem_of_getElem? (i := 311) (by decide +kernel)⟩
def lw_privs_1 : List (MethodName × Nat) := [(⟨"SharedFault", "isKnown", "(I)Z"⟩, 11), (⟨"SharedFault", "openUnit", "(I)V"⟩, 11), (⟨"SharedFault", "fillUnit", "(II)V"⟩, 11), (⟨"SharedFault", "partUnit", "(I)V"⟩, 11), (⟨"SharedFault", "isPaired", "(I)Z"⟩, 11), (⟨"SharedFault", "owedNow", "()LSharedFault$Owed;"⟩, 11), (⟨"SharedFault", "owedIf", "(IIII)LSharedFault$Owed;"⟩, 11), (⟨"SharedFault", "openBroke", "(II)I"⟩, 11), (⟨"SharedFault", "blameDown", "()I"⟩, 11), (⟨"SharedFault", "blame", "()I"⟩, 11), (⟨"SharedFault", "entitledUp", "()J"⟩, 11), (⟨"SharedFault", "creditsUp", "(III)J"⟩, 11), (⟨"SharedFault", "unitHeads", "()I"⟩, 11), (⟨"SharedFault", "creditUp", "(III)J"⟩, 11), (⟨"SharedFault", "unitBears", "(II)I"⟩, 11), (⟨"SharedFault", "bears", "(I)I"⟩, 11)]
theorem lw_r1 : ∀ q ∈ lw_privs_1, lw_okq q := List.forall_mem_cons.mpr ⟨lw_p0, List.forall_mem_cons.mpr ⟨lw_p1, List.forall_mem_cons.mpr ⟨lw_p2, List.forall_mem_cons.mpr ⟨lw_p3, List.forall_mem_cons.mpr ⟨lw_p4, List.forall_mem_cons.mpr ⟨lw_p5, List.forall_mem_cons.mpr ⟨lw_p6, List.forall_mem_cons.mpr ⟨lw_p7, List.forall_mem_cons.mpr ⟨lw_p8, List.forall_mem_cons.mpr ⟨lw_p9, List.forall_mem_cons.mpr ⟨lw_p10, List.forall_mem_cons.mpr ⟨lw_p11, List.forall_mem_cons.mpr ⟨lw_p12, List.forall_mem_cons.mpr ⟨lw_p13, List.forall_mem_cons.mpr ⟨lw_p14, List.forall_mem_cons.mpr ⟨lw_p15, fun _ h => absurd h List.not_mem_nil⟩⟩⟩⟩⟩⟩⟩⟩⟩⟩⟩⟩⟩⟩⟩⟩
theorem lw_p16 : lw_okq (⟨"SharedFault", "gotBy", "(II)LSharedFault$Share;"⟩, 11) := ⟨⟨by decide +kernel, by decide +kernel⟩, List.mem_of_getElem? (i := 9) (by decide +kernel), List.mem_of_getElem? (i := 318) (by decide +kernel), List.mem_of_getElem? (i := 319) (by decide +kernel)⟩
theorem lw_p17 : lw_okq (⟨"SharedFault", "allPaid", "()I"⟩, 11) := ⟨⟨by decide +kernel, by decide +kernel⟩, List.mem_of_getElem? (i := 9) (by decide +kernel), List.mem_of_getElem? (i := 347) (by decide +kernel), List.mem_of_getElem? (i := 348) (by decide +kernel)⟩
theorem lw_p18 : lw_okq (⟨"SharedFault", "fairUp", "(ILSharedFault$Owed;)J"⟩, 11) := ⟨⟨by decide +kernel, by decide +kernel⟩, List.mem_of_getElem? (i := 9) (by decide +kernel), List.mem_of_getElem? (i := 359) (by decide +kernel), List.mem_of_getElem? (i := 360) (by decide +kernel)⟩
theorem lw_p19 : lw_okq (⟨"SharedFault", "overUp", "(ILSharedFault$Owed;)J"⟩, 11) := ⟨⟨by decide +kernel, by decide +kernel⟩, List.mem_of_getElem? (i := 9) (by decide +kernel), List.mem_of_getElem? (i := 367) (by decide +kernel), List.mem_of_getElem? (i := 368) (by decide +kernel)⟩
theorem lw_p20 : lw_okq (⟨"SharedFault", "evenOut", "(LSharedFault$Owed;)V"⟩, 11) := ⟨⟨by decide +kernel, by decide +kernel⟩, List.mem_of_getElem? (i := 9) (by decide +kernel), List.mem_of_getElem? (i := 375) (by decide +kernel), List.mem_of_getElem? (i := 376) (by decide +kernel)⟩
theorem lw_p21 : lw_okq (⟨"SharedFault$Flow", "give", "(II)V"⟩, 5) := ⟨⟨by decide +kernel, by decide +kernel⟩, List.mem_of_getElem? (i := 17) (by decide +kernel), List.mem_of_getElem? (i := 383) (by decide +kernel), List.mem_of_getElem? (i := 384) (by decide +kernel)⟩
theorem lw_p22 : lw_okq (⟨"SharedFaultModel", "clears", "(I)V"⟩, 22) := ⟨⟨by decide +kernel, by decide +kernel⟩, List.mem_of_getElem? (i := 406) (by decide +kernel), List.mem_of_getElem? (i := 412) (by decide +kernel), List.mem_of_getElem? (i := 413) (by decide +kernel)⟩
theorem lw_p23 : lw_okq (⟨"SharedFaultModel", "manyIn", "()I"⟩, 22) := ⟨⟨by decide +kernel, by decide +kernel⟩, List.mem_of_getElem? (i := 406) (by decide +kernel), List.mem_of_getElem? (i := 500) (by decide +kernel), List.mem_of_getElem? (i := 501) (by decide +kernel)⟩
theorem lw_p24 : lw_okq (⟨"SharedFaultModel", "isThere", "(I)Z"⟩, 22) := ⟨⟨by decide +kernel, by decide +kernel⟩, List.mem_of_getElem? (i := 406) (by decide +kernel), List.mem_of_getElem? (i := 508) (by decide +kernel), List.mem_of_getElem? (i := 509) (by decide +kernel)⟩
theorem lw_p25 : lw_okq (⟨"SharedFaultModel", "settles", "(II)V"⟩, 22) := ⟨⟨by decide +kernel, by decide +kernel⟩, List.mem_of_getElem? (i := 406) (by decide +kernel), List.mem_of_getElem? (i := 532) (by decide +kernel), List.mem_of_getElem? (i := 533) (by decide +kernel)⟩
theorem lw_p26 : lw_okq (⟨"SharedFaultModel", "findDues", "()V"⟩, 22) := ⟨⟨by decide +kernel, by decide +kernel⟩, List.mem_of_getElem? (i := 406) (by decide +kernel), List.mem_of_getElem? (i := 556) (by decide +kernel), List.mem_of_getElem? (i := 557) (by decide +kernel)⟩
theorem lw_p27 : lw_okq (⟨"SharedFaultModel", "findRest", "()V"⟩, 22) := ⟨⟨by decide +kernel, by decide +kernel⟩, List.mem_of_getElem? (i := 406) (by decide +kernel), List.mem_of_getElem? (i := 560) (by decide +kernel), List.mem_of_getElem? (i := 561) (by decide +kernel)⟩
theorem lw_p28 : lw_okq (⟨"SharedFaultModel", "findEntitled", "()V"⟩, 22) := ⟨⟨by decide +kernel, by decide +kernel⟩, List.mem_of_getElem? (i := 406) (by decide +kernel), List.mem_of_getElem? (i := 564) (by decide +kernel), List.mem_of_getElem? (i := 565) (by decide +kernel)⟩
theorem lw_p29 : lw_okq (⟨"SharedFaultModel", "blame", "()I"⟩, 22) := ⟨⟨by decide +kernel, by decide +kernel⟩, List.mem_of_getElem? (i := 406) (by decide +kernel), List.mem_of_getElem? (i := 568) (by decide +kernel), List.mem_of_getElem? (i := 569) (by decide +kernel)⟩
theorem lw_p30 : lw_okq (⟨"SharedFaultModel", "makes", "(JJ)V"⟩, 22) := ⟨⟨by decide +kernel, by decide +kernel⟩, List.mem_of_getElem? (i := 406) (by decide +kernel), List.mem_of_getElem? (i := 572) (by decide +kernel), List.mem_of_getElem? (i := 573) (by decide +kernel)⟩
theorem lw_p31 : lw_okq (⟨"SharedFaultModel", "keeps", "(I)V"⟩, 22) := ⟨⟨by decide +kernel, by decide +kernel⟩, List.mem_of_getElem? (i := 406) (by decide +kernel), List.mem_of_getElem? (i := 579) (by decide +kernel), List.mem_of_getElem? (i := 580) (by decide +kernel)⟩
def lw_privs_2 : List (MethodName × Nat) := [(⟨"SharedFault", "gotBy", "(II)LSharedFault$Share;"⟩, 11), (⟨"SharedFault", "allPaid", "()I"⟩, 11), (⟨"SharedFault", "fairUp", "(ILSharedFault$Owed;)J"⟩, 11), (⟨"SharedFault", "overUp", "(ILSharedFault$Owed;)J"⟩, 11), (⟨"SharedFault", "evenOut", "(LSharedFault$Owed;)V"⟩, 11), (⟨"SharedFault$Flow", "give", "(II)V"⟩, 5), (⟨"SharedFaultModel", "clears", "(I)V"⟩, 22), (⟨"SharedFaultModel", "manyIn", "()I"⟩, 22), (⟨"SharedFaultModel", "isThere", "(I)Z"⟩, 22), (⟨"SharedFaultModel", "settles", "(II)V"⟩, 22), (⟨"SharedFaultModel", "findDues", "()V"⟩, 22), (⟨"SharedFaultModel", "findRest", "()V"⟩, 22), (⟨"SharedFaultModel", "findEntitled", "()V"⟩, 22), (⟨"SharedFaultModel", "blame", "()I"⟩, 22), (⟨"SharedFaultModel", "makes", "(JJ)V"⟩, 22), (⟨"SharedFaultModel", "keeps", "(I)V"⟩, 22)]
theorem lw_r2 : ∀ q ∈ lw_privs_2, lw_okq q := List.forall_mem_cons.mpr ⟨lw_p16, List.forall_mem_cons.mpr ⟨lw_p17, List.forall_mem_cons.mpr ⟨lw_p18, List.forall_mem_cons.mpr ⟨lw_p19, List.forall_mem_cons.mpr ⟨lw_p20, List.forall_mem_cons.mpr ⟨lw_p21, List.forall_mem_cons.mpr ⟨lw_p22, List.forall_mem_cons.mpr ⟨lw_p23, List.forall_mem_cons.mpr ⟨lw_p24, List.forall_mem_cons.mpr ⟨lw_p25, List.forall_mem_cons.mpr ⟨lw_p26, List.forall_mem_cons.mpr ⟨lw_p27, List.forall_mem_cons.mpr ⟨lw_p28, List.forall_mem_cons.mpr ⟨lw_p29, List.forall_mem_cons.mpr ⟨lw_p30, List.forall_mem_cons.mpr ⟨lw_p31, fun _ h => absurd h List.not_mem_nil⟩⟩⟩⟩⟩⟩⟩⟩⟩⟩⟩⟩⟩⟩⟩⟩
theorem lw_p32 : lw_okq (⟨"SharedFaultModel", "isUnit", "(I)Z"⟩, 22) := ⟨⟨by decide +kernel, by decide +kernel⟩, List.mem_of_getElem? (i := 406) (by decide +kernel), List.mem_of_getElem? (i := 583) (by decide +kernel), List.mem_of_getElem? (i := 584) (by decide +kernel)⟩
theorem lw_p33 : lw_okq (⟨"SharedFaultModel", "findCredit", "(I)V"⟩, 22) := ⟨⟨by decide +kernel, by decide +kernel⟩, List.mem_of_getElem? (i := 406) (by decide +kernel), List.mem_of_getElem? (i := 587) (by decide +kernel), List.mem_of_getElem? (i := 588) (by decide +kernel)⟩
theorem lw_p34 : lw_okq (⟨"SharedFaultModel", "unitWeight", "(I)I"⟩, 22) := ⟨⟨by decide +kernel, by decide +kernel⟩, List.mem_of_getElem? (i := 406) (by decide +kernel), List.mem_of_getElem? (i := 591) (by decide +kernel), List.mem_of_getElem? (i := 592) (by decide +kernel)⟩
theorem lw_p35 : lw_okq (⟨"SharedFaultModel", "adds", "(JJJJJ)V"⟩, 22) := ⟨⟨by decide +kernel, by decide +kernel⟩, List.mem_of_getElem? (i := 406) (by decide +kernel), List.mem_of_getElem? (i := 595) (by decide +kernel), List.mem_of_getElem? (i := 596) (by decide +kernel)⟩
theorem lw_p36 : lw_okq (⟨"SharedFaultModel", "openWeight", "(Z)I"⟩, 22) := ⟨⟨by decide +kernel, by decide +kernel⟩, List.mem_of_getElem? (i := 406) (by decide +kernel), List.mem_of_getElem? (i := 600) (by decide +kernel), List.mem_of_getElem? (i := 601) (by decide +kernel)⟩
theorem lw_p37 : lw_okq (⟨"SharedFaultModel", "isUnitBroke", "(I)Z"⟩, 22) := ⟨⟨by decide +kernel, by decide +kernel⟩, List.mem_of_getElem? (i := 406) (by decide +kernel), List.mem_of_getElem? (i := 604) (by decide +kernel), List.mem_of_getElem? (i := 605) (by decide +kernel)⟩
theorem lw_p38 : lw_okq (⟨"SharedFaultModel", "findUnit", "(IIII)V"⟩, 22) := ⟨⟨by decide +kernel, by decide +kernel⟩, List.mem_of_getElem? (i := 406) (by decide +kernel), List.mem_of_getElem? (i := 608) (by decide +kernel), List.mem_of_getElem? (i := 609) (by decide +kernel)⟩
theorem lw_p39 : lw_okq (⟨"SharedFaultModel", "multiplies", "(JJJJ)V"⟩, 22) := ⟨⟨by decide +kernel, by decide +kernel⟩, List.mem_of_getElem? (i := 406) (by decide +kernel), List.mem_of_getElem? (i := 612) (by decide +kernel), List.mem_of_getElem? (i := 613) (by decide +kernel)⟩
theorem lw_p40 : lw_okq (⟨"SharedFaultModel", "unitOf", "(I)I"⟩, 22) := ⟨⟨by decide +kernel, by decide +kernel⟩, List.mem_of_getElem? (i := 406) (by decide +kernel), List.mem_of_getElem? (i := 620) (by decide +kernel), List.mem_of_getElem? (i := 621) (by decide +kernel)⟩
theorem lw_p41 : lw_okq (⟨"SharedFaultModel", "told", "(I)J"⟩, 22) := ⟨⟨by decide +kernel, by decide +kernel⟩, List.mem_of_getElem? (i := 406) (by decide +kernel), List.mem_of_getElem? (i := 624) (by decide +kernel), List.mem_of_getElem? (i := 625) (by decide +kernel)⟩
theorem lw_p42 : lw_okq (⟨"SharedFaultModel", "findDue", "(I)V"⟩, 22) := ⟨⟨by decide +kernel, by decide +kernel⟩, List.mem_of_getElem? (i := 406) (by decide +kernel), List.mem_of_getElem? (i := 636) (by decide +kernel), List.mem_of_getElem? (i := 637) (by decide +kernel)⟩
theorem lw_p43 : lw_okq (⟨"SharedFaultModel", "findGetsBy", "(II)V"⟩, 22) := ⟨⟨by decide +kernel, by decide +kernel⟩, List.mem_of_getElem? (i := 406) (by decide +kernel), List.mem_of_getElem? (i := 645) (by decide +kernel), List.mem_of_getElem? (i := 646) (by decide +kernel)⟩
theorem lw_p44 : lw_okq (⟨"SharedFaultModel", "findGets", "()V"⟩, 22) := ⟨⟨by decide +kernel, by decide +kernel⟩, List.mem_of_getElem? (i := 406) (by decide +kernel), List.mem_of_getElem? (i := 649) (by decide +kernel), List.mem_of_getElem? (i := 650) (by decide +kernel)⟩
theorem lw_p45 : lw_okq (⟨"SharedFaultModel", "paidAll", "()J"⟩, 22) := ⟨⟨by decide +kernel, by decide +kernel⟩, List.mem_of_getElem? (i := 406) (by decide +kernel), List.mem_of_getElem? (i := 673) (by decide +kernel), List.mem_of_getElem? (i := 674) (by decide +kernel)⟩
theorem lw_p46 : lw_okq (⟨"SharedFaultModel", "findFair", "(I)V"⟩, 22) := ⟨⟨by decide +kernel, by decide +kernel⟩, List.mem_of_getElem? (i := 406) (by decide +kernel), List.mem_of_getElem? (i := 685) (by decide +kernel), List.mem_of_getElem? (i := 686) (by decide +kernel)⟩
theorem lw_p47 : lw_okq (⟨"SharedFaultModel", "findOver", "(I)V"⟩, 22) := ⟨⟨by decide +kernel, by decide +kernel⟩, List.mem_of_getElem? (i := 406) (by decide +kernel), List.mem_of_getElem? (i := 693) (by decide +kernel), List.mem_of_getElem? (i := 694) (by decide +kernel)⟩
def lw_privs_3 : List (MethodName × Nat) := [(⟨"SharedFaultModel", "isUnit", "(I)Z"⟩, 22), (⟨"SharedFaultModel", "findCredit", "(I)V"⟩, 22), (⟨"SharedFaultModel", "unitWeight", "(I)I"⟩, 22), (⟨"SharedFaultModel", "adds", "(JJJJJ)V"⟩, 22), (⟨"SharedFaultModel", "openWeight", "(Z)I"⟩, 22), (⟨"SharedFaultModel", "isUnitBroke", "(I)Z"⟩, 22), (⟨"SharedFaultModel", "findUnit", "(IIII)V"⟩, 22), (⟨"SharedFaultModel", "multiplies", "(JJJJ)V"⟩, 22), (⟨"SharedFaultModel", "unitOf", "(I)I"⟩, 22), (⟨"SharedFaultModel", "told", "(I)J"⟩, 22), (⟨"SharedFaultModel", "findDue", "(I)V"⟩, 22), (⟨"SharedFaultModel", "findGetsBy", "(II)V"⟩, 22), (⟨"SharedFaultModel", "findGets", "()V"⟩, 22), (⟨"SharedFaultModel", "paidAll", "()J"⟩, 22), (⟨"SharedFaultModel", "findFair", "(I)V"⟩, 22), (⟨"SharedFaultModel", "findOver", "(I)V"⟩, 22)]
theorem lw_r3 : ∀ q ∈ lw_privs_3, lw_okq q := List.forall_mem_cons.mpr ⟨lw_p32, List.forall_mem_cons.mpr ⟨lw_p33, List.forall_mem_cons.mpr ⟨lw_p34, List.forall_mem_cons.mpr ⟨lw_p35, List.forall_mem_cons.mpr ⟨lw_p36, List.forall_mem_cons.mpr ⟨lw_p37, List.forall_mem_cons.mpr ⟨lw_p38, List.forall_mem_cons.mpr ⟨lw_p39, List.forall_mem_cons.mpr ⟨lw_p40, List.forall_mem_cons.mpr ⟨lw_p41, List.forall_mem_cons.mpr ⟨lw_p42, List.forall_mem_cons.mpr ⟨lw_p43, List.forall_mem_cons.mpr ⟨lw_p44, List.forall_mem_cons.mpr ⟨lw_p45, List.forall_mem_cons.mpr ⟨lw_p46, List.forall_mem_cons.mpr ⟨lw_p47, fun _ h => absurd h List.not_mem_nil⟩⟩⟩⟩⟩⟩⟩⟩⟩⟩⟩⟩⟩⟩⟩⟩
theorem lw_p48 : lw_okq (⟨"SharedFaultModel", "findTransfers", "()V"⟩, 22) := ⟨⟨by decide +kernel, by decide +kernel⟩, List.mem_of_getElem? (i := 406) (by decide +kernel), List.mem_of_getElem? (i := 701) (by decide +kernel), List.mem_of_getElem? (i := 702) (by decide +kernel)⟩
theorem lw_p49 : lw_okq (⟨"SharedFaultModel", "firstWith", "(I)I"⟩, 22) := ⟨⟨by decide +kernel, by decide +kernel⟩, List.mem_of_getElem? (i := 406) (by decide +kernel), List.mem_of_getElem? (i := 705) (by decide +kernel), List.mem_of_getElem? (i := 706) (by decide +kernel)⟩
theorem lw_p50 : lw_okq (⟨"SharedFaultModel", "goesOver", "(II)V"⟩, 22) := ⟨⟨by decide +kernel, by decide +kernel⟩, List.mem_of_getElem? (i := 406) (by decide +kernel), List.mem_of_getElem? (i := 709) (by decide +kernel), List.mem_of_getElem? (i := 710) (by decide +kernel)⟩
theorem lw_p51 : lw_okq (⟨"SharedFaultModel", "manyUnits", "(ZZ)I"⟩, 22) := ⟨⟨by decide +kernel, by decide +kernel⟩, List.mem_of_getElem? (i := 406) (by decide +kernel), List.mem_of_getElem? (i := 725) (by decide +kernel), List.mem_of_getElem? (i := 726) (by decide +kernel)⟩
def lw_privs_4 : List (MethodName × Nat) := [(⟨"SharedFaultModel", "findTransfers", "()V"⟩, 22), (⟨"SharedFaultModel", "firstWith", "(I)I"⟩, 22), (⟨"SharedFaultModel", "goesOver", "(II)V"⟩, 22), (⟨"SharedFaultModel", "manyUnits", "(ZZ)I"⟩, 22)]
theorem lw_r4 : ∀ q ∈ lw_privs_4, lw_okq q := List.forall_mem_cons.mpr ⟨lw_p48, List.forall_mem_cons.mpr ⟨lw_p49, List.forall_mem_cons.mpr ⟨lw_p50, List.forall_mem_cons.mpr ⟨lw_p51, fun _ h => absurd h List.not_mem_nil⟩⟩⟩⟩
def lw_privs : List (MethodName × Nat) := lw_privs_1 ++ (lw_privs_2 ++ (lw_privs_3 ++ (lw_privs_4)))
def lw_tbl : List Cond := k2_sels lw_privs ++ tables_1
theorem lw_privs_ok : ∀ q ∈ lw_privs, lw_okq q := by
  show ∀ q ∈ lw_privs_1 ++ (lw_privs_2 ++ (lw_privs_3 ++ (lw_privs_4))), lw_okq q
  exact List.forall_mem_append.mpr ⟨lw_r1, List.forall_mem_append.mpr ⟨lw_r2, List.forall_mem_append.mpr ⟨lw_r3, lw_r4⟩⟩⟩
-- ===== end of PART A; then your names; then what follows =====
end
section
def RX0 : String := "SharedFault$Flow"
def TX0 : u_T := fun k => match k with
  | 0 => ("SharedFault$Flow", "overs", "[J", true)
  | 1 => ("SharedFault$Flow", "givers", "[I", true)
  | 2 => ("SharedFault$Flow", "takers", "[I", true)
  | 3 => ("SharedFault$Flow", "gifts", "[J", true)
  | _ => ("SharedFault$Flow", "count", "I", false)
def tyX0 : Nat → FieldType := fun k => match k with
  | 0 => .array .long
  | 1 => .array .int
  | 2 => .array .int
  | 3 => .array .long
  | _ => .int
abbrev wsX00 : List Cond := u_ws RX0 TX0 5
theorem nmX0 : ∀ a, a < 5 → ∀ b, b < 5 → a ≠ b → (TX0 a).2.1 ≠ (TX0 b).2.1 := by decide +kernel
theorem tyX0_ok : ∀ k, k < 5 → parseFieldDescriptor (TX0 k).2.2.1 = some (tyX0 k) := by decide +kernel
abbrev cX0_init : ByteArray := prog_2_method_1_code
def yX0_init : MethodName := ⟨RX0, "<init>", "()V"⟩
abbrev cX0_holds : ByteArray := prog_2_method_2_code
def yX0_holds : MethodName := ⟨RX0, "holds", "(I)Z"⟩
abbrev cX0_find : ByteArray := prog_2_method_3_code
def yX0_find : MethodName := ⟨RX0, "find", "()V"⟩
abbrev cX0_give : ByteArray := prog_2_method_4_code
def yX0_give : MethodName := ⟨RX0, "give", "(II)V"⟩
def RX1 : String := "SharedFault$Owed"
def TX1 : u_T := fun k => match k with
  | 0 => ("SharedFault$Owed", "entitled", "LSharedFault$Share;", true)
  | 1 => ("SharedFault$Owed", "credits", "LSharedFault$Share;", true)
  | 2 => ("SharedFault$Owed", "rest", "LSharedFault$Share;", true)
  | 3 => ("SharedFault$Owed", "perWeight", "LSharedFault$Share;", true)
  | 4 => ("SharedFault$Owed", "dues", "LSharedFault$Share;", true)
  | 5 => ("SharedFault$Owed", "missed", "LSharedFault$Share;", true)
  | _ => ("SharedFault$Owed", "fairDown", "J", true)
def tyX1 : Nat → FieldType := fun k => match k with
  | 0 => .object "SharedFault$Share"
  | 1 => .object "SharedFault$Share"
  | 2 => .object "SharedFault$Share"
  | 3 => .object "SharedFault$Share"
  | 4 => .object "SharedFault$Share"
  | 5 => .object "SharedFault$Share"
  | _ => .long
abbrev wsX10 : List Cond := u_ws RX1 TX1 7
theorem nmX1 : ∀ a, a < 7 → ∀ b, b < 7 → a ≠ b → (TX1 a).2.1 ≠ (TX1 b).2.1 := by decide +kernel
theorem tyX1_ok : ∀ k, k < 7 → parseFieldDescriptor (TX1 k).2.2.1 = some (tyX1 k) := by decide +kernel
abbrev cX1_init : ByteArray := prog_3_method_1_code
def yX1_init : MethodName := ⟨RX1, "<init>", "(JJJIII)V"⟩
def RX2 : String := "SharedFault$Share"
def TX2 : u_T := fun k => match k with
  | 0 => ("SharedFault$Share", "up", "J", true)
  | _ => ("SharedFault$Share", "down", "J", true)
def tyX2 : Nat → FieldType := fun k => match k with
  | 0 => .long
  | _ => .long
abbrev wsX20 : List Cond := u_ws RX2 TX2 2
theorem nmX2 : ∀ a, a < 2 → ∀ b, b < 2 → a ≠ b → (TX2 a).2.1 ≠ (TX2 b).2.1 := by decide +kernel
theorem tyX2_ok : ∀ k, k < 2 → parseFieldDescriptor (TX2 k).2.2.1 = some (tyX2 k) := by decide +kernel
abbrev cX2_init : ByteArray := prog_4_method_1_code
def yX2_init : MethodName := ⟨RX2, "<init>", "(JJ)V"⟩
abbrev cX2_of : ByteArray := prog_4_method_2_code
def yX2_of : MethodName := ⟨RX2, "of", "(JJ)LSharedFault$Share;"⟩
abbrev cX2_commonDivisor : ByteArray := prog_4_method_3_code
def yX2_commonDivisor : MethodName := ⟨RX2, "commonDivisor", "(JJ)J"⟩
abbrev cX2_times : ByteArray := prog_4_method_4_code
def yX2_times : MethodName := ⟨RX2, "times", "(J)LSharedFault$Share;"⟩
abbrev cX2_plusWhole : ByteArray := prog_4_method_5_code
def yX2_plusWhole : MethodName := ⟨RX2, "plusWhole", "(J)LSharedFault$Share;"⟩
abbrev cX2_minus : ByteArray := prog_4_method_6_code
def yX2_minus : MethodName := ⟨RX2, "minus", "(LSharedFault$Share;)LSharedFault$Share;"⟩
abbrev cX2_told : ByteArray := prog_4_method_7_code
def yX2_told : MethodName := ⟨RX2, "told", "(I)J"⟩
def RX3 : String := "SharedFault"
def TX3 : u_T := fun k => match k with
  | 0 => ("SharedFault", "lossNow", "I", false)
  | 1 => ("SharedFault", "claimantWeight", "I", false)
  | 2 => ("SharedFault", "settings", "[I", true)
  | 3 => ("SharedFault", "inCase", "I", false)
  | 4 => ("SharedFault", "brokeSet", "I", false)
  | 5 => ("SharedFault", "settledSet", "I", false)
  | 6 => ("SharedFault", "weights", "[I", true)
  | 7 => ("SharedFault", "units", "[I", true)
  | 8 => ("SharedFault", "settledFor", "[I", true)
  | 9 => ("SharedFault", "paid", "[I", true)
  | _ => ("SharedFault", "flow", "LSharedFault$Flow;", true)
def tyX3 : Nat → FieldType := fun k => match k with
  | 0 => .int
  | 1 => .int
  | 2 => .array .int
  | 3 => .int
  | 4 => .int
  | 5 => .int
  | 6 => .array .int
  | 7 => .array .int
  | 8 => .array .int
  | 9 => .array .int
  | _ => .object "SharedFault$Flow"
abbrev wsX30 : List Cond := u_ws RX3 TX3 11
theorem nmX3 : ∀ a, a < 11 → ∀ b, b < 11 → a ≠ b → (TX3 a).2.1 ≠ (TX3 b).2.1 := by decide +kernel
theorem tyX3_ok : ∀ k, k < 11 → parseFieldDescriptor (TX3 k).2.2.1 = some (tyX3 k) := by decide +kernel
abbrev cX3_init : ByteArray := prog_1_method_1_code
def yX3_init : MethodName := ⟨RX3, "<init>", "()V"⟩
abbrev cX3_loss : ByteArray := prog_1_method_2_code
def yX3_loss : MethodName := ⟨RX3, "loss", "(I)I"⟩
abbrev cX3_claimant : ByteArray := prog_1_method_3_code
def yX3_claimant : MethodName := ⟨RX3, "claimant", "(I)I"⟩
abbrev cX3_wrong : ByteArray := prog_1_method_4_code
def yX3_wrong : MethodName := ⟨RX3, "wrong", "(I)I"⟩
abbrev cX3_leave : ByteArray := prog_1_method_5_code
def yX3_leave : MethodName := ⟨RX3, "leave", "(I)I"⟩
abbrev cX3_weight : ByteArray := prog_1_method_6_code
def yX3_weight : MethodName := ⟨RX3, "weight", "(II)I"⟩
abbrev cX3_broke : ByteArray := prog_1_method_7_code
def yX3_broke : MethodName := ⟨RX3, "broke", "(IZ)I"⟩
abbrev cX3_pair : ByteArray := prog_1_method_8_code
def yX3_pair : MethodName := ⟨RX3, "pair", "(II)I"⟩
abbrev cX3_part : ByteArray := prog_1_method_9_code
def yX3_part : MethodName := ⟨RX3, "part", "(I)I"⟩
abbrev cX3_settle : ByteArray := prog_1_method_10_code
def yX3_settle : MethodName := ⟨RX3, "settle", "(II)I"⟩
abbrev cX3_reopen : ByteArray := prog_1_method_11_code
def yX3_reopen : MethodName := ⟨RX3, "reopen", "(I)I"⟩
abbrev cX3_setting : ByteArray := prog_1_method_12_code
def yX3_setting : MethodName := ⟨RX3, "setting", "(II)I"⟩
abbrev cX3_ofWrong : ByteArray := prog_1_method_13_code
def yX3_ofWrong : MethodName := ⟨RX3, "ofWrong", "(II)I"⟩
abbrev cX3_amount : ByteArray := prog_1_method_14_code
def yX3_amount : MethodName := ⟨RX3, "amount", "(II)J"⟩
abbrev cX3_credit : ByteArray := prog_1_method_15_code
def yX3_credit : MethodName := ⟨RX3, "credit", "(II)J"⟩
abbrev cX3_unitDue : ByteArray := prog_1_method_16_code
def yX3_unitDue : MethodName := ⟨RX3, "unitDue", "(II)J"⟩
abbrev cX3_due : ByteArray := prog_1_method_17_code
def yX3_due : MethodName := ⟨RX3, "due", "(II)J"⟩
abbrev cX3_gets : ByteArray := prog_1_method_18_code
def yX3_gets : MethodName := ⟨RX3, "gets", "(III)J"⟩
abbrev cX3_bestManner : ByteArray := prog_1_method_19_code
def yX3_bestManner : MethodName := ⟨RX3, "bestManner", "()I"⟩
abbrev cX3_saves : ByteArray := prog_1_method_20_code
def yX3_saves : MethodName := ⟨RX3, "saves", "(III)J"⟩
abbrev cX3_misses : ByteArray := prog_1_method_21_code
def yX3_misses : MethodName := ⟨RX3, "misses", "(II)J"⟩
abbrev cX3_owe : ByteArray := prog_1_method_22_code
def yX3_owe : MethodName := ⟨RX3, "owe", "()I"⟩
abbrev cX3_pay : ByteArray := prog_1_method_23_code
def yX3_pay : MethodName := ⟨RX3, "pay", "(II)I"⟩
abbrev cX3_refund : ByteArray := prog_1_method_24_code
def yX3_refund : MethodName := ⟨RX3, "refund", "(I)I"⟩
abbrev cX3_fair : ByteArray := prog_1_method_25_code
def yX3_fair : MethodName := ⟨RX3, "fair", "(II)J"⟩
abbrev cX3_over : ByteArray := prog_1_method_26_code
def yX3_over : MethodName := ⟨RX3, "over", "(II)J"⟩
abbrev cX3_transfers : ByteArray := prog_1_method_27_code
def yX3_transfers : MethodName := ⟨RX3, "transfers", "()I"⟩
abbrev cX3_transfer : ByteArray := prog_1_method_28_code
def yX3_transfer : MethodName := ⟨RX3, "transfer", "(II)I"⟩
abbrev cX3_given : ByteArray := prog_1_method_29_code
def yX3_given : MethodName := ⟨RX3, "given", "(II)J"⟩
abbrev cX3_many : ByteArray := prog_1_method_30_code
def yX3_many : MethodName := ⟨RX3, "many", "(I)I"⟩
abbrev cX3_isOutside : ByteArray := prog_1_method_31_code
def yX3_isOutside : MethodName := ⟨RX3, "isOutside", "(III)Z"⟩
abbrev cX3_bit : ByteArray := prog_1_method_32_code
def yX3_bit : MethodName := ⟨RX3, "bit", "(I)I"⟩
abbrev cX3_has : ByteArray := prog_1_method_33_code
def yX3_has : MethodName := ⟨RX3, "has", "(II)Z"⟩
abbrev cX3_firstOf : ByteArray := prog_1_method_34_code
def yX3_firstOf : MethodName := ⟨RX3, "firstOf", "(I)I"⟩
abbrev cX3_sumOver : ByteArray := prog_1_method_35_code
def yX3_sumOver : MethodName := ⟨RX3, "sumOver", "(I[I)I"⟩
abbrev cX3_isKnown : ByteArray := prog_1_method_36_code
def yX3_isKnown : MethodName := ⟨RX3, "isKnown", "(I)Z"⟩
abbrev cX3_isPaired : ByteArray := prog_1_method_37_code
def yX3_isPaired : MethodName := ⟨RX3, "isPaired", "(I)Z"⟩
abbrev cX3_fillUnit : ByteArray := prog_1_method_38_code
def yX3_fillUnit : MethodName := ⟨RX3, "fillUnit", "(II)V"⟩
abbrev cX3_openUnit : ByteArray := prog_1_method_39_code
def yX3_openUnit : MethodName := ⟨RX3, "openUnit", "(I)V"⟩
abbrev cX3_partUnit : ByteArray := prog_1_method_40_code
def yX3_partUnit : MethodName := ⟨RX3, "partUnit", "(I)V"⟩
abbrev cX3_unitHeads : ByteArray := prog_1_method_41_code
def yX3_unitHeads : MethodName := ⟨RX3, "unitHeads", "()I"⟩
abbrev cX3_openBroke : ByteArray := prog_1_method_42_code
def yX3_openBroke : MethodName := ⟨RX3, "openBroke", "(II)I"⟩
abbrev cX3_blame : ByteArray := prog_1_method_43_code
def yX3_blame : MethodName := ⟨RX3, "blame", "()I"⟩
abbrev cX3_blameDown : ByteArray := prog_1_method_44_code
def yX3_blameDown : MethodName := ⟨RX3, "blameDown", "()I"⟩
abbrev cX3_entitledUp : ByteArray := prog_1_method_45_code
def yX3_entitledUp : MethodName := ⟨RX3, "entitledUp", "()J"⟩
abbrev cX3_creditUp : ByteArray := prog_1_method_46_code
def yX3_creditUp : MethodName := ⟨RX3, "creditUp", "(III)J"⟩
abbrev cX3_creditsUp : ByteArray := prog_1_method_47_code
def yX3_creditsUp : MethodName := ⟨RX3, "creditsUp", "(III)J"⟩
abbrev cX3_owedNow : ByteArray := prog_1_method_48_code
def yX3_owedNow : MethodName := ⟨RX3, "owedNow", "()LSharedFault$Owed;"⟩
abbrev cX3_owedIf : ByteArray := prog_1_method_49_code
def yX3_owedIf : MethodName := ⟨RX3, "owedIf", "(IIII)LSharedFault$Owed;"⟩
abbrev cX3_gotBy : ByteArray := prog_1_method_50_code
def yX3_gotBy : MethodName := ⟨RX3, "gotBy", "(II)LSharedFault$Share;"⟩
abbrev cX3_unitBears : ByteArray := prog_1_method_51_code
def yX3_unitBears : MethodName := ⟨RX3, "unitBears", "(II)I"⟩
abbrev cX3_bears : ByteArray := prog_1_method_52_code
def yX3_bears : MethodName := ⟨RX3, "bears", "(I)I"⟩
abbrev cX3_allPaid : ByteArray := prog_1_method_53_code
def yX3_allPaid : MethodName := ⟨RX3, "allPaid", "()I"⟩
abbrev cX3_fairUp : ByteArray := prog_1_method_54_code
def yX3_fairUp : MethodName := ⟨RX3, "fairUp", "(ILSharedFault$Owed;)J"⟩
abbrev cX3_overUp : ByteArray := prog_1_method_55_code
def yX3_overUp : MethodName := ⟨RX3, "overUp", "(ILSharedFault$Owed;)J"⟩
abbrev cX3_evenOut : ByteArray := prog_1_method_56_code
def yX3_evenOut : MethodName := ⟨RX3, "evenOut", "(LSharedFault$Owed;)V"⟩
def RX4 : String := "SharedFaultModel"
def TX4 : u_T := fun k => match k with
  | 0 => ("SharedFaultModel", "up", "J", false)
  | 1 => ("SharedFaultModel", "low", "J", false)
  | 2 => ("SharedFaultModel", "lossNow", "I", false)
  | 3 => ("SharedFaultModel", "claimantNow", "I", false)
  | 4 => ("SharedFaultModel", "settings", "[I", true)
  | 5 => ("SharedFaultModel", "isIn", "[Z", true)
  | 6 => ("SharedFaultModel", "weightOf", "[I", true)
  | 7 => ("SharedFaultModel", "isBroke", "[Z", true)
  | 8 => ("SharedFaultModel", "mateOf", "[I", true)
  | 9 => ("SharedFaultModel", "settledFor", "[I", true)
  | 10 => ("SharedFaultModel", "paidBy", "[I", true)
  | 11 => ("SharedFaultModel", "allUp", "[J", true)
  | 12 => ("SharedFaultModel", "allLow", "[J", true)
  | 13 => ("SharedFaultModel", "unitUp", "[J", true)
  | 14 => ("SharedFaultModel", "unitLow", "[J", true)
  | 15 => ("SharedFaultModel", "overUp", "[J", true)
  | 16 => ("SharedFaultModel", "overLow", "[J", true)
  | 17 => ("SharedFaultModel", "transferMany", "I", false)
  | 18 => ("SharedFaultModel", "giverOf", "[I", true)
  | 19 => ("SharedFaultModel", "takerOf", "[I", true)
  | 20 => ("SharedFaultModel", "givenUp", "[J", true)
  | _ => ("SharedFaultModel", "givenLow", "[J", true)
def tyX4 : Nat → FieldType := fun k => match k with
  | 0 => .long
  | 1 => .long
  | 2 => .int
  | 3 => .int
  | 4 => .array .int
  | 5 => .array .boolean
  | 6 => .array .int
  | 7 => .array .boolean
  | 8 => .array .int
  | 9 => .array .int
  | 10 => .array .int
  | 11 => .array .long
  | 12 => .array .long
  | 13 => .array .long
  | 14 => .array .long
  | 15 => .array .long
  | 16 => .array .long
  | 17 => .int
  | 18 => .array .int
  | 19 => .array .int
  | 20 => .array .long
  | _ => .array .long
abbrev wsX40 : List Cond := u_ws RX4 TX4 22
theorem nmX4 : ∀ a, a < 22 → ∀ b, b < 22 → a ≠ b → (TX4 a).2.1 ≠ (TX4 b).2.1 := by decide +kernel
theorem tyX4_ok : ∀ k, k < 22 → parseFieldDescriptor (TX4 k).2.2.1 = some (tyX4 k) := by decide +kernel
abbrev cX4_init : ByteArray := prog_6_method_1_code
def yX4_init : MethodName := ⟨RX4, "<init>", "()V"⟩
abbrev cX4_within : ByteArray := prog_6_method_2_code
def yX4_within : MethodName := ⟨RX4, "within", "(III)Z"⟩
abbrev cX4_common : ByteArray := prog_6_method_3_code
def yX4_common : MethodName := ⟨RX4, "common", "(JJ)J"⟩
abbrev cX4_makes : ByteArray := prog_6_method_4_code
def yX4_makes : MethodName := ⟨RX4, "makes", "(JJ)V"⟩
abbrev cX4_adds : ByteArray := prog_6_method_5_code
def yX4_adds : MethodName := ⟨RX4, "adds", "(JJJJJ)V"⟩
abbrev cX4_multiplies : ByteArray := prog_6_method_6_code
def yX4_multiplies : MethodName := ⟨RX4, "multiplies", "(JJJJ)V"⟩
abbrev cX4_told : ByteArray := prog_6_method_7_code
def yX4_told : MethodName := ⟨RX4, "told", "(I)J"⟩
abbrev cX4_isWhich : ByteArray := prog_6_method_8_code
def yX4_isWhich : MethodName := ⟨RX4, "isWhich", "(I)Z"⟩
abbrev cX4_clears : ByteArray := prog_6_method_9_code
def yX4_clears : MethodName := ⟨RX4, "clears", "(I)V"⟩
abbrev cX4_isThere : ByteArray := prog_6_method_10_code
def yX4_isThere : MethodName := ⟨RX4, "isThere", "(I)Z"⟩
abbrev cX4_loss : ByteArray := prog_6_method_11_code
def yX4_loss : MethodName := ⟨RX4, "loss", "(I)I"⟩
abbrev cX4_claimant : ByteArray := prog_6_method_12_code
def yX4_claimant : MethodName := ⟨RX4, "claimant", "(I)I"⟩
abbrev cX4_manyIn : ByteArray := prog_6_method_13_code
def yX4_manyIn : MethodName := ⟨RX4, "manyIn", "()I"⟩
abbrev cX4_wrong : ByteArray := prog_6_method_14_code
def yX4_wrong : MethodName := ⟨RX4, "wrong", "(I)I"⟩
abbrev cX4_leave : ByteArray := prog_6_method_15_code
def yX4_leave : MethodName := ⟨RX4, "leave", "(I)I"⟩
abbrev cX4_weight : ByteArray := prog_6_method_16_code
def yX4_weight : MethodName := ⟨RX4, "weight", "(II)I"⟩
abbrev cX4_broke : ByteArray := prog_6_method_17_code
def yX4_broke : MethodName := ⟨RX4, "broke", "(IZ)I"⟩
abbrev cX4_pair : ByteArray := prog_6_method_18_code
def yX4_pair : MethodName := ⟨RX4, "pair", "(II)I"⟩
abbrev cX4_part : ByteArray := prog_6_method_19_code
def yX4_part : MethodName := ⟨RX4, "part", "(I)I"⟩
abbrev cX4_settles : ByteArray := prog_6_method_20_code
def yX4_settles : MethodName := ⟨RX4, "settles", "(II)V"⟩
abbrev cX4_settle : ByteArray := prog_6_method_21_code
def yX4_settle : MethodName := ⟨RX4, "settle", "(II)I"⟩
abbrev cX4_reopen : ByteArray := prog_6_method_22_code
def yX4_reopen : MethodName := ⟨RX4, "reopen", "(I)I"⟩
abbrev cX4_setting : ByteArray := prog_6_method_23_code
def yX4_setting : MethodName := ⟨RX4, "setting", "(II)I"⟩
abbrev cX4_ofWrong : ByteArray := prog_6_method_24_code
def yX4_ofWrong : MethodName := ⟨RX4, "ofWrong", "(II)I"⟩
abbrev cX4_isUnit : ByteArray := prog_6_method_25_code
def yX4_isUnit : MethodName := ⟨RX4, "isUnit", "(I)Z"⟩
abbrev cX4_unitOf : ByteArray := prog_6_method_26_code
def yX4_unitOf : MethodName := ⟨RX4, "unitOf", "(I)I"⟩
abbrev cX4_unitWeight : ByteArray := prog_6_method_27_code
def yX4_unitWeight : MethodName := ⟨RX4, "unitWeight", "(I)I"⟩
abbrev cX4_isUnitBroke : ByteArray := prog_6_method_28_code
def yX4_isUnitBroke : MethodName := ⟨RX4, "isUnitBroke", "(I)Z"⟩
abbrev cX4_blame : ByteArray := prog_6_method_29_code
def yX4_blame : MethodName := ⟨RX4, "blame", "()I"⟩
abbrev cX4_findEntitled : ByteArray := prog_6_method_30_code
def yX4_findEntitled : MethodName := ⟨RX4, "findEntitled", "()V"⟩
abbrev cX4_findCredit : ByteArray := prog_6_method_31_code
def yX4_findCredit : MethodName := ⟨RX4, "findCredit", "(I)V"⟩
abbrev cX4_keeps : ByteArray := prog_6_method_32_code
def yX4_keeps : MethodName := ⟨RX4, "keeps", "(I)V"⟩
abbrev cX4_openWeight : ByteArray := prog_6_method_33_code
def yX4_openWeight : MethodName := ⟨RX4, "openWeight", "(Z)I"⟩
abbrev cX4_findRest : ByteArray := prog_6_method_34_code
def yX4_findRest : MethodName := ⟨RX4, "findRest", "()V"⟩
abbrev cX4_findDues : ByteArray := prog_6_method_35_code
def yX4_findDues : MethodName := ⟨RX4, "findDues", "()V"⟩
abbrev cX4_findUnit : ByteArray := prog_6_method_36_code
def yX4_findUnit : MethodName := ⟨RX4, "findUnit", "(IIII)V"⟩
abbrev cX4_amount : ByteArray := prog_6_method_37_code
def yX4_amount : MethodName := ⟨RX4, "amount", "(II)J"⟩
abbrev cX4_credit : ByteArray := prog_6_method_38_code
def yX4_credit : MethodName := ⟨RX4, "credit", "(II)J"⟩
abbrev cX4_unitDue : ByteArray := prog_6_method_39_code
def yX4_unitDue : MethodName := ⟨RX4, "unitDue", "(II)J"⟩
abbrev cX4_findDue : ByteArray := prog_6_method_40_code
def yX4_findDue : MethodName := ⟨RX4, "findDue", "(I)V"⟩
abbrev cX4_due : ByteArray := prog_6_method_41_code
def yX4_due : MethodName := ⟨RX4, "due", "(II)J"⟩
abbrev cX4_findGets : ByteArray := prog_6_method_42_code
def yX4_findGets : MethodName := ⟨RX4, "findGets", "()V"⟩
abbrev cX4_findGetsBy : ByteArray := prog_6_method_43_code
def yX4_findGetsBy : MethodName := ⟨RX4, "findGetsBy", "(II)V"⟩
abbrev cX4_gets : ByteArray := prog_6_method_44_code
def yX4_gets : MethodName := ⟨RX4, "gets", "(III)J"⟩
abbrev cX4_bestManner : ByteArray := prog_6_method_45_code
def yX4_bestManner : MethodName := ⟨RX4, "bestManner", "()I"⟩
abbrev cX4_saves : ByteArray := prog_6_method_46_code
def yX4_saves : MethodName := ⟨RX4, "saves", "(III)J"⟩
abbrev cX4_misses : ByteArray := prog_6_method_47_code
def yX4_misses : MethodName := ⟨RX4, "misses", "(II)J"⟩
abbrev cX4_owe : ByteArray := prog_6_method_48_code
def yX4_owe : MethodName := ⟨RX4, "owe", "()I"⟩
abbrev cX4_paidAll : ByteArray := prog_6_method_49_code
def yX4_paidAll : MethodName := ⟨RX4, "paidAll", "()J"⟩
abbrev cX4_pay : ByteArray := prog_6_method_50_code
def yX4_pay : MethodName := ⟨RX4, "pay", "(II)I"⟩
abbrev cX4_refund : ByteArray := prog_6_method_51_code
def yX4_refund : MethodName := ⟨RX4, "refund", "(I)I"⟩
abbrev cX4_findFair : ByteArray := prog_6_method_52_code
def yX4_findFair : MethodName := ⟨RX4, "findFair", "(I)V"⟩
abbrev cX4_findOver : ByteArray := prog_6_method_53_code
def yX4_findOver : MethodName := ⟨RX4, "findOver", "(I)V"⟩
abbrev cX4_fair : ByteArray := prog_6_method_54_code
def yX4_fair : MethodName := ⟨RX4, "fair", "(II)J"⟩
abbrev cX4_over : ByteArray := prog_6_method_55_code
def yX4_over : MethodName := ⟨RX4, "over", "(II)J"⟩
abbrev cX4_firstWith : ByteArray := prog_6_method_56_code
def yX4_firstWith : MethodName := ⟨RX4, "firstWith", "(I)I"⟩
abbrev cX4_findTransfers : ByteArray := prog_6_method_57_code
def yX4_findTransfers : MethodName := ⟨RX4, "findTransfers", "()V"⟩
abbrev cX4_goesOver : ByteArray := prog_6_method_58_code
def yX4_goesOver : MethodName := ⟨RX4, "goesOver", "(II)V"⟩
abbrev cX4_transfers : ByteArray := prog_6_method_59_code
def yX4_transfers : MethodName := ⟨RX4, "transfers", "()I"⟩
abbrev cX4_transfer : ByteArray := prog_6_method_60_code
def yX4_transfer : MethodName := ⟨RX4, "transfer", "(II)I"⟩
abbrev cX4_given : ByteArray := prog_6_method_61_code
def yX4_given : MethodName := ⟨RX4, "given", "(II)J"⟩
abbrev cX4_manyUnits : ByteArray := prog_6_method_62_code
def yX4_manyUnits : MethodName := ⟨RX4, "manyUnits", "(ZZ)I"⟩
abbrev cX4_many : ByteArray := prog_6_method_63_code
def yX4_many : MethodName := ⟨RX4, "many", "(I)I"⟩
def RJ6 : String := "java/lang/Integer"
def TJ6 : u_T := fun k => match k with
  | _ => ("", "", "", false)
def tyJ6 : Nat → FieldType := fun k => match k with
  | _ => .int
abbrev wsJ60 : List Cond := u_ws RJ6 TJ6 0
theorem nmJ6 : ∀ a, a < 0 → ∀ b, b < 0 → a ≠ b → (TJ6 a).2.1 ≠ (TJ6 b).2.1 := by decide +kernel
theorem tyJ6_ok : ∀ k, k < 0 → parseFieldDescriptor (TJ6 k).2.2.1 = some (tyJ6 k) := by decide +kernel
abbrev cJ6_bitCount_0f7a4 : ByteArray := prog_7_method_49_code
def yJ6_bitCount_0f7a4 : MethodName := ⟨RJ6, "bitCount", "(I)I"⟩
def RJ9 : String := "java/lang/Math"
def TJ9 : u_T := fun k => match k with
  | _ => ("", "", "", false)
def tyJ9 : Nat → FieldType := fun k => match k with
  | _ => .int
abbrev wsJ90 : List Cond := u_ws RJ9 TJ9 0
theorem nmJ9 : ∀ a, a < 0 → ∀ b, b < 0 → a ≠ b → (TJ9 a).2.1 ≠ (TJ9 b).2.1 := by decide +kernel
theorem tyJ9_ok : ∀ k, k < 0 → parseFieldDescriptor (TJ9 k).2.2.1 = some (tyJ9 k) := by decide +kernel
abbrev cJ9_abs_067f4 : ByteArray := prog_8_method_61_code
def yJ9_abs_067f4 : MethodName := ⟨RJ9, "abs", "(J)J"⟩
abbrev cJ9_max_7cf53 : ByteArray := prog_8_method_65_code
def yJ9_max_7cf53 : MethodName := ⟨RJ9, "max", "(II)I"⟩
abbrev cJ9_max_f86c9 : ByteArray := prog_8_method_66_code
def yJ9_max_f86c9 : MethodName := ⟨RJ9, "max", "(JJ)J"⟩
abbrev cJ9_min_f86c9 : ByteArray := prog_8_method_70_code
def yJ9_min_f86c9 : MethodName := ⟨RJ9, "min", "(JJ)J"⟩
def RL : String := "SharedFaultLaw"
abbrev cL_law : ByteArray := code
def yL_law : MethodName := ⟨RL, "law", "([I)Z"⟩
abbrev vwCl : List vw_C := [(RX0, TX0, 5), (RX1, TX1, 7), (RX2, TX2, 2), (RX3, TX3, 11), (RX4, TX4, 22)]
end
section
theorem dX0_init_0 : decode cX0_init 0 = .ok (.aload_n 0, 1) := by decide +kernel
theorem dX0_init_1 : decode cX0_init 1 = .ok (.invokespecial 3, 3) := by decide +kernel
theorem dX0_init_4 : decode cX0_init 4 = .ok (.aload_n 0, 1) := by decide +kernel
theorem dX0_init_5 : decode cX0_init 5 = .ok (.bipush 6, 2) := by decide +kernel
theorem dX0_init_7 : decode cX0_init 7 = .ok (.newarray .long, 2) := by decide +kernel
theorem dX0_init_9 : decode cX0_init 9 = .ok (.putfield 9, 3) := by decide +kernel
theorem dX0_init_12 : decode cX0_init 12 = .ok (.aload_n 0, 1) := by decide +kernel
theorem dX0_init_13 : decode cX0_init 13 = .ok (.bipush 6, 2) := by decide +kernel
theorem dX0_init_15 : decode cX0_init 15 = .ok (.newarray .int, 2) := by decide +kernel
theorem dX0_init_17 : decode cX0_init 17 = .ok (.putfield 15, 3) := by decide +kernel
theorem dX0_init_20 : decode cX0_init 20 = .ok (.aload_n 0, 1) := by decide +kernel
theorem dX0_init_21 : decode cX0_init 21 = .ok (.bipush 6, 2) := by decide +kernel
theorem dX0_init_23 : decode cX0_init 23 = .ok (.newarray .int, 2) := by decide +kernel
theorem dX0_init_25 : decode cX0_init 25 = .ok (.putfield 19, 3) := by decide +kernel
theorem dX0_init_28 : decode cX0_init 28 = .ok (.aload_n 0, 1) := by decide +kernel
theorem dX0_init_29 : decode cX0_init 29 = .ok (.bipush 6, 2) := by decide +kernel
theorem dX0_init_31 : decode cX0_init 31 = .ok (.newarray .long, 2) := by decide +kernel
theorem dX0_init_33 : decode cX0_init 33 = .ok (.putfield 22, 3) := by decide +kernel
theorem dX0_init_36 : decode cX0_init 36 = .ok (.return_, 1) := by decide +kernel
theorem dX0_holds_0 : decode cX0_holds 0 = .ok (.iload_n 1, 1) := by decide +kernel
theorem dX0_holds_1 : decode cX0_holds 1 = .ok (.ifCond .lt 24, 3) := by decide +kernel
theorem dX0_holds_4 : decode cX0_holds 4 = .ok (.iload_n 1, 1) := by decide +kernel
theorem dX0_holds_5 : decode cX0_holds 5 = .ok (.aload_n 0, 1) := by decide +kernel
theorem dX0_holds_6 : decode cX0_holds 6 = .ok (.getfield 25, 3) := by decide +kernel
theorem dX0_holds_9 : decode cX0_holds 9 = .ok (.if_icmp .ge 16, 3) := by decide +kernel
theorem dX0_holds_12 : decode cX0_holds 12 = .ok (.iload_n 1, 1) := by decide +kernel
theorem dX0_holds_13 : decode cX0_holds 13 = .ok (.aload_n 0, 1) := by decide +kernel
theorem dX0_holds_14 : decode cX0_holds 14 = .ok (.getfield 22, 3) := by decide +kernel
theorem dX0_holds_17 : decode cX0_holds 17 = .ok (.arraylength, 1) := by decide +kernel
theorem dX0_holds_18 : decode cX0_holds 18 = .ok (.if_icmp .ge 7, 3) := by decide +kernel
theorem dX0_holds_21 : decode cX0_holds 21 = .ok (.iconst 1, 1) := by decide +kernel
theorem dX0_holds_22 : decode cX0_holds 22 = .ok (.goto 4, 3) := by decide +kernel
theorem dX0_holds_25 : decode cX0_holds 25 = .ok (.iconst 0, 1) := by decide +kernel
theorem dX0_holds_26 : decode cX0_holds 26 = .ok (.ireturn, 1) := by decide +kernel
theorem dX0_find_0 : decode cX0_find 0 = .ok (.aload_n 0, 1) := by decide +kernel
theorem dX0_find_1 : decode cX0_find 1 = .ok (.iconst 0, 1) := by decide +kernel
theorem dX0_find_2 : decode cX0_find 2 = .ok (.putfield 25, 3) := by decide +kernel
theorem dX0_find_5 : decode cX0_find 5 = .ok (.iconst 0, 1) := by decide +kernel
theorem dX0_find_6 : decode cX0_find 6 = .ok (.istore_n 1, 1) := by decide +kernel
theorem dX0_find_7 : decode cX0_find 7 = .ok (.iconst 0, 1) := by decide +kernel
theorem dX0_find_8 : decode cX0_find 8 = .ok (.istore_n 2, 1) := by decide +kernel
theorem dX0_find_9 : decode cX0_find 9 = .ok (.iconst 0, 1) := by decide +kernel
theorem dX0_find_10 : decode cX0_find 10 = .ok (.istore_n 3, 1) := by decide +kernel
theorem dX0_find_11 : decode cX0_find 11 = .ok (.iload_n 3, 1) := by decide +kernel
theorem dX0_find_12 : decode cX0_find 12 = .ok (.bipush 24, 2) := by decide +kernel
theorem dX0_find_14 : decode cX0_find 14 = .ok (.if_icmp .ge 74, 3) := by decide +kernel
theorem dX0_find_17 : decode cX0_find 17 = .ok (.iload_n 1, 1) := by decide +kernel
theorem dX0_find_18 : decode cX0_find 18 = .ok (.bipush 6, 2) := by decide +kernel
theorem dX0_find_20 : decode cX0_find 20 = .ok (.if_icmp .ge 21, 3) := by decide +kernel
theorem dX0_find_23 : decode cX0_find 23 = .ok (.iload_n 2, 1) := by decide +kernel
theorem dX0_find_24 : decode cX0_find 24 = .ok (.bipush 6, 2) := by decide +kernel
theorem dX0_find_26 : decode cX0_find 26 = .ok (.if_icmp .ge 15, 3) := by decide +kernel
theorem dX0_find_29 : decode cX0_find 29 = .ok (.aload_n 0, 1) := by decide +kernel
theorem dX0_find_30 : decode cX0_find 30 = .ok (.getfield 25, 3) := by decide +kernel
theorem dX0_find_33 : decode cX0_find 33 = .ok (.aload_n 0, 1) := by decide +kernel
theorem dX0_find_34 : decode cX0_find 34 = .ok (.getfield 22, 3) := by decide +kernel
theorem dX0_find_37 : decode cX0_find 37 = .ok (.arraylength, 1) := by decide +kernel
theorem dX0_find_38 : decode cX0_find 38 = .ok (.if_icmp .lt 4, 3) := by decide +kernel
theorem dX0_find_41 : decode cX0_find 41 = .ok (.return_, 1) := by decide +kernel
theorem dX0_find_42 : decode cX0_find 42 = .ok (.aload_n 0, 1) := by decide +kernel
theorem dX0_find_43 : decode cX0_find 43 = .ok (.getfield 9, 3) := by decide +kernel
theorem dX0_find_46 : decode cX0_find 46 = .ok (.iload_n 1, 1) := by decide +kernel
theorem dX0_find_47 : decode cX0_find 47 = .ok (.laload, 1) := by decide +kernel
theorem dX0_find_48 : decode cX0_find 48 = .ok (.lconst 0, 1) := by decide +kernel
theorem dX0_find_49 : decode cX0_find 49 = .ok (.lcmp, 1) := by decide +kernel
theorem dX0_find_50 : decode cX0_find 50 = .ok (.ifCond .lt 9, 3) := by decide +kernel
theorem dX0_find_53 : decode cX0_find 53 = .ok (.iinc 1 1, 3) := by decide +kernel
theorem dX0_find_56 : decode cX0_find 56 = .ok (.goto 26, 3) := by decide +kernel
theorem dX0_find_59 : decode cX0_find 59 = .ok (.aload_n 0, 1) := by decide +kernel
theorem dX0_find_60 : decode cX0_find 60 = .ok (.getfield 9, 3) := by decide +kernel
theorem dX0_find_63 : decode cX0_find 63 = .ok (.iload_n 2, 1) := by decide +kernel
theorem dX0_find_64 : decode cX0_find 64 = .ok (.laload, 1) := by decide +kernel
theorem dX0_find_65 : decode cX0_find 65 = .ok (.lconst 0, 1) := by decide +kernel
theorem dX0_find_66 : decode cX0_find 66 = .ok (.lcmp, 1) := by decide +kernel
theorem dX0_find_67 : decode cX0_find 67 = .ok (.ifCond .gt 9, 3) := by decide +kernel
theorem dX0_find_70 : decode cX0_find 70 = .ok (.iinc 2 1, 3) := by decide +kernel
theorem dX0_find_73 : decode cX0_find 73 = .ok (.goto 9, 3) := by decide +kernel
theorem dX0_find_76 : decode cX0_find 76 = .ok (.aload_n 0, 1) := by decide +kernel
theorem dX0_find_77 : decode cX0_find 77 = .ok (.iload_n 1, 1) := by decide +kernel
theorem dX0_find_78 : decode cX0_find 78 = .ok (.iload_n 2, 1) := by decide +kernel
theorem dX0_find_79 : decode cX0_find 79 = .ok (.invokevirtual 29, 3) := by decide +kernel
theorem dX0_find_82 : decode cX0_find 82 = .ok (.iinc 3 1, 3) := by decide +kernel
theorem dX0_find_85 : decode cX0_find 85 = .ok (.goto (-74), 3) := by decide +kernel
theorem dX0_find_88 : decode cX0_find 88 = .ok (.return_, 1) := by decide +kernel
theorem dX0_give_0 : decode cX0_give 0 = .ok (.aload_n 0, 1) := by decide +kernel
theorem dX0_give_1 : decode cX0_give 1 = .ok (.getfield 9, 3) := by decide +kernel
theorem dX0_give_4 : decode cX0_give 4 = .ok (.iload_n 1, 1) := by decide +kernel
theorem dX0_give_5 : decode cX0_give 5 = .ok (.laload, 1) := by decide +kernel
theorem dX0_give_6 : decode cX0_give 6 = .ok (.lneg, 1) := by decide +kernel
theorem dX0_give_7 : decode cX0_give 7 = .ok (.aload_n 0, 1) := by decide +kernel
theorem dX0_give_8 : decode cX0_give 8 = .ok (.getfield 9, 3) := by decide +kernel
theorem dX0_give_11 : decode cX0_give 11 = .ok (.iload_n 2, 1) := by decide +kernel
theorem dX0_give_12 : decode cX0_give 12 = .ok (.laload, 1) := by decide +kernel
theorem dX0_give_13 : decode cX0_give 13 = .ok (.invokestatic 33, 3) := by decide +kernel
theorem dX0_give_16 : decode cX0_give 16 = .ok (.lstore_n 3, 1) := by decide +kernel
theorem dX0_give_17 : decode cX0_give 17 = .ok (.aload_n 0, 1) := by decide +kernel
theorem dX0_give_18 : decode cX0_give 18 = .ok (.getfield 9, 3) := by decide +kernel
theorem dX0_give_21 : decode cX0_give 21 = .ok (.iload_n 1, 1) := by decide +kernel
theorem dX0_give_22 : decode cX0_give 22 = .ok (.dup2, 1) := by decide +kernel
theorem dX0_give_23 : decode cX0_give 23 = .ok (.laload, 1) := by decide +kernel
theorem dX0_give_24 : decode cX0_give 24 = .ok (.lload_n 3, 1) := by decide +kernel
theorem dX0_give_25 : decode cX0_give 25 = .ok (.ladd, 1) := by decide +kernel
theorem dX0_give_26 : decode cX0_give 26 = .ok (.lastore, 1) := by decide +kernel
theorem dX0_give_27 : decode cX0_give 27 = .ok (.aload_n 0, 1) := by decide +kernel
theorem dX0_give_28 : decode cX0_give 28 = .ok (.getfield 9, 3) := by decide +kernel
theorem dX0_give_31 : decode cX0_give 31 = .ok (.iload_n 2, 1) := by decide +kernel
theorem dX0_give_32 : decode cX0_give 32 = .ok (.dup2, 1) := by decide +kernel
theorem dX0_give_33 : decode cX0_give 33 = .ok (.laload, 1) := by decide +kernel
theorem dX0_give_34 : decode cX0_give 34 = .ok (.lload_n 3, 1) := by decide +kernel
theorem dX0_give_35 : decode cX0_give 35 = .ok (.lsub, 1) := by decide +kernel
theorem dX0_give_36 : decode cX0_give 36 = .ok (.lastore, 1) := by decide +kernel
theorem dX0_give_37 : decode cX0_give 37 = .ok (.aload_n 0, 1) := by decide +kernel
theorem dX0_give_38 : decode cX0_give 38 = .ok (.getfield 15, 3) := by decide +kernel
theorem dX0_give_41 : decode cX0_give 41 = .ok (.aload_n 0, 1) := by decide +kernel
theorem dX0_give_42 : decode cX0_give 42 = .ok (.getfield 25, 3) := by decide +kernel
theorem dX0_give_45 : decode cX0_give 45 = .ok (.iload_n 1, 1) := by decide +kernel
theorem dX0_give_46 : decode cX0_give 46 = .ok (.iastore, 1) := by decide +kernel
theorem dX0_give_47 : decode cX0_give 47 = .ok (.aload_n 0, 1) := by decide +kernel
theorem dX0_give_48 : decode cX0_give 48 = .ok (.getfield 19, 3) := by decide +kernel
theorem dX0_give_51 : decode cX0_give 51 = .ok (.aload_n 0, 1) := by decide +kernel
theorem dX0_give_52 : decode cX0_give 52 = .ok (.getfield 25, 3) := by decide +kernel
theorem dX0_give_55 : decode cX0_give 55 = .ok (.iload_n 2, 1) := by decide +kernel
theorem dX0_give_56 : decode cX0_give 56 = .ok (.iastore, 1) := by decide +kernel
theorem dX0_give_57 : decode cX0_give 57 = .ok (.aload_n 0, 1) := by decide +kernel
theorem dX0_give_58 : decode cX0_give 58 = .ok (.getfield 22, 3) := by decide +kernel
theorem dX0_give_61 : decode cX0_give 61 = .ok (.aload_n 0, 1) := by decide +kernel
theorem dX0_give_62 : decode cX0_give 62 = .ok (.getfield 25, 3) := by decide +kernel
theorem dX0_give_65 : decode cX0_give 65 = .ok (.lload_n 3, 1) := by decide +kernel
theorem dX0_give_66 : decode cX0_give 66 = .ok (.lastore, 1) := by decide +kernel
theorem dX0_give_67 : decode cX0_give 67 = .ok (.aload_n 0, 1) := by decide +kernel
theorem dX0_give_68 : decode cX0_give 68 = .ok (.dup, 1) := by decide +kernel
theorem dX0_give_69 : decode cX0_give 69 = .ok (.getfield 25, 3) := by decide +kernel
theorem dX0_give_72 : decode cX0_give 72 = .ok (.iconst 1, 1) := by decide +kernel
theorem dX0_give_73 : decode cX0_give 73 = .ok (.iadd, 1) := by decide +kernel
theorem dX0_give_74 : decode cX0_give 74 = .ok (.putfield 25, 3) := by decide +kernel
theorem dX0_give_77 : decode cX0_give 77 = .ok (.return_, 1) := by decide +kernel
theorem dX1_init_0 : decode cX1_init 0 = .ok (.aload_n 0, 1) := by decide +kernel
theorem dX1_init_1 : decode cX1_init 1 = .ok (.invokespecial 1, 3) := by decide +kernel
theorem dX1_init_4 : decode cX1_init 4 = .ok (.lload_n 1, 1) := by decide +kernel
theorem dX1_init_5 : decode cX1_init 5 = .ok (.lload_n 3, 1) := by decide +kernel
theorem dX1_init_6 : decode cX1_init 6 = .ok (.lsub, 1) := by decide +kernel
theorem dX1_init_7 : decode cX1_init 7 = .ok (.lconst 0, 1) := by decide +kernel
theorem dX1_init_8 : decode cX1_init 8 = .ok (.invokestatic 7, 3) := by decide +kernel
theorem dX1_init_11 : decode cX1_init 11 = .ok (.lstore 10, 2) := by decide +kernel
theorem dX1_init_13 : decode cX1_init 13 = .ok (.aload_n 0, 1) := by decide +kernel
theorem dX1_init_14 : decode cX1_init 14 = .ok (.lload_n 1, 1) := by decide +kernel
theorem dX1_init_15 : decode cX1_init 15 = .ok (.lload 5, 2) := by decide +kernel
theorem dX1_init_17 : decode cX1_init 17 = .ok (.invokestatic 13, 3) := by decide +kernel
theorem dX1_init_20 : decode cX1_init 20 = .ok (.putfield 19, 3) := by decide +kernel
theorem dX1_init_23 : decode cX1_init 23 = .ok (.aload_n 0, 1) := by decide +kernel
theorem dX1_init_24 : decode cX1_init 24 = .ok (.lload_n 3, 1) := by decide +kernel
theorem dX1_init_25 : decode cX1_init 25 = .ok (.lload 5, 2) := by decide +kernel
theorem dX1_init_27 : decode cX1_init 27 = .ok (.invokestatic 13, 3) := by decide +kernel
theorem dX1_init_30 : decode cX1_init 30 = .ok (.putfield 25, 3) := by decide +kernel
theorem dX1_init_33 : decode cX1_init 33 = .ok (.aload_n 0, 1) := by decide +kernel
theorem dX1_init_34 : decode cX1_init 34 = .ok (.lload 10, 2) := by decide +kernel
theorem dX1_init_36 : decode cX1_init 36 = .ok (.lload 5, 2) := by decide +kernel
theorem dX1_init_38 : decode cX1_init 38 = .ok (.invokestatic 13, 3) := by decide +kernel
theorem dX1_init_41 : decode cX1_init 41 = .ok (.putfield 28, 3) := by decide +kernel
theorem dX1_init_44 : decode cX1_init 44 = .ok (.iload 9, 2) := by decide +kernel
theorem dX1_init_46 : decode cX1_init 46 = .ok (.ifCond .ne 21, 3) := by decide +kernel
theorem dX1_init_49 : decode cX1_init 49 = .ok (.aload_n 0, 1) := by decide +kernel
theorem dX1_init_50 : decode cX1_init 50 = .ok (.lload 10, 2) := by decide +kernel
theorem dX1_init_52 : decode cX1_init 52 = .ok (.lload 5, 2) := by decide +kernel
theorem dX1_init_54 : decode cX1_init 54 = .ok (.iload 7, 2) := by decide +kernel
theorem dX1_init_56 : decode cX1_init 56 = .ok (.i2l, 1) := by decide +kernel
theorem dX1_init_57 : decode cX1_init 57 = .ok (.lmul, 1) := by decide +kernel
theorem dX1_init_58 : decode cX1_init 58 = .ok (.invokestatic 13, 3) := by decide +kernel
theorem dX1_init_61 : decode cX1_init 61 = .ok (.putfield 31, 3) := by decide +kernel
theorem dX1_init_64 : decode cX1_init 64 = .ok (.goto 29, 3) := by decide +kernel
theorem dX1_init_67 : decode cX1_init 67 = .ok (.aload_n 0, 1) := by decide +kernel
theorem dX1_init_68 : decode cX1_init 68 = .ok (.lload 10, 2) := by decide +kernel
theorem dX1_init_70 : decode cX1_init 70 = .ok (.iload 9, 2) := by decide +kernel
theorem dX1_init_72 : decode cX1_init 72 = .ok (.iload 8, 2) := by decide +kernel
theorem dX1_init_74 : decode cX1_init 74 = .ok (.iadd, 1) := by decide +kernel
theorem dX1_init_75 : decode cX1_init 75 = .ok (.i2l, 1) := by decide +kernel
theorem dX1_init_76 : decode cX1_init 76 = .ok (.lmul, 1) := by decide +kernel
theorem dX1_init_77 : decode cX1_init 77 = .ok (.lload 5, 2) := by decide +kernel
theorem dX1_init_79 : decode cX1_init 79 = .ok (.iload 7, 2) := by decide +kernel
theorem dX1_init_81 : decode cX1_init 81 = .ok (.i2l, 1) := by decide +kernel
theorem dX1_init_82 : decode cX1_init 82 = .ok (.lmul, 1) := by decide +kernel
theorem dX1_init_83 : decode cX1_init 83 = .ok (.iload 9, 2) := by decide +kernel
theorem dX1_init_85 : decode cX1_init 85 = .ok (.i2l, 1) := by decide +kernel
theorem dX1_init_86 : decode cX1_init 86 = .ok (.lmul, 1) := by decide +kernel
theorem dX1_init_87 : decode cX1_init 87 = .ok (.invokestatic 13, 3) := by decide +kernel
theorem dX1_init_90 : decode cX1_init 90 = .ok (.putfield 31, 3) := by decide +kernel
theorem dX1_init_93 : decode cX1_init 93 = .ok (.aload_n 0, 1) := by decide +kernel
theorem dX1_init_94 : decode cX1_init 94 = .ok (.aload_n 0, 1) := by decide +kernel
theorem dX1_init_95 : decode cX1_init 95 = .ok (.getfield 31, 3) := by decide +kernel
theorem dX1_init_98 : decode cX1_init 98 = .ok (.iload 7, 2) := by decide +kernel
theorem dX1_init_100 : decode cX1_init 100 = .ok (.iload 8, 2) := by decide +kernel
theorem dX1_init_102 : decode cX1_init 102 = .ok (.isub, 1) := by decide +kernel
theorem dX1_init_103 : decode cX1_init 103 = .ok (.i2l, 1) := by decide +kernel
theorem dX1_init_104 : decode cX1_init 104 = .ok (.invokevirtual 34, 3) := by decide +kernel
theorem dX1_init_107 : decode cX1_init 107 = .ok (.putfield 38, 3) := by decide +kernel
theorem dX1_init_110 : decode cX1_init 110 = .ok (.aload_n 0, 1) := by decide +kernel
theorem dX1_init_111 : decode cX1_init 111 = .ok (.aload_n 0, 1) := by decide +kernel
theorem dX1_init_112 : decode cX1_init 112 = .ok (.getfield 28, 3) := by decide +kernel
theorem dX1_init_115 : decode cX1_init 115 = .ok (.aload_n 0, 1) := by decide +kernel
theorem dX1_init_116 : decode cX1_init 116 = .ok (.getfield 38, 3) := by decide +kernel
theorem dX1_init_119 : decode cX1_init 119 = .ok (.invokevirtual 41, 3) := by decide +kernel
theorem dX1_init_122 : decode cX1_init 122 = .ok (.putfield 45, 3) := by decide +kernel
theorem dX1_init_125 : decode cX1_init 125 = .ok (.aload_n 0, 1) := by decide +kernel
theorem dX1_init_126 : decode cX1_init 126 = .ok (.aload_n 0, 1) := by decide +kernel
theorem dX1_init_127 : decode cX1_init 127 = .ok (.getfield 38, 3) := by decide +kernel
theorem dX1_init_130 : decode cX1_init 130 = .ok (.getfield 48, 3) := by decide +kernel
theorem dX1_init_133 : decode cX1_init 133 = .ok (.lconst 0, 1) := by decide +kernel
theorem dX1_init_134 : decode cX1_init 134 = .ok (.lcmp, 1) := by decide +kernel
theorem dX1_init_135 : decode cX1_init 135 = .ok (.ifCond .ne 7, 3) := by decide +kernel
theorem dX1_init_138 : decode cX1_init 138 = .ok (.lconst 1, 1) := by decide +kernel
theorem dX1_init_139 : decode cX1_init 139 = .ok (.goto 9, 3) := by decide +kernel
theorem dX1_init_142 : decode cX1_init 142 = .ok (.iload 7, 2) := by decide +kernel
theorem dX1_init_144 : decode cX1_init 144 = .ok (.iload 8, 2) := by decide +kernel
theorem dX1_init_146 : decode cX1_init 146 = .ok (.isub, 1) := by decide +kernel
theorem dX1_init_147 : decode cX1_init 147 = .ok (.i2l, 1) := by decide +kernel
theorem dX1_init_148 : decode cX1_init 148 = .ok (.putfield 52, 3) := by decide +kernel
theorem dX1_init_151 : decode cX1_init 151 = .ok (.return_, 1) := by decide +kernel
theorem dX2_init_0 : decode cX2_init 0 = .ok (.aload_n 0, 1) := by decide +kernel
theorem dX2_init_1 : decode cX2_init 1 = .ok (.invokespecial 1, 3) := by decide +kernel
theorem dX2_init_4 : decode cX2_init 4 = .ok (.aload_n 0, 1) := by decide +kernel
theorem dX2_init_5 : decode cX2_init 5 = .ok (.lload_n 1, 1) := by decide +kernel
theorem dX2_init_6 : decode cX2_init 6 = .ok (.putfield 7, 3) := by decide +kernel
theorem dX2_init_9 : decode cX2_init 9 = .ok (.aload_n 0, 1) := by decide +kernel
theorem dX2_init_10 : decode cX2_init 10 = .ok (.lload_n 3, 1) := by decide +kernel
theorem dX2_init_11 : decode cX2_init 11 = .ok (.putfield 13, 3) := by decide +kernel
theorem dX2_init_14 : decode cX2_init 14 = .ok (.return_, 1) := by decide +kernel
theorem dX2_of_0 : decode cX2_of 0 = .ok (.lload_n 2, 1) := by decide +kernel
theorem dX2_of_1 : decode cX2_of 1 = .ok (.lconst 0, 1) := by decide +kernel
theorem dX2_of_2 : decode cX2_of 2 = .ok (.lcmp, 1) := by decide +kernel
theorem dX2_of_3 : decode cX2_of 3 = .ok (.ifCond .gt 13, 3) := by decide +kernel
theorem dX2_of_6 : decode cX2_of 6 = .ok (.new 8, 3) := by decide +kernel
theorem dX2_of_9 : decode cX2_of 9 = .ok (.dup, 1) := by decide +kernel
theorem dX2_of_10 : decode cX2_of 10 = .ok (.lconst 0, 1) := by decide +kernel
theorem dX2_of_11 : decode cX2_of 11 = .ok (.lconst 1, 1) := by decide +kernel
theorem dX2_of_12 : decode cX2_of 12 = .ok (.invokespecial 16, 3) := by decide +kernel
theorem dX2_of_15 : decode cX2_of 15 = .ok (.areturn, 1) := by decide +kernel
theorem dX2_of_16 : decode cX2_of 16 = .ok (.lload_n 0, 1) := by decide +kernel
theorem dX2_of_17 : decode cX2_of 17 = .ok (.invokestatic 19, 3) := by decide +kernel
theorem dX2_of_20 : decode cX2_of 20 = .ok (.lload_n 2, 1) := by decide +kernel
theorem dX2_of_21 : decode cX2_of 21 = .ok (.invokestatic 25, 3) := by decide +kernel
theorem dX2_of_24 : decode cX2_of 24 = .ok (.lstore 4, 2) := by decide +kernel
theorem dX2_of_26 : decode cX2_of 26 = .ok (.new 8, 3) := by decide +kernel
theorem dX2_of_29 : decode cX2_of 29 = .ok (.dup, 1) := by decide +kernel
theorem dX2_of_30 : decode cX2_of 30 = .ok (.lload_n 0, 1) := by decide +kernel
theorem dX2_of_31 : decode cX2_of 31 = .ok (.lload 4, 2) := by decide +kernel
theorem dX2_of_33 : decode cX2_of 33 = .ok (.ldiv, 1) := by decide +kernel
theorem dX2_of_34 : decode cX2_of 34 = .ok (.lload_n 2, 1) := by decide +kernel
theorem dX2_of_35 : decode cX2_of 35 = .ok (.lload 4, 2) := by decide +kernel
theorem dX2_of_37 : decode cX2_of 37 = .ok (.ldiv, 1) := by decide +kernel
theorem dX2_of_38 : decode cX2_of 38 = .ok (.invokespecial 16, 3) := by decide +kernel
theorem dX2_of_41 : decode cX2_of 41 = .ok (.areturn, 1) := by decide +kernel
theorem dX2_commonDivisor_0 : decode cX2_commonDivisor 0 = .ok (.lload_n 0, 1) := by decide +kernel
theorem dX2_commonDivisor_1 : decode cX2_commonDivisor 1 = .ok (.lstore 4, 2) := by decide +kernel
theorem dX2_commonDivisor_3 : decode cX2_commonDivisor 3 = .ok (.lload_n 2, 1) := by decide +kernel
theorem dX2_commonDivisor_4 : decode cX2_commonDivisor 4 = .ok (.lstore 6, 2) := by decide +kernel
theorem dX2_commonDivisor_6 : decode cX2_commonDivisor 6 = .ok (.iconst 0, 1) := by decide +kernel
theorem dX2_commonDivisor_7 : decode cX2_commonDivisor 7 = .ok (.istore 8, 2) := by decide +kernel
theorem dX2_commonDivisor_9 : decode cX2_commonDivisor 9 = .ok (.iload 8, 2) := by decide +kernel
theorem dX2_commonDivisor_11 : decode cX2_commonDivisor 11 = .ok (.bipush 100, 2) := by decide +kernel
theorem dX2_commonDivisor_13 : decode cX2_commonDivisor 13 = .ok (.if_icmp .ge 31, 3) := by decide +kernel
theorem dX2_commonDivisor_16 : decode cX2_commonDivisor 16 = .ok (.lload 6, 2) := by decide +kernel
theorem dX2_commonDivisor_18 : decode cX2_commonDivisor 18 = .ok (.lconst 0, 1) := by decide +kernel
theorem dX2_commonDivisor_19 : decode cX2_commonDivisor 19 = .ok (.lcmp, 1) := by decide +kernel
theorem dX2_commonDivisor_20 : decode cX2_commonDivisor 20 = .ok (.ifCond .eq 24, 3) := by decide +kernel
theorem dX2_commonDivisor_23 : decode cX2_commonDivisor 23 = .ok (.lload 4, 2) := by decide +kernel
theorem dX2_commonDivisor_25 : decode cX2_commonDivisor 25 = .ok (.lload 6, 2) := by decide +kernel
theorem dX2_commonDivisor_27 : decode cX2_commonDivisor 27 = .ok (.lrem, 1) := by decide +kernel
theorem dX2_commonDivisor_28 : decode cX2_commonDivisor 28 = .ok (.lstore 9, 2) := by decide +kernel
theorem dX2_commonDivisor_30 : decode cX2_commonDivisor 30 = .ok (.lload 6, 2) := by decide +kernel
theorem dX2_commonDivisor_32 : decode cX2_commonDivisor 32 = .ok (.lstore 4, 2) := by decide +kernel
theorem dX2_commonDivisor_34 : decode cX2_commonDivisor 34 = .ok (.lload 9, 2) := by decide +kernel
theorem dX2_commonDivisor_36 : decode cX2_commonDivisor 36 = .ok (.lstore 6, 2) := by decide +kernel
theorem dX2_commonDivisor_38 : decode cX2_commonDivisor 38 = .ok (.iinc 8 1, 3) := by decide +kernel
theorem dX2_commonDivisor_41 : decode cX2_commonDivisor 41 = .ok (.goto (-32), 3) := by decide +kernel
theorem dX2_commonDivisor_44 : decode cX2_commonDivisor 44 = .ok (.lload 4, 2) := by decide +kernel
theorem dX2_commonDivisor_46 : decode cX2_commonDivisor 46 = .ok (.lconst 0, 1) := by decide +kernel
theorem dX2_commonDivisor_47 : decode cX2_commonDivisor 47 = .ok (.lcmp, 1) := by decide +kernel
theorem dX2_commonDivisor_48 : decode cX2_commonDivisor 48 = .ok (.ifCond .le 8, 3) := by decide +kernel
theorem dX2_commonDivisor_51 : decode cX2_commonDivisor 51 = .ok (.lload 4, 2) := by decide +kernel
theorem dX2_commonDivisor_53 : decode cX2_commonDivisor 53 = .ok (.goto 4, 3) := by decide +kernel
theorem dX2_commonDivisor_56 : decode cX2_commonDivisor 56 = .ok (.lconst 1, 1) := by decide +kernel
theorem dX2_commonDivisor_57 : decode cX2_commonDivisor 57 = .ok (.lreturn, 1) := by decide +kernel
theorem dX2_times_0 : decode cX2_times 0 = .ok (.aload_n 0, 1) := by decide +kernel
theorem dX2_times_1 : decode cX2_times 1 = .ok (.getfield 7, 3) := by decide +kernel
theorem dX2_times_4 : decode cX2_times 4 = .ok (.lload_n 1, 1) := by decide +kernel
theorem dX2_times_5 : decode cX2_times 5 = .ok (.lmul, 1) := by decide +kernel
theorem dX2_times_6 : decode cX2_times 6 = .ok (.aload_n 0, 1) := by decide +kernel
theorem dX2_times_7 : decode cX2_times 7 = .ok (.getfield 13, 3) := by decide +kernel
theorem dX2_times_10 : decode cX2_times 10 = .ok (.invokestatic 29, 3) := by decide +kernel
theorem dX2_times_13 : decode cX2_times 13 = .ok (.areturn, 1) := by decide +kernel
theorem dX2_plusWhole_0 : decode cX2_plusWhole 0 = .ok (.aload_n 0, 1) := by decide +kernel
theorem dX2_plusWhole_1 : decode cX2_plusWhole 1 = .ok (.getfield 7, 3) := by decide +kernel
theorem dX2_plusWhole_4 : decode cX2_plusWhole 4 = .ok (.lload_n 1, 1) := by decide +kernel
theorem dX2_plusWhole_5 : decode cX2_plusWhole 5 = .ok (.aload_n 0, 1) := by decide +kernel
theorem dX2_plusWhole_6 : decode cX2_plusWhole 6 = .ok (.getfield 13, 3) := by decide +kernel
theorem dX2_plusWhole_9 : decode cX2_plusWhole 9 = .ok (.lmul, 1) := by decide +kernel
theorem dX2_plusWhole_10 : decode cX2_plusWhole 10 = .ok (.ladd, 1) := by decide +kernel
theorem dX2_plusWhole_11 : decode cX2_plusWhole 11 = .ok (.aload_n 0, 1) := by decide +kernel
theorem dX2_plusWhole_12 : decode cX2_plusWhole 12 = .ok (.getfield 13, 3) := by decide +kernel
theorem dX2_plusWhole_15 : decode cX2_plusWhole 15 = .ok (.invokestatic 29, 3) := by decide +kernel
theorem dX2_plusWhole_18 : decode cX2_plusWhole 18 = .ok (.areturn, 1) := by decide +kernel
theorem dX2_minus_0 : decode cX2_minus 0 = .ok (.aload_n 0, 1) := by decide +kernel
theorem dX2_minus_1 : decode cX2_minus 1 = .ok (.getfield 13, 3) := by decide +kernel
theorem dX2_minus_4 : decode cX2_minus 4 = .ok (.aload_n 1, 1) := by decide +kernel
theorem dX2_minus_5 : decode cX2_minus 5 = .ok (.getfield 13, 3) := by decide +kernel
theorem dX2_minus_8 : decode cX2_minus 8 = .ok (.invokestatic 25, 3) := by decide +kernel
theorem dX2_minus_11 : decode cX2_minus 11 = .ok (.lstore_n 2, 1) := by decide +kernel
theorem dX2_minus_12 : decode cX2_minus 12 = .ok (.aload_n 0, 1) := by decide +kernel
theorem dX2_minus_13 : decode cX2_minus 13 = .ok (.getfield 13, 3) := by decide +kernel
theorem dX2_minus_16 : decode cX2_minus 16 = .ok (.lload_n 2, 1) := by decide +kernel
theorem dX2_minus_17 : decode cX2_minus 17 = .ok (.ldiv, 1) := by decide +kernel
theorem dX2_minus_18 : decode cX2_minus 18 = .ok (.lstore 4, 2) := by decide +kernel
theorem dX2_minus_20 : decode cX2_minus 20 = .ok (.aload_n 1, 1) := by decide +kernel
theorem dX2_minus_21 : decode cX2_minus 21 = .ok (.getfield 13, 3) := by decide +kernel
theorem dX2_minus_24 : decode cX2_minus 24 = .ok (.lload_n 2, 1) := by decide +kernel
theorem dX2_minus_25 : decode cX2_minus 25 = .ok (.ldiv, 1) := by decide +kernel
theorem dX2_minus_26 : decode cX2_minus 26 = .ok (.lstore 6, 2) := by decide +kernel
theorem dX2_minus_28 : decode cX2_minus 28 = .ok (.aload_n 0, 1) := by decide +kernel
theorem dX2_minus_29 : decode cX2_minus 29 = .ok (.getfield 7, 3) := by decide +kernel
theorem dX2_minus_32 : decode cX2_minus 32 = .ok (.lload 6, 2) := by decide +kernel
theorem dX2_minus_34 : decode cX2_minus 34 = .ok (.lmul, 1) := by decide +kernel
theorem dX2_minus_35 : decode cX2_minus 35 = .ok (.aload_n 1, 1) := by decide +kernel
theorem dX2_minus_36 : decode cX2_minus 36 = .ok (.getfield 7, 3) := by decide +kernel
theorem dX2_minus_39 : decode cX2_minus 39 = .ok (.lload 4, 2) := by decide +kernel
theorem dX2_minus_41 : decode cX2_minus 41 = .ok (.lmul, 1) := by decide +kernel
theorem dX2_minus_42 : decode cX2_minus 42 = .ok (.lsub, 1) := by decide +kernel
theorem dX2_minus_43 : decode cX2_minus 43 = .ok (.aload_n 0, 1) := by decide +kernel
theorem dX2_minus_44 : decode cX2_minus 44 = .ok (.getfield 13, 3) := by decide +kernel
theorem dX2_minus_47 : decode cX2_minus 47 = .ok (.lload 6, 2) := by decide +kernel
theorem dX2_minus_49 : decode cX2_minus 49 = .ok (.lmul, 1) := by decide +kernel
theorem dX2_minus_50 : decode cX2_minus 50 = .ok (.invokestatic 29, 3) := by decide +kernel
theorem dX2_minus_53 : decode cX2_minus 53 = .ok (.areturn, 1) := by decide +kernel
theorem dX2_told_0 : decode cX2_told 0 = .ok (.iload_n 1, 1) := by decide +kernel
theorem dX2_told_1 : decode cX2_told 1 = .ok (.ifCond .ne 10, 3) := by decide +kernel
theorem dX2_told_4 : decode cX2_told 4 = .ok (.aload_n 0, 1) := by decide +kernel
theorem dX2_told_5 : decode cX2_told 5 = .ok (.getfield 7, 3) := by decide +kernel
theorem dX2_told_8 : decode cX2_told 8 = .ok (.goto 7, 3) := by decide +kernel
theorem dX2_told_11 : decode cX2_told 11 = .ok (.aload_n 0, 1) := by decide +kernel
theorem dX2_told_12 : decode cX2_told 12 = .ok (.getfield 13, 3) := by decide +kernel
theorem dX2_told_15 : decode cX2_told 15 = .ok (.lreturn, 1) := by decide +kernel
theorem dX3_init_0 : decode cX3_init 0 = .ok (.aload_n 0, 1) := by decide +kernel
theorem dX3_init_1 : decode cX3_init 1 = .ok (.invokespecial 3, 3) := by decide +kernel
theorem dX3_init_4 : decode cX3_init 4 = .ok (.aload_n 0, 1) := by decide +kernel
theorem dX3_init_5 : decode cX3_init 5 = .ok (.iconst 3, 1) := by decide +kernel
theorem dX3_init_6 : decode cX3_init 6 = .ok (.newarray .int, 2) := by decide +kernel
theorem dX3_init_8 : decode cX3_init 8 = .ok (.dup, 1) := by decide +kernel
theorem dX3_init_9 : decode cX3_init 9 = .ok (.iconst 0, 1) := by decide +kernel
theorem dX3_init_10 : decode cX3_init 10 = .ok (.iconst 0, 1) := by decide +kernel
theorem dX3_init_11 : decode cX3_init 11 = .ok (.iastore, 1) := by decide +kernel
theorem dX3_init_12 : decode cX3_init 12 = .ok (.dup, 1) := by decide +kernel
theorem dX3_init_13 : decode cX3_init 13 = .ok (.iconst 1, 1) := by decide +kernel
theorem dX3_init_14 : decode cX3_init 14 = .ok (.iconst 0, 1) := by decide +kernel
theorem dX3_init_15 : decode cX3_init 15 = .ok (.iastore, 1) := by decide +kernel
theorem dX3_init_16 : decode cX3_init 16 = .ok (.dup, 1) := by decide +kernel
theorem dX3_init_17 : decode cX3_init 17 = .ok (.iconst 2, 1) := by decide +kernel
theorem dX3_init_18 : decode cX3_init 18 = .ok (.bipush 100, 2) := by decide +kernel
theorem dX3_init_20 : decode cX3_init 20 = .ok (.iastore, 1) := by decide +kernel
theorem dX3_init_21 : decode cX3_init 21 = .ok (.putfield 9, 3) := by decide +kernel
theorem dX3_init_24 : decode cX3_init 24 = .ok (.aload_n 0, 1) := by decide +kernel
theorem dX3_init_25 : decode cX3_init 25 = .ok (.bipush 6, 2) := by decide +kernel
theorem dX3_init_27 : decode cX3_init 27 = .ok (.newarray .int, 2) := by decide +kernel
theorem dX3_init_29 : decode cX3_init 29 = .ok (.putfield 15, 3) := by decide +kernel
theorem dX3_init_32 : decode cX3_init 32 = .ok (.aload_n 0, 1) := by decide +kernel
theorem dX3_init_33 : decode cX3_init 33 = .ok (.bipush 6, 2) := by decide +kernel
theorem dX3_init_35 : decode cX3_init 35 = .ok (.newarray .int, 2) := by decide +kernel
theorem dX3_init_37 : decode cX3_init 37 = .ok (.putfield 18, 3) := by decide +kernel
theorem dX3_init_40 : decode cX3_init 40 = .ok (.aload_n 0, 1) := by decide +kernel
theorem dX3_init_41 : decode cX3_init 41 = .ok (.bipush 6, 2) := by decide +kernel
theorem dX3_init_43 : decode cX3_init 43 = .ok (.newarray .int, 2) := by decide +kernel
theorem dX3_init_45 : decode cX3_init 45 = .ok (.putfield 21, 3) := by decide +kernel
theorem dX3_init_48 : decode cX3_init 48 = .ok (.aload_n 0, 1) := by decide +kernel
theorem dX3_init_49 : decode cX3_init 49 = .ok (.bipush 6, 2) := by decide +kernel
theorem dX3_init_51 : decode cX3_init 51 = .ok (.newarray .int, 2) := by decide +kernel
theorem dX3_init_53 : decode cX3_init 53 = .ok (.putfield 24, 3) := by decide +kernel
theorem dX3_init_56 : decode cX3_init 56 = .ok (.aload_n 0, 1) := by decide +kernel
theorem dX3_init_57 : decode cX3_init 57 = .ok (.new 27, 3) := by decide +kernel
theorem dX3_init_60 : decode cX3_init 60 = .ok (.dup, 1) := by decide +kernel
theorem dX3_init_61 : decode cX3_init 61 = .ok (.invokespecial 29, 3) := by decide +kernel
theorem dX3_init_64 : decode cX3_init 64 = .ok (.putfield 30, 3) := by decide +kernel
theorem dX3_init_67 : decode cX3_init 67 = .ok (.return_, 1) := by decide +kernel
theorem dX3_loss_0 : decode cX3_loss 0 = .ok (.iload_n 1, 1) := by decide +kernel
theorem dX3_loss_1 : decode cX3_loss 1 = .ok (.iconst 0, 1) := by decide +kernel
theorem dX3_loss_2 : decode cX3_loss 2 = .ok (.ldc 34, 2) := by decide +kernel
theorem dX3_loss_4 : decode cX3_loss 4 = .ok (.invokestatic 35, 3) := by decide +kernel
theorem dX3_loss_7 : decode cX3_loss 7 = .ok (.ifCond .eq 6, 3) := by decide +kernel
theorem dX3_loss_10 : decode cX3_loss 10 = .ok (.bipush (-2), 2) := by decide +kernel
theorem dX3_loss_12 : decode cX3_loss 12 = .ok (.ireturn, 1) := by decide +kernel
theorem dX3_loss_13 : decode cX3_loss 13 = .ok (.aload_n 0, 1) := by decide +kernel
theorem dX3_loss_14 : decode cX3_loss 14 = .ok (.getfield 39, 3) := by decide +kernel
theorem dX3_loss_17 : decode cX3_loss 17 = .ok (.istore_n 2, 1) := by decide +kernel
theorem dX3_loss_18 : decode cX3_loss 18 = .ok (.aload_n 0, 1) := by decide +kernel
theorem dX3_loss_19 : decode cX3_loss 19 = .ok (.iload_n 1, 1) := by decide +kernel
theorem dX3_loss_20 : decode cX3_loss 20 = .ok (.putfield 39, 3) := by decide +kernel
theorem dX3_loss_23 : decode cX3_loss 23 = .ok (.iload_n 2, 1) := by decide +kernel
theorem dX3_loss_24 : decode cX3_loss 24 = .ok (.ireturn, 1) := by decide +kernel
theorem dX3_claimant_0 : decode cX3_claimant 0 = .ok (.iload_n 1, 1) := by decide +kernel
theorem dX3_claimant_1 : decode cX3_claimant 1 = .ok (.iconst 0, 1) := by decide +kernel
theorem dX3_claimant_2 : decode cX3_claimant 2 = .ok (.bipush 100, 2) := by decide +kernel
theorem dX3_claimant_4 : decode cX3_claimant 4 = .ok (.invokestatic 35, 3) := by decide +kernel
theorem dX3_claimant_7 : decode cX3_claimant 7 = .ok (.ifCond .eq 6, 3) := by decide +kernel
theorem dX3_claimant_10 : decode cX3_claimant 10 = .ok (.bipush (-2), 2) := by decide +kernel
theorem dX3_claimant_12 : decode cX3_claimant 12 = .ok (.ireturn, 1) := by decide +kernel
theorem dX3_claimant_13 : decode cX3_claimant 13 = .ok (.aload_n 0, 1) := by decide +kernel
theorem dX3_claimant_14 : decode cX3_claimant 14 = .ok (.getfield 43, 3) := by decide +kernel
theorem dX3_claimant_17 : decode cX3_claimant 17 = .ok (.istore_n 2, 1) := by decide +kernel
theorem dX3_claimant_18 : decode cX3_claimant 18 = .ok (.aload_n 0, 1) := by decide +kernel
theorem dX3_claimant_19 : decode cX3_claimant 19 = .ok (.iload_n 1, 1) := by decide +kernel
theorem dX3_claimant_20 : decode cX3_claimant 20 = .ok (.putfield 43, 3) := by decide +kernel
theorem dX3_claimant_23 : decode cX3_claimant 23 = .ok (.iload_n 2, 1) := by decide +kernel
theorem dX3_claimant_24 : decode cX3_claimant 24 = .ok (.ireturn, 1) := by decide +kernel
theorem dX3_wrong_0 : decode cX3_wrong 0 = .ok (.iload_n 1, 1) := by decide +kernel
theorem dX3_wrong_1 : decode cX3_wrong 1 = .ok (.iconst 0, 1) := by decide +kernel
theorem dX3_wrong_2 : decode cX3_wrong 2 = .ok (.bipush 100, 2) := by decide +kernel
theorem dX3_wrong_4 : decode cX3_wrong 4 = .ok (.invokestatic 35, 3) := by decide +kernel
theorem dX3_wrong_7 : decode cX3_wrong 7 = .ok (.ifCond .eq 6, 3) := by decide +kernel
theorem dX3_wrong_10 : decode cX3_wrong 10 = .ok (.bipush (-2), 2) := by decide +kernel
theorem dX3_wrong_12 : decode cX3_wrong 12 = .ok (.ireturn, 1) := by decide +kernel
theorem dX3_wrong_13 : decode cX3_wrong 13 = .ok (.iconst 0, 1) := by decide +kernel
theorem dX3_wrong_14 : decode cX3_wrong 14 = .ok (.istore_n 2, 1) := by decide +kernel
theorem dX3_wrong_15 : decode cX3_wrong 15 = .ok (.iload_n 2, 1) := by decide +kernel
theorem dX3_wrong_16 : decode cX3_wrong 16 = .ok (.bipush 6, 2) := by decide +kernel
theorem dX3_wrong_18 : decode cX3_wrong 18 = .ok (.if_icmp .ge 52, 3) := by decide +kernel
theorem dX3_wrong_21 : decode cX3_wrong 21 = .ok (.aload_n 0, 1) := by decide +kernel
theorem dX3_wrong_22 : decode cX3_wrong 22 = .ok (.getfield 46, 3) := by decide +kernel
theorem dX3_wrong_25 : decode cX3_wrong 25 = .ok (.iload_n 2, 1) := by decide +kernel
theorem dX3_wrong_26 : decode cX3_wrong 26 = .ok (.invokestatic 49, 3) := by decide +kernel
theorem dX3_wrong_29 : decode cX3_wrong 29 = .ok (.ifCond .ne 35, 3) := by decide +kernel
theorem dX3_wrong_32 : decode cX3_wrong 32 = .ok (.aload_n 0, 1) := by decide +kernel
theorem dX3_wrong_33 : decode cX3_wrong 33 = .ok (.dup, 1) := by decide +kernel
theorem dX3_wrong_34 : decode cX3_wrong 34 = .ok (.getfield 46, 3) := by decide +kernel
theorem dX3_wrong_37 : decode cX3_wrong 37 = .ok (.iload_n 2, 1) := by decide +kernel
theorem dX3_wrong_38 : decode cX3_wrong 38 = .ok (.invokestatic 53, 3) := by decide +kernel
theorem dX3_wrong_41 : decode cX3_wrong 41 = .ok (.ior, 1) := by decide +kernel
theorem dX3_wrong_42 : decode cX3_wrong 42 = .ok (.putfield 46, 3) := by decide +kernel
theorem dX3_wrong_45 : decode cX3_wrong 45 = .ok (.aload_n 0, 1) := by decide +kernel
theorem dX3_wrong_46 : decode cX3_wrong 46 = .ok (.getfield 15, 3) := by decide +kernel
theorem dX3_wrong_49 : decode cX3_wrong 49 = .ok (.iload_n 2, 1) := by decide +kernel
theorem dX3_wrong_50 : decode cX3_wrong 50 = .ok (.iload_n 1, 1) := by decide +kernel
theorem dX3_wrong_51 : decode cX3_wrong 51 = .ok (.iastore, 1) := by decide +kernel
theorem dX3_wrong_52 : decode cX3_wrong 52 = .ok (.aload_n 0, 1) := by decide +kernel
theorem dX3_wrong_53 : decode cX3_wrong 53 = .ok (.getfield 18, 3) := by decide +kernel
theorem dX3_wrong_56 : decode cX3_wrong 56 = .ok (.iload_n 2, 1) := by decide +kernel
theorem dX3_wrong_57 : decode cX3_wrong 57 = .ok (.iload_n 2, 1) := by decide +kernel
theorem dX3_wrong_58 : decode cX3_wrong 58 = .ok (.invokestatic 53, 3) := by decide +kernel
theorem dX3_wrong_61 : decode cX3_wrong 61 = .ok (.iastore, 1) := by decide +kernel
theorem dX3_wrong_62 : decode cX3_wrong 62 = .ok (.iload_n 2, 1) := by decide +kernel
theorem dX3_wrong_63 : decode cX3_wrong 63 = .ok (.ireturn, 1) := by decide +kernel
theorem dX3_wrong_64 : decode cX3_wrong 64 = .ok (.iinc 2 1, 3) := by decide +kernel
theorem dX3_wrong_67 : decode cX3_wrong 67 = .ok (.goto (-52), 3) := by decide +kernel
theorem dX3_wrong_70 : decode cX3_wrong 70 = .ok (.bipush (-4), 2) := by decide +kernel
theorem dX3_wrong_72 : decode cX3_wrong 72 = .ok (.ireturn, 1) := by decide +kernel
theorem dX3_leave_0 : decode cX3_leave 0 = .ok (.aload_n 0, 1) := by decide +kernel
theorem dX3_leave_1 : decode cX3_leave 1 = .ok (.iload_n 1, 1) := by decide +kernel
theorem dX3_leave_2 : decode cX3_leave 2 = .ok (.invokevirtual 57, 3) := by decide +kernel
theorem dX3_leave_5 : decode cX3_leave 5 = .ok (.ifCond .ne 5, 3) := by decide +kernel
theorem dX3_leave_8 : decode cX3_leave 8 = .ok (.iconst (-1), 1) := by decide +kernel
theorem dX3_leave_9 : decode cX3_leave 9 = .ok (.ireturn, 1) := by decide +kernel
theorem dX3_leave_10 : decode cX3_leave 10 = .ok (.aload_n 0, 1) := by decide +kernel
theorem dX3_leave_11 : decode cX3_leave 11 = .ok (.iload_n 1, 1) := by decide +kernel
theorem dX3_leave_12 : decode cX3_leave 12 = .ok (.invokevirtual 61, 3) := by decide +kernel
theorem dX3_leave_15 : decode cX3_leave 15 = .ok (.aload_n 0, 1) := by decide +kernel
theorem dX3_leave_16 : decode cX3_leave 16 = .ok (.iload_n 1, 1) := by decide +kernel
theorem dX3_leave_17 : decode cX3_leave 17 = .ok (.invokevirtual 65, 3) := by decide +kernel
theorem dX3_leave_20 : decode cX3_leave 20 = .ok (.aload_n 0, 1) := by decide +kernel
theorem dX3_leave_21 : decode cX3_leave 21 = .ok (.dup, 1) := by decide +kernel
theorem dX3_leave_22 : decode cX3_leave 22 = .ok (.getfield 46, 3) := by decide +kernel
theorem dX3_leave_25 : decode cX3_leave 25 = .ok (.iload_n 1, 1) := by decide +kernel
theorem dX3_leave_26 : decode cX3_leave 26 = .ok (.invokestatic 53, 3) := by decide +kernel
theorem dX3_leave_29 : decode cX3_leave 29 = .ok (.iconst (-1), 1) := by decide +kernel
theorem dX3_leave_30 : decode cX3_leave 30 = .ok (.ixor, 1) := by decide +kernel
theorem dX3_leave_31 : decode cX3_leave 31 = .ok (.iand, 1) := by decide +kernel
theorem dX3_leave_32 : decode cX3_leave 32 = .ok (.putfield 46, 3) := by decide +kernel
theorem dX3_leave_35 : decode cX3_leave 35 = .ok (.aload_n 0, 1) := by decide +kernel
theorem dX3_leave_36 : decode cX3_leave 36 = .ok (.dup, 1) := by decide +kernel
theorem dX3_leave_37 : decode cX3_leave 37 = .ok (.getfield 68, 3) := by decide +kernel
theorem dX3_leave_40 : decode cX3_leave 40 = .ok (.iload_n 1, 1) := by decide +kernel
theorem dX3_leave_41 : decode cX3_leave 41 = .ok (.invokestatic 53, 3) := by decide +kernel
theorem dX3_leave_44 : decode cX3_leave 44 = .ok (.iconst (-1), 1) := by decide +kernel
theorem dX3_leave_45 : decode cX3_leave 45 = .ok (.ixor, 1) := by decide +kernel
theorem dX3_leave_46 : decode cX3_leave 46 = .ok (.iand, 1) := by decide +kernel
theorem dX3_leave_47 : decode cX3_leave 47 = .ok (.putfield 68, 3) := by decide +kernel
theorem dX3_leave_50 : decode cX3_leave 50 = .ok (.aload_n 0, 1) := by decide +kernel
theorem dX3_leave_51 : decode cX3_leave 51 = .ok (.getfield 15, 3) := by decide +kernel
theorem dX3_leave_54 : decode cX3_leave 54 = .ok (.iload_n 1, 1) := by decide +kernel
theorem dX3_leave_55 : decode cX3_leave 55 = .ok (.iconst 0, 1) := by decide +kernel
theorem dX3_leave_56 : decode cX3_leave 56 = .ok (.iastore, 1) := by decide +kernel
theorem dX3_leave_57 : decode cX3_leave 57 = .ok (.aload_n 0, 1) := by decide +kernel
theorem dX3_leave_58 : decode cX3_leave 58 = .ok (.getfield 18, 3) := by decide +kernel
theorem dX3_leave_61 : decode cX3_leave 61 = .ok (.iload_n 1, 1) := by decide +kernel
theorem dX3_leave_62 : decode cX3_leave 62 = .ok (.iconst 0, 1) := by decide +kernel
theorem dX3_leave_63 : decode cX3_leave 63 = .ok (.iastore, 1) := by decide +kernel
theorem dX3_leave_64 : decode cX3_leave 64 = .ok (.aload_n 0, 1) := by decide +kernel
theorem dX3_leave_65 : decode cX3_leave 65 = .ok (.getfield 24, 3) := by decide +kernel
theorem dX3_leave_68 : decode cX3_leave 68 = .ok (.iload_n 1, 1) := by decide +kernel
theorem dX3_leave_69 : decode cX3_leave 69 = .ok (.iconst 0, 1) := by decide +kernel
theorem dX3_leave_70 : decode cX3_leave 70 = .ok (.iastore, 1) := by decide +kernel
theorem dX3_leave_71 : decode cX3_leave 71 = .ok (.aload_n 0, 1) := by decide +kernel
theorem dX3_leave_72 : decode cX3_leave 72 = .ok (.getfield 46, 3) := by decide +kernel
theorem dX3_leave_75 : decode cX3_leave 75 = .ok (.invokestatic 71, 3) := by decide +kernel
theorem dX3_leave_78 : decode cX3_leave 78 = .ok (.ireturn, 1) := by decide +kernel
theorem dX3_weight_0 : decode cX3_weight 0 = .ok (.aload_n 0, 1) := by decide +kernel
theorem dX3_weight_1 : decode cX3_weight 1 = .ok (.iload_n 1, 1) := by decide +kernel
theorem dX3_weight_2 : decode cX3_weight 2 = .ok (.invokevirtual 57, 3) := by decide +kernel
theorem dX3_weight_5 : decode cX3_weight 5 = .ok (.ifCond .ne 5, 3) := by decide +kernel
theorem dX3_weight_8 : decode cX3_weight 8 = .ok (.iconst (-1), 1) := by decide +kernel
theorem dX3_weight_9 : decode cX3_weight 9 = .ok (.ireturn, 1) := by decide +kernel
theorem dX3_weight_10 : decode cX3_weight 10 = .ok (.iload_n 2, 1) := by decide +kernel
theorem dX3_weight_11 : decode cX3_weight 11 = .ok (.iconst 0, 1) := by decide +kernel
theorem dX3_weight_12 : decode cX3_weight 12 = .ok (.bipush 100, 2) := by decide +kernel
theorem dX3_weight_14 : decode cX3_weight 14 = .ok (.invokestatic 35, 3) := by decide +kernel
theorem dX3_weight_17 : decode cX3_weight 17 = .ok (.ifCond .eq 6, 3) := by decide +kernel
theorem dX3_weight_20 : decode cX3_weight 20 = .ok (.bipush (-2), 2) := by decide +kernel
theorem dX3_weight_22 : decode cX3_weight 22 = .ok (.ireturn, 1) := by decide +kernel
theorem dX3_weight_23 : decode cX3_weight 23 = .ok (.aload_n 0, 1) := by decide +kernel
theorem dX3_weight_24 : decode cX3_weight 24 = .ok (.getfield 15, 3) := by decide +kernel
theorem dX3_weight_27 : decode cX3_weight 27 = .ok (.iload_n 1, 1) := by decide +kernel
theorem dX3_weight_28 : decode cX3_weight 28 = .ok (.iaload, 1) := by decide +kernel
theorem dX3_weight_29 : decode cX3_weight 29 = .ok (.istore_n 3, 1) := by decide +kernel
theorem dX3_weight_30 : decode cX3_weight 30 = .ok (.aload_n 0, 1) := by decide +kernel
theorem dX3_weight_31 : decode cX3_weight 31 = .ok (.getfield 15, 3) := by decide +kernel
theorem dX3_weight_34 : decode cX3_weight 34 = .ok (.iload_n 1, 1) := by decide +kernel
theorem dX3_weight_35 : decode cX3_weight 35 = .ok (.iload_n 2, 1) := by decide +kernel
theorem dX3_weight_36 : decode cX3_weight 36 = .ok (.iastore, 1) := by decide +kernel
theorem dX3_weight_37 : decode cX3_weight 37 = .ok (.iload_n 3, 1) := by decide +kernel
theorem dX3_weight_38 : decode cX3_weight 38 = .ok (.ireturn, 1) := by decide +kernel
theorem dX3_broke_0 : decode cX3_broke 0 = .ok (.aload_n 0, 1) := by decide +kernel
theorem dX3_broke_1 : decode cX3_broke 1 = .ok (.iload_n 1, 1) := by decide +kernel
theorem dX3_broke_2 : decode cX3_broke 2 = .ok (.invokevirtual 57, 3) := by decide +kernel
theorem dX3_broke_5 : decode cX3_broke 5 = .ok (.ifCond .ne 5, 3) := by decide +kernel
theorem dX3_broke_8 : decode cX3_broke 8 = .ok (.iconst (-1), 1) := by decide +kernel
theorem dX3_broke_9 : decode cX3_broke 9 = .ok (.ireturn, 1) := by decide +kernel
theorem dX3_broke_10 : decode cX3_broke 10 = .ok (.aload_n 0, 1) := by decide +kernel
theorem dX3_broke_11 : decode cX3_broke 11 = .ok (.getfield 68, 3) := by decide +kernel
theorem dX3_broke_14 : decode cX3_broke 14 = .ok (.iload_n 1, 1) := by decide +kernel
theorem dX3_broke_15 : decode cX3_broke 15 = .ok (.invokestatic 49, 3) := by decide +kernel
theorem dX3_broke_18 : decode cX3_broke 18 = .ok (.iload_n 2, 1) := by decide +kernel
theorem dX3_broke_19 : decode cX3_broke 19 = .ok (.if_icmp .ne 5, 3) := by decide +kernel
theorem dX3_broke_22 : decode cX3_broke 22 = .ok (.iconst 0, 1) := by decide +kernel
theorem dX3_broke_23 : decode cX3_broke 23 = .ok (.ireturn, 1) := by decide +kernel
theorem dX3_broke_24 : decode cX3_broke 24 = .ok (.aload_n 0, 1) := by decide +kernel
theorem dX3_broke_25 : decode cX3_broke 25 = .ok (.dup, 1) := by decide +kernel
theorem dX3_broke_26 : decode cX3_broke 26 = .ok (.getfield 68, 3) := by decide +kernel
theorem dX3_broke_29 : decode cX3_broke 29 = .ok (.iload_n 1, 1) := by decide +kernel
theorem dX3_broke_30 : decode cX3_broke 30 = .ok (.invokestatic 53, 3) := by decide +kernel
theorem dX3_broke_33 : decode cX3_broke 33 = .ok (.ixor, 1) := by decide +kernel
theorem dX3_broke_34 : decode cX3_broke 34 = .ok (.putfield 68, 3) := by decide +kernel
theorem dX3_broke_37 : decode cX3_broke 37 = .ok (.iconst 1, 1) := by decide +kernel
theorem dX3_broke_38 : decode cX3_broke 38 = .ok (.ireturn, 1) := by decide +kernel
theorem dX3_pair_0 : decode cX3_pair 0 = .ok (.aload_n 0, 1) := by decide +kernel
theorem dX3_pair_1 : decode cX3_pair 1 = .ok (.iload_n 1, 1) := by decide +kernel
theorem dX3_pair_2 : decode cX3_pair 2 = .ok (.invokevirtual 57, 3) := by decide +kernel
theorem dX3_pair_5 : decode cX3_pair 5 = .ok (.ifCond .eq 16, 3) := by decide +kernel
theorem dX3_pair_8 : decode cX3_pair 8 = .ok (.aload_n 0, 1) := by decide +kernel
theorem dX3_pair_9 : decode cX3_pair 9 = .ok (.iload_n 2, 1) := by decide +kernel
theorem dX3_pair_10 : decode cX3_pair 10 = .ok (.invokevirtual 57, 3) := by decide +kernel
theorem dX3_pair_13 : decode cX3_pair 13 = .ok (.ifCond .eq 8, 3) := by decide +kernel
theorem dX3_pair_16 : decode cX3_pair 16 = .ok (.iload_n 1, 1) := by decide +kernel
theorem dX3_pair_17 : decode cX3_pair 17 = .ok (.iload_n 2, 1) := by decide +kernel
theorem dX3_pair_18 : decode cX3_pair 18 = .ok (.if_icmp .ne 5, 3) := by decide +kernel
theorem dX3_pair_21 : decode cX3_pair 21 = .ok (.iconst (-1), 1) := by decide +kernel
theorem dX3_pair_22 : decode cX3_pair 22 = .ok (.ireturn, 1) := by decide +kernel
theorem dX3_pair_23 : decode cX3_pair 23 = .ok (.aload_n 0, 1) := by decide +kernel
theorem dX3_pair_24 : decode cX3_pair 24 = .ok (.iload_n 1, 1) := by decide +kernel
theorem dX3_pair_25 : decode cX3_pair 25 = .ok (.invokevirtual 76, 3) := by decide +kernel
theorem dX3_pair_28 : decode cX3_pair 28 = .ok (.ifCond .ne 33, 3) := by decide +kernel
theorem dX3_pair_31 : decode cX3_pair 31 = .ok (.aload_n 0, 1) := by decide +kernel
theorem dX3_pair_32 : decode cX3_pair 32 = .ok (.iload_n 2, 1) := by decide +kernel
theorem dX3_pair_33 : decode cX3_pair 33 = .ok (.invokevirtual 76, 3) := by decide +kernel
theorem dX3_pair_36 : decode cX3_pair 36 = .ok (.ifCond .ne 25, 3) := by decide +kernel
theorem dX3_pair_39 : decode cX3_pair 39 = .ok (.aload_n 0, 1) := by decide +kernel
theorem dX3_pair_40 : decode cX3_pair 40 = .ok (.getfield 79, 3) := by decide +kernel
theorem dX3_pair_43 : decode cX3_pair 43 = .ok (.iload_n 1, 1) := by decide +kernel
theorem dX3_pair_44 : decode cX3_pair 44 = .ok (.invokestatic 49, 3) := by decide +kernel
theorem dX3_pair_47 : decode cX3_pair 47 = .ok (.ifCond .ne 14, 3) := by decide +kernel
theorem dX3_pair_50 : decode cX3_pair 50 = .ok (.aload_n 0, 1) := by decide +kernel
theorem dX3_pair_51 : decode cX3_pair 51 = .ok (.getfield 79, 3) := by decide +kernel
theorem dX3_pair_54 : decode cX3_pair 54 = .ok (.iload_n 2, 1) := by decide +kernel
theorem dX3_pair_55 : decode cX3_pair 55 = .ok (.invokestatic 49, 3) := by decide +kernel
theorem dX3_pair_58 : decode cX3_pair 58 = .ok (.ifCond .eq 6, 3) := by decide +kernel
theorem dX3_pair_61 : decode cX3_pair 61 = .ok (.bipush (-3), 2) := by decide +kernel
theorem dX3_pair_63 : decode cX3_pair 63 = .ok (.ireturn, 1) := by decide +kernel
theorem dX3_pair_64 : decode cX3_pair 64 = .ok (.aload_n 0, 1) := by decide +kernel
theorem dX3_pair_65 : decode cX3_pair 65 = .ok (.getfield 18, 3) := by decide +kernel
theorem dX3_pair_68 : decode cX3_pair 68 = .ok (.iload_n 1, 1) := by decide +kernel
theorem dX3_pair_69 : decode cX3_pair 69 = .ok (.iload_n 1, 1) := by decide +kernel
theorem dX3_pair_70 : decode cX3_pair 70 = .ok (.invokestatic 53, 3) := by decide +kernel
theorem dX3_pair_73 : decode cX3_pair 73 = .ok (.iload_n 2, 1) := by decide +kernel
theorem dX3_pair_74 : decode cX3_pair 74 = .ok (.invokestatic 53, 3) := by decide +kernel
theorem dX3_pair_77 : decode cX3_pair 77 = .ok (.ior, 1) := by decide +kernel
theorem dX3_pair_78 : decode cX3_pair 78 = .ok (.iastore, 1) := by decide +kernel
theorem dX3_pair_79 : decode cX3_pair 79 = .ok (.aload_n 0, 1) := by decide +kernel
theorem dX3_pair_80 : decode cX3_pair 80 = .ok (.getfield 18, 3) := by decide +kernel
theorem dX3_pair_83 : decode cX3_pair 83 = .ok (.iload_n 2, 1) := by decide +kernel
theorem dX3_pair_84 : decode cX3_pair 84 = .ok (.iload_n 1, 1) := by decide +kernel
theorem dX3_pair_85 : decode cX3_pair 85 = .ok (.invokestatic 53, 3) := by decide +kernel
theorem dX3_pair_88 : decode cX3_pair 88 = .ok (.iload_n 2, 1) := by decide +kernel
theorem dX3_pair_89 : decode cX3_pair 89 = .ok (.invokestatic 53, 3) := by decide +kernel
theorem dX3_pair_92 : decode cX3_pair 92 = .ok (.ior, 1) := by decide +kernel
theorem dX3_pair_93 : decode cX3_pair 93 = .ok (.iastore, 1) := by decide +kernel
theorem dX3_pair_94 : decode cX3_pair 94 = .ok (.iconst 1, 1) := by decide +kernel
theorem dX3_pair_95 : decode cX3_pair 95 = .ok (.ireturn, 1) := by decide +kernel
theorem dX3_part_0 : decode cX3_part 0 = .ok (.aload_n 0, 1) := by decide +kernel
theorem dX3_part_1 : decode cX3_part 1 = .ok (.iload_n 1, 1) := by decide +kernel
theorem dX3_part_2 : decode cX3_part 2 = .ok (.invokevirtual 57, 3) := by decide +kernel
theorem dX3_part_5 : decode cX3_part 5 = .ok (.ifCond .ne 5, 3) := by decide +kernel
theorem dX3_part_8 : decode cX3_part 8 = .ok (.iconst (-1), 1) := by decide +kernel
theorem dX3_part_9 : decode cX3_part 9 = .ok (.ireturn, 1) := by decide +kernel
theorem dX3_part_10 : decode cX3_part 10 = .ok (.aload_n 0, 1) := by decide +kernel
theorem dX3_part_11 : decode cX3_part 11 = .ok (.iload_n 1, 1) := by decide +kernel
theorem dX3_part_12 : decode cX3_part 12 = .ok (.invokevirtual 76, 3) := by decide +kernel
theorem dX3_part_15 : decode cX3_part 15 = .ok (.ifCond .eq 14, 3) := by decide +kernel
theorem dX3_part_18 : decode cX3_part 18 = .ok (.aload_n 0, 1) := by decide +kernel
theorem dX3_part_19 : decode cX3_part 19 = .ok (.getfield 79, 3) := by decide +kernel
theorem dX3_part_22 : decode cX3_part 22 = .ok (.iload_n 1, 1) := by decide +kernel
theorem dX3_part_23 : decode cX3_part 23 = .ok (.invokestatic 49, 3) := by decide +kernel
theorem dX3_part_26 : decode cX3_part 26 = .ok (.ifCond .eq 6, 3) := by decide +kernel
theorem dX3_part_29 : decode cX3_part 29 = .ok (.bipush (-3), 2) := by decide +kernel
theorem dX3_part_31 : decode cX3_part 31 = .ok (.ireturn, 1) := by decide +kernel
theorem dX3_part_32 : decode cX3_part 32 = .ok (.aload_n 0, 1) := by decide +kernel
theorem dX3_part_33 : decode cX3_part 33 = .ok (.iload_n 1, 1) := by decide +kernel
theorem dX3_part_34 : decode cX3_part 34 = .ok (.invokevirtual 65, 3) := by decide +kernel
theorem dX3_part_37 : decode cX3_part 37 = .ok (.iconst 1, 1) := by decide +kernel
theorem dX3_part_38 : decode cX3_part 38 = .ok (.ireturn, 1) := by decide +kernel
theorem dX3_settle_0 : decode cX3_settle 0 = .ok (.aload_n 0, 1) := by decide +kernel
theorem dX3_settle_1 : decode cX3_settle 1 = .ok (.iload_n 1, 1) := by decide +kernel
theorem dX3_settle_2 : decode cX3_settle 2 = .ok (.invokevirtual 57, 3) := by decide +kernel
theorem dX3_settle_5 : decode cX3_settle 5 = .ok (.ifCond .ne 5, 3) := by decide +kernel
theorem dX3_settle_8 : decode cX3_settle 8 = .ok (.iconst (-1), 1) := by decide +kernel
theorem dX3_settle_9 : decode cX3_settle 9 = .ok (.ireturn, 1) := by decide +kernel
theorem dX3_settle_10 : decode cX3_settle 10 = .ok (.iload_n 2, 1) := by decide +kernel
theorem dX3_settle_11 : decode cX3_settle 11 = .ok (.iconst 0, 1) := by decide +kernel
theorem dX3_settle_12 : decode cX3_settle 12 = .ok (.ldc 34, 2) := by decide +kernel
theorem dX3_settle_14 : decode cX3_settle 14 = .ok (.invokestatic 35, 3) := by decide +kernel
theorem dX3_settle_17 : decode cX3_settle 17 = .ok (.ifCond .eq 6, 3) := by decide +kernel
theorem dX3_settle_20 : decode cX3_settle 20 = .ok (.bipush (-2), 2) := by decide +kernel
theorem dX3_settle_22 : decode cX3_settle 22 = .ok (.ireturn, 1) := by decide +kernel
theorem dX3_settle_23 : decode cX3_settle 23 = .ok (.aload_n 0, 1) := by decide +kernel
theorem dX3_settle_24 : decode cX3_settle 24 = .ok (.getfield 79, 3) := by decide +kernel
theorem dX3_settle_27 : decode cX3_settle 27 = .ok (.iload_n 1, 1) := by decide +kernel
theorem dX3_settle_28 : decode cX3_settle 28 = .ok (.invokestatic 49, 3) := by decide +kernel
theorem dX3_settle_31 : decode cX3_settle 31 = .ok (.ifCond .ne 19, 3) := by decide +kernel
theorem dX3_settle_34 : decode cX3_settle 34 = .ok (.aload_n 0, 1) := by decide +kernel
theorem dX3_settle_35 : decode cX3_settle 35 = .ok (.getfield 18, 3) := by decide +kernel
theorem dX3_settle_38 : decode cX3_settle 38 = .ok (.iload_n 1, 1) := by decide +kernel
theorem dX3_settle_39 : decode cX3_settle 39 = .ok (.iaload, 1) := by decide +kernel
theorem dX3_settle_40 : decode cX3_settle 40 = .ok (.aload_n 0, 1) := by decide +kernel
theorem dX3_settle_41 : decode cX3_settle 41 = .ok (.getfield 24, 3) := by decide +kernel
theorem dX3_settle_44 : decode cX3_settle 44 = .ok (.invokestatic 82, 3) := by decide +kernel
theorem dX3_settle_47 : decode cX3_settle 47 = .ok (.ifCond .le 6, 3) := by decide +kernel
theorem dX3_settle_50 : decode cX3_settle 50 = .ok (.bipush (-3), 2) := by decide +kernel
theorem dX3_settle_52 : decode cX3_settle 52 = .ok (.ireturn, 1) := by decide +kernel
theorem dX3_settle_53 : decode cX3_settle 53 = .ok (.aload_n 0, 1) := by decide +kernel
theorem dX3_settle_54 : decode cX3_settle 54 = .ok (.dup, 1) := by decide +kernel
theorem dX3_settle_55 : decode cX3_settle 55 = .ok (.getfield 79, 3) := by decide +kernel
theorem dX3_settle_58 : decode cX3_settle 58 = .ok (.aload_n 0, 1) := by decide +kernel
theorem dX3_settle_59 : decode cX3_settle 59 = .ok (.getfield 18, 3) := by decide +kernel
theorem dX3_settle_62 : decode cX3_settle 62 = .ok (.iload_n 1, 1) := by decide +kernel
theorem dX3_settle_63 : decode cX3_settle 63 = .ok (.iaload, 1) := by decide +kernel
theorem dX3_settle_64 : decode cX3_settle 64 = .ok (.ior, 1) := by decide +kernel
theorem dX3_settle_65 : decode cX3_settle 65 = .ok (.putfield 79, 3) := by decide +kernel
theorem dX3_settle_68 : decode cX3_settle 68 = .ok (.aload_n 0, 1) := by decide +kernel
theorem dX3_settle_69 : decode cX3_settle 69 = .ok (.iload_n 1, 1) := by decide +kernel
theorem dX3_settle_70 : decode cX3_settle 70 = .ok (.iload_n 2, 1) := by decide +kernel
theorem dX3_settle_71 : decode cX3_settle 71 = .ok (.invokevirtual 86, 3) := by decide +kernel
theorem dX3_settle_74 : decode cX3_settle 74 = .ok (.iconst 1, 1) := by decide +kernel
theorem dX3_settle_75 : decode cX3_settle 75 = .ok (.ireturn, 1) := by decide +kernel
theorem dX3_reopen_0 : decode cX3_reopen 0 = .ok (.aload_n 0, 1) := by decide +kernel
theorem dX3_reopen_1 : decode cX3_reopen 1 = .ok (.iload_n 1, 1) := by decide +kernel
theorem dX3_reopen_2 : decode cX3_reopen 2 = .ok (.invokevirtual 57, 3) := by decide +kernel
theorem dX3_reopen_5 : decode cX3_reopen 5 = .ok (.ifCond .ne 5, 3) := by decide +kernel
theorem dX3_reopen_8 : decode cX3_reopen 8 = .ok (.iconst (-1), 1) := by decide +kernel
theorem dX3_reopen_9 : decode cX3_reopen 9 = .ok (.ireturn, 1) := by decide +kernel
theorem dX3_reopen_10 : decode cX3_reopen 10 = .ok (.aload_n 0, 1) := by decide +kernel
theorem dX3_reopen_11 : decode cX3_reopen 11 = .ok (.getfield 79, 3) := by decide +kernel
theorem dX3_reopen_14 : decode cX3_reopen 14 = .ok (.iload_n 1, 1) := by decide +kernel
theorem dX3_reopen_15 : decode cX3_reopen 15 = .ok (.invokestatic 49, 3) := by decide +kernel
theorem dX3_reopen_18 : decode cX3_reopen 18 = .ok (.ifCond .ne 6, 3) := by decide +kernel
theorem dX3_reopen_21 : decode cX3_reopen 21 = .ok (.bipush (-3), 2) := by decide +kernel
theorem dX3_reopen_23 : decode cX3_reopen 23 = .ok (.ireturn, 1) := by decide +kernel
theorem dX3_reopen_24 : decode cX3_reopen 24 = .ok (.aload_n 0, 1) := by decide +kernel
theorem dX3_reopen_25 : decode cX3_reopen 25 = .ok (.getfield 21, 3) := by decide +kernel
theorem dX3_reopen_28 : decode cX3_reopen 28 = .ok (.iload_n 1, 1) := by decide +kernel
theorem dX3_reopen_29 : decode cX3_reopen 29 = .ok (.iaload, 1) := by decide +kernel
theorem dX3_reopen_30 : decode cX3_reopen 30 = .ok (.istore_n 2, 1) := by decide +kernel
theorem dX3_reopen_31 : decode cX3_reopen 31 = .ok (.aload_n 0, 1) := by decide +kernel
theorem dX3_reopen_32 : decode cX3_reopen 32 = .ok (.iload_n 1, 1) := by decide +kernel
theorem dX3_reopen_33 : decode cX3_reopen 33 = .ok (.invokevirtual 61, 3) := by decide +kernel
theorem dX3_reopen_36 : decode cX3_reopen 36 = .ok (.iload_n 2, 1) := by decide +kernel
theorem dX3_reopen_37 : decode cX3_reopen 37 = .ok (.ireturn, 1) := by decide +kernel
theorem dX3_setting_0 : decode cX3_setting 0 = .ok (.iload_n 1, 1) := by decide +kernel
theorem dX3_setting_1 : decode cX3_setting 1 = .ok (.iconst 0, 1) := by decide +kernel
theorem dX3_setting_2 : decode cX3_setting 2 = .ok (.getstatic 90, 3) := by decide +kernel
theorem dX3_setting_5 : decode cX3_setting 5 = .ok (.arraylength, 1) := by decide +kernel
theorem dX3_setting_6 : decode cX3_setting 6 = .ok (.iconst 1, 1) := by decide +kernel
theorem dX3_setting_7 : decode cX3_setting 7 = .ok (.isub, 1) := by decide +kernel
theorem dX3_setting_8 : decode cX3_setting 8 = .ok (.invokestatic 35, 3) := by decide +kernel
theorem dX3_setting_11 : decode cX3_setting 11 = .ok (.ifCond .ne 16, 3) := by decide +kernel
theorem dX3_setting_14 : decode cX3_setting 14 = .ok (.iload_n 2, 1) := by decide +kernel
theorem dX3_setting_15 : decode cX3_setting 15 = .ok (.iconst 0, 1) := by decide +kernel
theorem dX3_setting_16 : decode cX3_setting 16 = .ok (.getstatic 90, 3) := by decide +kernel
theorem dX3_setting_19 : decode cX3_setting 19 = .ok (.iload_n 1, 1) := by decide +kernel
theorem dX3_setting_20 : decode cX3_setting 20 = .ok (.iaload, 1) := by decide +kernel
theorem dX3_setting_21 : decode cX3_setting 21 = .ok (.invokestatic 35, 3) := by decide +kernel
theorem dX3_setting_24 : decode cX3_setting 24 = .ok (.ifCond .eq 6, 3) := by decide +kernel
theorem dX3_setting_27 : decode cX3_setting 27 = .ok (.bipush (-2), 2) := by decide +kernel
theorem dX3_setting_29 : decode cX3_setting 29 = .ok (.ireturn, 1) := by decide +kernel
theorem dX3_setting_30 : decode cX3_setting 30 = .ok (.aload_n 0, 1) := by decide +kernel
theorem dX3_setting_31 : decode cX3_setting 31 = .ok (.getfield 9, 3) := by decide +kernel
theorem dX3_setting_34 : decode cX3_setting 34 = .ok (.iload_n 1, 1) := by decide +kernel
theorem dX3_setting_35 : decode cX3_setting 35 = .ok (.iaload, 1) := by decide +kernel
theorem dX3_setting_36 : decode cX3_setting 36 = .ok (.istore_n 3, 1) := by decide +kernel
theorem dX3_setting_37 : decode cX3_setting 37 = .ok (.aload_n 0, 1) := by decide +kernel
theorem dX3_setting_38 : decode cX3_setting 38 = .ok (.getfield 9, 3) := by decide +kernel
theorem dX3_setting_41 : decode cX3_setting 41 = .ok (.iload_n 1, 1) := by decide +kernel
theorem dX3_setting_42 : decode cX3_setting 42 = .ok (.iload_n 2, 1) := by decide +kernel
theorem dX3_setting_43 : decode cX3_setting 43 = .ok (.iastore, 1) := by decide +kernel
theorem dX3_setting_44 : decode cX3_setting 44 = .ok (.iload_n 3, 1) := by decide +kernel
theorem dX3_setting_45 : decode cX3_setting 45 = .ok (.ireturn, 1) := by decide +kernel
theorem dX3_ofWrong_0 : decode cX3_ofWrong 0 = .ok (.aload_n 0, 1) := by decide +kernel
theorem dX3_ofWrong_1 : decode cX3_ofWrong 1 = .ok (.iload_n 1, 1) := by decide +kernel
theorem dX3_ofWrong_2 : decode cX3_ofWrong 2 = .ok (.invokevirtual 57, 3) := by decide +kernel
theorem dX3_ofWrong_5 : decode cX3_ofWrong 5 = .ok (.ifCond .ne 5, 3) := by decide +kernel
theorem dX3_ofWrong_8 : decode cX3_ofWrong 8 = .ok (.iconst (-1), 1) := by decide +kernel
theorem dX3_ofWrong_9 : decode cX3_ofWrong 9 = .ok (.ireturn, 1) := by decide +kernel
theorem dX3_ofWrong_10 : decode cX3_ofWrong 10 = .ok (.iload_n 2, 1) := by decide +kernel
theorem dX3_ofWrong_11 : decode cX3_ofWrong 11 = .ok (.tableswitch 125 0 5 #[37, 44, 61, 78, 95, 118], 37) := by decide +kernel
theorem dX3_ofWrong_48 : decode cX3_ofWrong 48 = .ok (.aload_n 0, 1) := by decide +kernel
theorem dX3_ofWrong_49 : decode cX3_ofWrong 49 = .ok (.getfield 15, 3) := by decide +kernel
theorem dX3_ofWrong_52 : decode cX3_ofWrong 52 = .ok (.iload_n 1, 1) := by decide +kernel
theorem dX3_ofWrong_53 : decode cX3_ofWrong 53 = .ok (.iaload, 1) := by decide +kernel
theorem dX3_ofWrong_54 : decode cX3_ofWrong 54 = .ok (.ireturn, 1) := by decide +kernel
theorem dX3_ofWrong_55 : decode cX3_ofWrong 55 = .ok (.aload_n 0, 1) := by decide +kernel
theorem dX3_ofWrong_56 : decode cX3_ofWrong 56 = .ok (.getfield 68, 3) := by decide +kernel
theorem dX3_ofWrong_59 : decode cX3_ofWrong 59 = .ok (.iload_n 1, 1) := by decide +kernel
theorem dX3_ofWrong_60 : decode cX3_ofWrong 60 = .ok (.invokestatic 49, 3) := by decide +kernel
theorem dX3_ofWrong_63 : decode cX3_ofWrong 63 = .ok (.ifCond .eq 7, 3) := by decide +kernel
theorem dX3_ofWrong_66 : decode cX3_ofWrong 66 = .ok (.iconst 1, 1) := by decide +kernel
theorem dX3_ofWrong_67 : decode cX3_ofWrong 67 = .ok (.goto 4, 3) := by decide +kernel
theorem dX3_ofWrong_70 : decode cX3_ofWrong 70 = .ok (.iconst 0, 1) := by decide +kernel
theorem dX3_ofWrong_71 : decode cX3_ofWrong 71 = .ok (.ireturn, 1) := by decide +kernel
theorem dX3_ofWrong_72 : decode cX3_ofWrong 72 = .ok (.aload_n 0, 1) := by decide +kernel
theorem dX3_ofWrong_73 : decode cX3_ofWrong 73 = .ok (.getfield 18, 3) := by decide +kernel
theorem dX3_ofWrong_76 : decode cX3_ofWrong 76 = .ok (.iload_n 1, 1) := by decide +kernel
theorem dX3_ofWrong_77 : decode cX3_ofWrong 77 = .ok (.iaload, 1) := by decide +kernel
theorem dX3_ofWrong_78 : decode cX3_ofWrong 78 = .ok (.iload_n 1, 1) := by decide +kernel
theorem dX3_ofWrong_79 : decode cX3_ofWrong 79 = .ok (.invokestatic 53, 3) := by decide +kernel
theorem dX3_ofWrong_82 : decode cX3_ofWrong 82 = .ok (.iconst (-1), 1) := by decide +kernel
theorem dX3_ofWrong_83 : decode cX3_ofWrong 83 = .ok (.ixor, 1) := by decide +kernel
theorem dX3_ofWrong_84 : decode cX3_ofWrong 84 = .ok (.iand, 1) := by decide +kernel
theorem dX3_ofWrong_85 : decode cX3_ofWrong 85 = .ok (.invokestatic 93, 3) := by decide +kernel
theorem dX3_ofWrong_88 : decode cX3_ofWrong 88 = .ok (.ireturn, 1) := by decide +kernel
theorem dX3_ofWrong_89 : decode cX3_ofWrong 89 = .ok (.aload_n 0, 1) := by decide +kernel
theorem dX3_ofWrong_90 : decode cX3_ofWrong 90 = .ok (.getfield 79, 3) := by decide +kernel
theorem dX3_ofWrong_93 : decode cX3_ofWrong 93 = .ok (.iload_n 1, 1) := by decide +kernel
theorem dX3_ofWrong_94 : decode cX3_ofWrong 94 = .ok (.invokestatic 49, 3) := by decide +kernel
theorem dX3_ofWrong_97 : decode cX3_ofWrong 97 = .ok (.ifCond .eq 7, 3) := by decide +kernel
theorem dX3_ofWrong_100 : decode cX3_ofWrong 100 = .ok (.iconst 1, 1) := by decide +kernel
theorem dX3_ofWrong_101 : decode cX3_ofWrong 101 = .ok (.goto 4, 3) := by decide +kernel
theorem dX3_ofWrong_104 : decode cX3_ofWrong 104 = .ok (.iconst 0, 1) := by decide +kernel
theorem dX3_ofWrong_105 : decode cX3_ofWrong 105 = .ok (.ireturn, 1) := by decide +kernel
theorem dX3_ofWrong_106 : decode cX3_ofWrong 106 = .ok (.aload_n 0, 1) := by decide +kernel
theorem dX3_ofWrong_107 : decode cX3_ofWrong 107 = .ok (.getfield 79, 3) := by decide +kernel
theorem dX3_ofWrong_110 : decode cX3_ofWrong 110 = .ok (.iload_n 1, 1) := by decide +kernel
theorem dX3_ofWrong_111 : decode cX3_ofWrong 111 = .ok (.invokestatic 49, 3) := by decide +kernel
theorem dX3_ofWrong_114 : decode cX3_ofWrong 114 = .ok (.ifCond .eq 12, 3) := by decide +kernel
theorem dX3_ofWrong_117 : decode cX3_ofWrong 117 = .ok (.aload_n 0, 1) := by decide +kernel
theorem dX3_ofWrong_118 : decode cX3_ofWrong 118 = .ok (.getfield 21, 3) := by decide +kernel
theorem dX3_ofWrong_121 : decode cX3_ofWrong 121 = .ok (.iload_n 1, 1) := by decide +kernel
theorem dX3_ofWrong_122 : decode cX3_ofWrong 122 = .ok (.iaload, 1) := by decide +kernel
theorem dX3_ofWrong_123 : decode cX3_ofWrong 123 = .ok (.goto 5, 3) := by decide +kernel
theorem dX3_ofWrong_126 : decode cX3_ofWrong 126 = .ok (.bipush (-9), 2) := by decide +kernel
theorem dX3_ofWrong_128 : decode cX3_ofWrong 128 = .ok (.ireturn, 1) := by decide +kernel
theorem dX3_ofWrong_129 : decode cX3_ofWrong 129 = .ok (.aload_n 0, 1) := by decide +kernel
theorem dX3_ofWrong_130 : decode cX3_ofWrong 130 = .ok (.getfield 24, 3) := by decide +kernel
theorem dX3_ofWrong_133 : decode cX3_ofWrong 133 = .ok (.iload_n 1, 1) := by decide +kernel
theorem dX3_ofWrong_134 : decode cX3_ofWrong 134 = .ok (.iaload, 1) := by decide +kernel
theorem dX3_ofWrong_135 : decode cX3_ofWrong 135 = .ok (.ireturn, 1) := by decide +kernel
theorem dX3_ofWrong_136 : decode cX3_ofWrong 136 = .ok (.bipush (-2), 2) := by decide +kernel
theorem dX3_ofWrong_138 : decode cX3_ofWrong 138 = .ok (.ireturn, 1) := by decide +kernel
theorem dX3_amount_0 : decode cX3_amount 0 = .ok (.iload_n 2, 1) := by decide +kernel
theorem dX3_amount_1 : decode cX3_amount 1 = .ok (.iconst 0, 1) := by decide +kernel
theorem dX3_amount_2 : decode cX3_amount 2 = .ok (.iconst 1, 1) := by decide +kernel
theorem dX3_amount_3 : decode cX3_amount 3 = .ok (.invokestatic 35, 3) := by decide +kernel
theorem dX3_amount_6 : decode cX3_amount 6 = .ok (.ifCond .eq 7, 3) := by decide +kernel
theorem dX3_amount_9 : decode cX3_amount 9 = .ok (.ldc2_w 96, 3) := by decide +kernel
theorem dX3_amount_12 : decode cX3_amount 12 = .ok (.lreturn, 1) := by decide +kernel
theorem dX3_amount_13 : decode cX3_amount 13 = .ok (.iload_n 1, 1) := by decide +kernel
theorem dX3_amount_14 : decode cX3_amount 14 = .ok (.tableswitch 94 0 4 #[34, 46, 58, 70, 82], 34) := by decide +kernel
theorem dX3_amount_48 : decode cX3_amount 48 = .ok (.aload_n 0, 1) := by decide +kernel
theorem dX3_amount_49 : decode cX3_amount 49 = .ok (.invokevirtual 98, 3) := by decide +kernel
theorem dX3_amount_52 : decode cX3_amount 52 = .ok (.getfield 102, 3) := by decide +kernel
theorem dX3_amount_55 : decode cX3_amount 55 = .ok (.iload_n 2, 1) := by decide +kernel
theorem dX3_amount_56 : decode cX3_amount 56 = .ok (.invokevirtual 108, 3) := by decide +kernel
theorem dX3_amount_59 : decode cX3_amount 59 = .ok (.lreturn, 1) := by decide +kernel
theorem dX3_amount_60 : decode cX3_amount 60 = .ok (.aload_n 0, 1) := by decide +kernel
theorem dX3_amount_61 : decode cX3_amount 61 = .ok (.invokevirtual 98, 3) := by decide +kernel
theorem dX3_amount_64 : decode cX3_amount 64 = .ok (.getfield 114, 3) := by decide +kernel
theorem dX3_amount_67 : decode cX3_amount 67 = .ok (.iload_n 2, 1) := by decide +kernel
theorem dX3_amount_68 : decode cX3_amount 68 = .ok (.invokevirtual 108, 3) := by decide +kernel
theorem dX3_amount_71 : decode cX3_amount 71 = .ok (.lreturn, 1) := by decide +kernel
theorem dX3_amount_72 : decode cX3_amount 72 = .ok (.aload_n 0, 1) := by decide +kernel
theorem dX3_amount_73 : decode cX3_amount 73 = .ok (.invokevirtual 98, 3) := by decide +kernel
theorem dX3_amount_76 : decode cX3_amount 76 = .ok (.getfield 117, 3) := by decide +kernel
theorem dX3_amount_79 : decode cX3_amount 79 = .ok (.iload_n 2, 1) := by decide +kernel
theorem dX3_amount_80 : decode cX3_amount 80 = .ok (.invokevirtual 108, 3) := by decide +kernel
theorem dX3_amount_83 : decode cX3_amount 83 = .ok (.lreturn, 1) := by decide +kernel
theorem dX3_amount_84 : decode cX3_amount 84 = .ok (.aload_n 0, 1) := by decide +kernel
theorem dX3_amount_85 : decode cX3_amount 85 = .ok (.invokevirtual 98, 3) := by decide +kernel
theorem dX3_amount_88 : decode cX3_amount 88 = .ok (.getfield 120, 3) := by decide +kernel
theorem dX3_amount_91 : decode cX3_amount 91 = .ok (.iload_n 2, 1) := by decide +kernel
theorem dX3_amount_92 : decode cX3_amount 92 = .ok (.invokevirtual 108, 3) := by decide +kernel
theorem dX3_amount_95 : decode cX3_amount 95 = .ok (.lreturn, 1) := by decide +kernel
theorem dX3_amount_96 : decode cX3_amount 96 = .ok (.aload_n 0, 1) := by decide +kernel
theorem dX3_amount_97 : decode cX3_amount 97 = .ok (.invokevirtual 98, 3) := by decide +kernel
theorem dX3_amount_100 : decode cX3_amount 100 = .ok (.getfield 123, 3) := by decide +kernel
theorem dX3_amount_103 : decode cX3_amount 103 = .ok (.iload_n 2, 1) := by decide +kernel
theorem dX3_amount_104 : decode cX3_amount 104 = .ok (.invokevirtual 108, 3) := by decide +kernel
theorem dX3_amount_107 : decode cX3_amount 107 = .ok (.lreturn, 1) := by decide +kernel
theorem dX3_amount_108 : decode cX3_amount 108 = .ok (.ldc2_w 96, 3) := by decide +kernel
theorem dX3_amount_111 : decode cX3_amount 111 = .ok (.lreturn, 1) := by decide +kernel
theorem dX3_credit_0 : decode cX3_credit 0 = .ok (.aload_n 0, 1) := by decide +kernel
theorem dX3_credit_1 : decode cX3_credit 1 = .ok (.iload_n 1, 1) := by decide +kernel
theorem dX3_credit_2 : decode cX3_credit 2 = .ok (.invokevirtual 57, 3) := by decide +kernel
theorem dX3_credit_5 : decode cX3_credit 5 = .ok (.ifCond .eq 12, 3) := by decide +kernel
theorem dX3_credit_8 : decode cX3_credit 8 = .ok (.iload_n 2, 1) := by decide +kernel
theorem dX3_credit_9 : decode cX3_credit 9 = .ok (.iconst 0, 1) := by decide +kernel
theorem dX3_credit_10 : decode cX3_credit 10 = .ok (.iconst 1, 1) := by decide +kernel
theorem dX3_credit_11 : decode cX3_credit 11 = .ok (.invokestatic 35, 3) := by decide +kernel
theorem dX3_credit_14 : decode cX3_credit 14 = .ok (.ifCond .eq 7, 3) := by decide +kernel
theorem dX3_credit_17 : decode cX3_credit 17 = .ok (.ldc2_w 96, 3) := by decide +kernel
theorem dX3_credit_20 : decode cX3_credit 20 = .ok (.lreturn, 1) := by decide +kernel
theorem dX3_credit_21 : decode cX3_credit 21 = .ok (.aload_n 0, 1) := by decide +kernel
theorem dX3_credit_22 : decode cX3_credit 22 = .ok (.invokevirtual 126, 3) := by decide +kernel
theorem dX3_credit_25 : decode cX3_credit 25 = .ok (.istore_n 3, 1) := by decide +kernel
theorem dX3_credit_26 : decode cX3_credit 26 = .ok (.aload_n 0, 1) := by decide +kernel
theorem dX3_credit_27 : decode cX3_credit 27 = .ok (.getfield 79, 3) := by decide +kernel
theorem dX3_credit_30 : decode cX3_credit 30 = .ok (.iload_n 1, 1) := by decide +kernel
theorem dX3_credit_31 : decode cX3_credit 31 = .ok (.invokestatic 49, 3) := by decide +kernel
theorem dX3_credit_34 : decode cX3_credit 34 = .ok (.ifCond .eq 18, 3) := by decide +kernel
theorem dX3_credit_37 : decode cX3_credit 37 = .ok (.aload_n 0, 1) := by decide +kernel
theorem dX3_credit_38 : decode cX3_credit 38 = .ok (.iload_n 1, 1) := by decide +kernel
theorem dX3_credit_39 : decode cX3_credit 39 = .ok (.aload_n 0, 1) := by decide +kernel
theorem dX3_credit_40 : decode cX3_credit 40 = .ok (.getfield 9, 3) := by decide +kernel
theorem dX3_credit_43 : decode cX3_credit 43 = .ok (.iconst 0, 1) := by decide +kernel
theorem dX3_credit_44 : decode cX3_credit 44 = .ok (.iaload, 1) := by decide +kernel
theorem dX3_credit_45 : decode cX3_credit 45 = .ok (.iload_n 3, 1) := by decide +kernel
theorem dX3_credit_46 : decode cX3_credit 46 = .ok (.invokevirtual 130, 3) := by decide +kernel
theorem dX3_credit_49 : decode cX3_credit 49 = .ok (.goto 4, 3) := by decide +kernel
theorem dX3_credit_52 : decode cX3_credit 52 = .ok (.lconst 0, 1) := by decide +kernel
theorem dX3_credit_53 : decode cX3_credit 53 = .ok (.lstore 4, 2) := by decide +kernel
theorem dX3_credit_55 : decode cX3_credit 55 = .ok (.lload 4, 2) := by decide +kernel
theorem dX3_credit_57 : decode cX3_credit 57 = .ok (.iload_n 3, 1) := by decide +kernel
theorem dX3_credit_58 : decode cX3_credit 58 = .ok (.i2l, 1) := by decide +kernel
theorem dX3_credit_59 : decode cX3_credit 59 = .ok (.invokestatic 134, 3) := by decide +kernel
theorem dX3_credit_62 : decode cX3_credit 62 = .ok (.iload_n 2, 1) := by decide +kernel
theorem dX3_credit_63 : decode cX3_credit 63 = .ok (.invokevirtual 108, 3) := by decide +kernel
theorem dX3_credit_66 : decode cX3_credit 66 = .ok (.lreturn, 1) := by decide +kernel
theorem dX3_unitDue_0 : decode cX3_unitDue 0 = .ok (.aload_n 0, 1) := by decide +kernel
theorem dX3_unitDue_1 : decode cX3_unitDue 1 = .ok (.iload_n 1, 1) := by decide +kernel
theorem dX3_unitDue_2 : decode cX3_unitDue 2 = .ok (.invokevirtual 57, 3) := by decide +kernel
theorem dX3_unitDue_5 : decode cX3_unitDue 5 = .ok (.ifCond .eq 12, 3) := by decide +kernel
theorem dX3_unitDue_8 : decode cX3_unitDue 8 = .ok (.iload_n 2, 1) := by decide +kernel
theorem dX3_unitDue_9 : decode cX3_unitDue 9 = .ok (.iconst 0, 1) := by decide +kernel
theorem dX3_unitDue_10 : decode cX3_unitDue 10 = .ok (.iconst 1, 1) := by decide +kernel
theorem dX3_unitDue_11 : decode cX3_unitDue 11 = .ok (.invokestatic 35, 3) := by decide +kernel
theorem dX3_unitDue_14 : decode cX3_unitDue 14 = .ok (.ifCond .eq 7, 3) := by decide +kernel
theorem dX3_unitDue_17 : decode cX3_unitDue 17 = .ok (.ldc2_w 96, 3) := by decide +kernel
theorem dX3_unitDue_20 : decode cX3_unitDue 20 = .ok (.lreturn, 1) := by decide +kernel
theorem dX3_unitDue_21 : decode cX3_unitDue 21 = .ok (.aload_n 0, 1) := by decide +kernel
theorem dX3_unitDue_22 : decode cX3_unitDue 22 = .ok (.invokevirtual 98, 3) := by decide +kernel
theorem dX3_unitDue_25 : decode cX3_unitDue 25 = .ok (.getfield 138, 3) := by decide +kernel
theorem dX3_unitDue_28 : decode cX3_unitDue 28 = .ok (.aload_n 0, 1) := by decide +kernel
theorem dX3_unitDue_29 : decode cX3_unitDue 29 = .ok (.iload_n 1, 1) := by decide +kernel
theorem dX3_unitDue_30 : decode cX3_unitDue 30 = .ok (.aload_n 0, 1) := by decide +kernel
theorem dX3_unitDue_31 : decode cX3_unitDue 31 = .ok (.getfield 79, 3) := by decide +kernel
theorem dX3_unitDue_34 : decode cX3_unitDue 34 = .ok (.invokevirtual 141, 3) := by decide +kernel
theorem dX3_unitDue_37 : decode cX3_unitDue 37 = .ok (.i2l, 1) := by decide +kernel
theorem dX3_unitDue_38 : decode cX3_unitDue 38 = .ok (.invokevirtual 145, 3) := by decide +kernel
theorem dX3_unitDue_41 : decode cX3_unitDue 41 = .ok (.iload_n 2, 1) := by decide +kernel
theorem dX3_unitDue_42 : decode cX3_unitDue 42 = .ok (.invokevirtual 108, 3) := by decide +kernel
theorem dX3_unitDue_45 : decode cX3_unitDue 45 = .ok (.lreturn, 1) := by decide +kernel
theorem dX3_due_0 : decode cX3_due 0 = .ok (.aload_n 0, 1) := by decide +kernel
theorem dX3_due_1 : decode cX3_due 1 = .ok (.iload_n 1, 1) := by decide +kernel
theorem dX3_due_2 : decode cX3_due 2 = .ok (.invokevirtual 57, 3) := by decide +kernel
theorem dX3_due_5 : decode cX3_due 5 = .ok (.ifCond .eq 12, 3) := by decide +kernel
theorem dX3_due_8 : decode cX3_due 8 = .ok (.iload_n 2, 1) := by decide +kernel
theorem dX3_due_9 : decode cX3_due 9 = .ok (.iconst 0, 1) := by decide +kernel
theorem dX3_due_10 : decode cX3_due 10 = .ok (.iconst 1, 1) := by decide +kernel
theorem dX3_due_11 : decode cX3_due 11 = .ok (.invokestatic 35, 3) := by decide +kernel
theorem dX3_due_14 : decode cX3_due 14 = .ok (.ifCond .eq 7, 3) := by decide +kernel
theorem dX3_due_17 : decode cX3_due 17 = .ok (.ldc2_w 96, 3) := by decide +kernel
theorem dX3_due_20 : decode cX3_due 20 = .ok (.lreturn, 1) := by decide +kernel
theorem dX3_due_21 : decode cX3_due 21 = .ok (.aload_n 0, 1) := by decide +kernel
theorem dX3_due_22 : decode cX3_due 22 = .ok (.invokevirtual 98, 3) := by decide +kernel
theorem dX3_due_25 : decode cX3_due 25 = .ok (.getfield 138, 3) := by decide +kernel
theorem dX3_due_28 : decode cX3_due 28 = .ok (.aload_n 0, 1) := by decide +kernel
theorem dX3_due_29 : decode cX3_due 29 = .ok (.iload_n 1, 1) := by decide +kernel
theorem dX3_due_30 : decode cX3_due 30 = .ok (.invokevirtual 149, 3) := by decide +kernel
theorem dX3_due_33 : decode cX3_due 33 = .ok (.i2l, 1) := by decide +kernel
theorem dX3_due_34 : decode cX3_due 34 = .ok (.invokevirtual 145, 3) := by decide +kernel
theorem dX3_due_37 : decode cX3_due 37 = .ok (.iload_n 2, 1) := by decide +kernel
theorem dX3_due_38 : decode cX3_due 38 = .ok (.invokevirtual 108, 3) := by decide +kernel
theorem dX3_due_41 : decode cX3_due 41 = .ok (.lreturn, 1) := by decide +kernel
theorem dX3_gets_0 : decode cX3_gets 0 = .ok (.iload_n 1, 1) := by decide +kernel
theorem dX3_gets_1 : decode cX3_gets 1 = .ok (.iconst 0, 1) := by decide +kernel
theorem dX3_gets_2 : decode cX3_gets 2 = .ok (.getstatic 90, 3) := by decide +kernel
theorem dX3_gets_5 : decode cX3_gets 5 = .ok (.iconst 0, 1) := by decide +kernel
theorem dX3_gets_6 : decode cX3_gets 6 = .ok (.iaload, 1) := by decide +kernel
theorem dX3_gets_7 : decode cX3_gets 7 = .ok (.invokestatic 35, 3) := by decide +kernel
theorem dX3_gets_10 : decode cX3_gets 10 = .ok (.ifCond .ne 25, 3) := by decide +kernel
theorem dX3_gets_13 : decode cX3_gets 13 = .ok (.iload_n 2, 1) := by decide +kernel
theorem dX3_gets_14 : decode cX3_gets 14 = .ok (.iconst 0, 1) := by decide +kernel
theorem dX3_gets_15 : decode cX3_gets 15 = .ok (.getstatic 90, 3) := by decide +kernel
theorem dX3_gets_18 : decode cX3_gets 18 = .ok (.iconst 1, 1) := by decide +kernel
theorem dX3_gets_19 : decode cX3_gets 19 = .ok (.iaload, 1) := by decide +kernel
theorem dX3_gets_20 : decode cX3_gets 20 = .ok (.invokestatic 35, 3) := by decide +kernel
theorem dX3_gets_23 : decode cX3_gets 23 = .ok (.ifCond .ne 12, 3) := by decide +kernel
theorem dX3_gets_26 : decode cX3_gets 26 = .ok (.iload_n 3, 1) := by decide +kernel
theorem dX3_gets_27 : decode cX3_gets 27 = .ok (.iconst 0, 1) := by decide +kernel
theorem dX3_gets_28 : decode cX3_gets 28 = .ok (.iconst 1, 1) := by decide +kernel
theorem dX3_gets_29 : decode cX3_gets 29 = .ok (.invokestatic 35, 3) := by decide +kernel
theorem dX3_gets_32 : decode cX3_gets 32 = .ok (.ifCond .eq 7, 3) := by decide +kernel
theorem dX3_gets_35 : decode cX3_gets 35 = .ok (.ldc2_w 96, 3) := by decide +kernel
theorem dX3_gets_38 : decode cX3_gets 38 = .ok (.lreturn, 1) := by decide +kernel
theorem dX3_gets_39 : decode cX3_gets 39 = .ok (.aload_n 0, 1) := by decide +kernel
theorem dX3_gets_40 : decode cX3_gets 40 = .ok (.iload_n 1, 1) := by decide +kernel
theorem dX3_gets_41 : decode cX3_gets 41 = .ok (.iload_n 2, 1) := by decide +kernel
theorem dX3_gets_42 : decode cX3_gets 42 = .ok (.invokevirtual 152, 3) := by decide +kernel
theorem dX3_gets_45 : decode cX3_gets 45 = .ok (.iload_n 3, 1) := by decide +kernel
theorem dX3_gets_46 : decode cX3_gets 46 = .ok (.invokevirtual 108, 3) := by decide +kernel
theorem dX3_gets_49 : decode cX3_gets 49 = .ok (.lreturn, 1) := by decide +kernel
theorem dX3_bestManner_0 : decode cX3_bestManner 0 = .ok (.iconst 0, 1) := by decide +kernel
theorem dX3_bestManner_1 : decode cX3_bestManner 1 = .ok (.istore_n 1, 1) := by decide +kernel
theorem dX3_bestManner_2 : decode cX3_bestManner 2 = .ok (.aload_n 0, 1) := by decide +kernel
theorem dX3_bestManner_3 : decode cX3_bestManner 3 = .ok (.iconst 0, 1) := by decide +kernel
theorem dX3_bestManner_4 : decode cX3_bestManner 4 = .ok (.aload_n 0, 1) := by decide +kernel
theorem dX3_bestManner_5 : decode cX3_bestManner 5 = .ok (.getfield 9, 3) := by decide +kernel
theorem dX3_bestManner_8 : decode cX3_bestManner 8 = .ok (.iconst 1, 1) := by decide +kernel
theorem dX3_bestManner_9 : decode cX3_bestManner 9 = .ok (.iaload, 1) := by decide +kernel
theorem dX3_bestManner_10 : decode cX3_bestManner 10 = .ok (.invokevirtual 152, 3) := by decide +kernel
theorem dX3_bestManner_13 : decode cX3_bestManner 13 = .ok (.astore_n 2, 1) := by decide +kernel
theorem dX3_bestManner_14 : decode cX3_bestManner 14 = .ok (.iconst 1, 1) := by decide +kernel
theorem dX3_bestManner_15 : decode cX3_bestManner 15 = .ok (.istore_n 3, 1) := by decide +kernel
theorem dX3_bestManner_16 : decode cX3_bestManner 16 = .ok (.iload_n 3, 1) := by decide +kernel
theorem dX3_bestManner_17 : decode cX3_bestManner 17 = .ok (.getstatic 90, 3) := by decide +kernel
theorem dX3_bestManner_20 : decode cX3_bestManner 20 = .ok (.iconst 0, 1) := by decide +kernel
theorem dX3_bestManner_21 : decode cX3_bestManner 21 = .ok (.iaload, 1) := by decide +kernel
theorem dX3_bestManner_22 : decode cX3_bestManner 22 = .ok (.if_icmp .gt 41, 3) := by decide +kernel
theorem dX3_bestManner_25 : decode cX3_bestManner 25 = .ok (.aload_n 0, 1) := by decide +kernel
theorem dX3_bestManner_26 : decode cX3_bestManner 26 = .ok (.iload_n 3, 1) := by decide +kernel
theorem dX3_bestManner_27 : decode cX3_bestManner 27 = .ok (.aload_n 0, 1) := by decide +kernel
theorem dX3_bestManner_28 : decode cX3_bestManner 28 = .ok (.getfield 9, 3) := by decide +kernel
theorem dX3_bestManner_31 : decode cX3_bestManner 31 = .ok (.iconst 1, 1) := by decide +kernel
theorem dX3_bestManner_32 : decode cX3_bestManner 32 = .ok (.iaload, 1) := by decide +kernel
theorem dX3_bestManner_33 : decode cX3_bestManner 33 = .ok (.invokevirtual 152, 3) := by decide +kernel
theorem dX3_bestManner_36 : decode cX3_bestManner 36 = .ok (.astore 4, 2) := by decide +kernel
theorem dX3_bestManner_38 : decode cX3_bestManner 38 = .ok (.aload 4, 2) := by decide +kernel
theorem dX3_bestManner_40 : decode cX3_bestManner 40 = .ok (.aload_n 2, 1) := by decide +kernel
theorem dX3_bestManner_41 : decode cX3_bestManner 41 = .ok (.invokevirtual 156, 3) := by decide +kernel
theorem dX3_bestManner_44 : decode cX3_bestManner 44 = .ok (.getfield 160, 3) := by decide +kernel
theorem dX3_bestManner_47 : decode cX3_bestManner 47 = .ok (.lconst 0, 1) := by decide +kernel
theorem dX3_bestManner_48 : decode cX3_bestManner 48 = .ok (.lcmp, 1) := by decide +kernel
theorem dX3_bestManner_49 : decode cX3_bestManner 49 = .ok (.ifCond .le 8, 3) := by decide +kernel
theorem dX3_bestManner_52 : decode cX3_bestManner 52 = .ok (.iload_n 3, 1) := by decide +kernel
theorem dX3_bestManner_53 : decode cX3_bestManner 53 = .ok (.istore_n 1, 1) := by decide +kernel
theorem dX3_bestManner_54 : decode cX3_bestManner 54 = .ok (.aload 4, 2) := by decide +kernel
theorem dX3_bestManner_56 : decode cX3_bestManner 56 = .ok (.astore_n 2, 1) := by decide +kernel
theorem dX3_bestManner_57 : decode cX3_bestManner 57 = .ok (.iinc 3 1, 3) := by decide +kernel
theorem dX3_bestManner_60 : decode cX3_bestManner 60 = .ok (.goto (-44), 3) := by decide +kernel
theorem dX3_bestManner_63 : decode cX3_bestManner 63 = .ok (.iload_n 1, 1) := by decide +kernel
theorem dX3_bestManner_64 : decode cX3_bestManner 64 = .ok (.ireturn, 1) := by decide +kernel
theorem dX3_saves_0 : decode cX3_saves 0 = .ok (.aload_n 0, 1) := by decide +kernel
theorem dX3_saves_1 : decode cX3_saves 1 = .ok (.iload_n 1, 1) := by decide +kernel
theorem dX3_saves_2 : decode cX3_saves 2 = .ok (.invokevirtual 57, 3) := by decide +kernel
theorem dX3_saves_5 : decode cX3_saves 5 = .ok (.ifCond .eq 22, 3) := by decide +kernel
theorem dX3_saves_8 : decode cX3_saves 8 = .ok (.iload_n 2, 1) := by decide +kernel
theorem dX3_saves_9 : decode cX3_saves 9 = .ok (.iconst 0, 1) := by decide +kernel
theorem dX3_saves_10 : decode cX3_saves 10 = .ok (.ldc 34, 2) := by decide +kernel
theorem dX3_saves_12 : decode cX3_saves 12 = .ok (.invokestatic 35, 3) := by decide +kernel
theorem dX3_saves_15 : decode cX3_saves 15 = .ok (.ifCond .ne 12, 3) := by decide +kernel
theorem dX3_saves_18 : decode cX3_saves 18 = .ok (.iload_n 3, 1) := by decide +kernel
theorem dX3_saves_19 : decode cX3_saves 19 = .ok (.iconst 0, 1) := by decide +kernel
theorem dX3_saves_20 : decode cX3_saves 20 = .ok (.iconst 1, 1) := by decide +kernel
theorem dX3_saves_21 : decode cX3_saves 21 = .ok (.invokestatic 35, 3) := by decide +kernel
theorem dX3_saves_24 : decode cX3_saves 24 = .ok (.ifCond .eq 7, 3) := by decide +kernel
theorem dX3_saves_27 : decode cX3_saves 27 = .ok (.ldc2_w 96, 3) := by decide +kernel
theorem dX3_saves_30 : decode cX3_saves 30 = .ok (.lreturn, 1) := by decide +kernel
theorem dX3_saves_31 : decode cX3_saves 31 = .ok (.aload_n 0, 1) := by decide +kernel
theorem dX3_saves_32 : decode cX3_saves 32 = .ok (.getfield 79, 3) := by decide +kernel
theorem dX3_saves_35 : decode cX3_saves 35 = .ok (.aload_n 0, 1) := by decide +kernel
theorem dX3_saves_36 : decode cX3_saves 36 = .ok (.getfield 18, 3) := by decide +kernel
theorem dX3_saves_39 : decode cX3_saves 39 = .ok (.iload_n 1, 1) := by decide +kernel
theorem dX3_saves_40 : decode cX3_saves 40 = .ok (.iaload, 1) := by decide +kernel
theorem dX3_saves_41 : decode cX3_saves 41 = .ok (.iconst (-1), 1) := by decide +kernel
theorem dX3_saves_42 : decode cX3_saves 42 = .ok (.ixor, 1) := by decide +kernel
theorem dX3_saves_43 : decode cX3_saves 43 = .ok (.iand, 1) := by decide +kernel
theorem dX3_saves_44 : decode cX3_saves 44 = .ok (.istore 4, 2) := by decide +kernel
theorem dX3_saves_46 : decode cX3_saves 46 = .ok (.aload_n 0, 1) := by decide +kernel
theorem dX3_saves_47 : decode cX3_saves 47 = .ok (.aload_n 0, 1) := by decide +kernel
theorem dX3_saves_48 : decode cX3_saves 48 = .ok (.getfield 9, 3) := by decide +kernel
theorem dX3_saves_51 : decode cX3_saves 51 = .ok (.iconst 0, 1) := by decide +kernel
theorem dX3_saves_52 : decode cX3_saves 52 = .ok (.iaload, 1) := by decide +kernel
theorem dX3_saves_53 : decode cX3_saves 53 = .ok (.aload_n 0, 1) := by decide +kernel
theorem dX3_saves_54 : decode cX3_saves 54 = .ok (.getfield 9, 3) := by decide +kernel
theorem dX3_saves_57 : decode cX3_saves 57 = .ok (.iconst 1, 1) := by decide +kernel
theorem dX3_saves_58 : decode cX3_saves 58 = .ok (.iaload, 1) := by decide +kernel
theorem dX3_saves_59 : decode cX3_saves 59 = .ok (.iload 4, 2) := by decide +kernel
theorem dX3_saves_61 : decode cX3_saves 61 = .ok (.aload_n 0, 1) := by decide +kernel
theorem dX3_saves_62 : decode cX3_saves 62 = .ok (.getfield 68, 3) := by decide +kernel
theorem dX3_saves_65 : decode cX3_saves 65 = .ok (.invokevirtual 164, 3) := by decide +kernel
theorem dX3_saves_68 : decode cX3_saves 68 = .ok (.astore 5, 2) := by decide +kernel
theorem dX3_saves_70 : decode cX3_saves 70 = .ok (.aload 5, 2) := by decide +kernel
theorem dX3_saves_72 : decode cX3_saves 72 = .ok (.getfield 138, 3) := by decide +kernel
theorem dX3_saves_75 : decode cX3_saves 75 = .ok (.aload_n 0, 1) := by decide +kernel
theorem dX3_saves_76 : decode cX3_saves 76 = .ok (.iload_n 1, 1) := by decide +kernel
theorem dX3_saves_77 : decode cX3_saves 77 = .ok (.iload 4, 2) := by decide +kernel
theorem dX3_saves_79 : decode cX3_saves 79 = .ok (.invokevirtual 141, 3) := by decide +kernel
theorem dX3_saves_82 : decode cX3_saves 82 = .ok (.i2l, 1) := by decide +kernel
theorem dX3_saves_83 : decode cX3_saves 83 = .ok (.invokevirtual 145, 3) := by decide +kernel
theorem dX3_saves_86 : decode cX3_saves 86 = .ok (.iload_n 2, 1) := by decide +kernel
theorem dX3_saves_87 : decode cX3_saves 87 = .ok (.ineg, 1) := by decide +kernel
theorem dX3_saves_88 : decode cX3_saves 88 = .ok (.i2l, 1) := by decide +kernel
theorem dX3_saves_89 : decode cX3_saves 89 = .ok (.invokevirtual 168, 3) := by decide +kernel
theorem dX3_saves_92 : decode cX3_saves 92 = .ok (.iload_n 3, 1) := by decide +kernel
theorem dX3_saves_93 : decode cX3_saves 93 = .ok (.invokevirtual 108, 3) := by decide +kernel
theorem dX3_saves_96 : decode cX3_saves 96 = .ok (.lreturn, 1) := by decide +kernel
theorem dX3_misses_0 : decode cX3_misses 0 = .ok (.aload_n 0, 1) := by decide +kernel
theorem dX3_misses_1 : decode cX3_misses 1 = .ok (.iload_n 1, 1) := by decide +kernel
theorem dX3_misses_2 : decode cX3_misses 2 = .ok (.invokevirtual 57, 3) := by decide +kernel
theorem dX3_misses_5 : decode cX3_misses 5 = .ok (.ifCond .eq 12, 3) := by decide +kernel
theorem dX3_misses_8 : decode cX3_misses 8 = .ok (.iload_n 2, 1) := by decide +kernel
theorem dX3_misses_9 : decode cX3_misses 9 = .ok (.iconst 0, 1) := by decide +kernel
theorem dX3_misses_10 : decode cX3_misses 10 = .ok (.iconst 1, 1) := by decide +kernel
theorem dX3_misses_11 : decode cX3_misses 11 = .ok (.invokestatic 35, 3) := by decide +kernel
theorem dX3_misses_14 : decode cX3_misses 14 = .ok (.ifCond .eq 7, 3) := by decide +kernel
theorem dX3_misses_17 : decode cX3_misses 17 = .ok (.ldc2_w 96, 3) := by decide +kernel
theorem dX3_misses_20 : decode cX3_misses 20 = .ok (.lreturn, 1) := by decide +kernel
theorem dX3_misses_21 : decode cX3_misses 21 = .ok (.aload_n 0, 1) := by decide +kernel
theorem dX3_misses_22 : decode cX3_misses 22 = .ok (.aload_n 0, 1) := by decide +kernel
theorem dX3_misses_23 : decode cX3_misses 23 = .ok (.getfield 9, 3) := by decide +kernel
theorem dX3_misses_26 : decode cX3_misses 26 = .ok (.iconst 0, 1) := by decide +kernel
theorem dX3_misses_27 : decode cX3_misses 27 = .ok (.iaload, 1) := by decide +kernel
theorem dX3_misses_28 : decode cX3_misses 28 = .ok (.aload_n 0, 1) := by decide +kernel
theorem dX3_misses_29 : decode cX3_misses 29 = .ok (.getfield 9, 3) := by decide +kernel
theorem dX3_misses_32 : decode cX3_misses 32 = .ok (.iconst 1, 1) := by decide +kernel
theorem dX3_misses_33 : decode cX3_misses 33 = .ok (.iaload, 1) := by decide +kernel
theorem dX3_misses_34 : decode cX3_misses 34 = .ok (.aload_n 0, 1) := by decide +kernel
theorem dX3_misses_35 : decode cX3_misses 35 = .ok (.getfield 79, 3) := by decide +kernel
theorem dX3_misses_38 : decode cX3_misses 38 = .ok (.aload_n 0, 1) := by decide +kernel
theorem dX3_misses_39 : decode cX3_misses 39 = .ok (.getfield 68, 3) := by decide +kernel
theorem dX3_misses_42 : decode cX3_misses 42 = .ok (.iload_n 1, 1) := by decide +kernel
end
section
theorem dX3_misses_43 : decode cX3_misses 43 = .ok (.invokestatic 53, 3) := by decide +kernel
theorem dX3_misses_46 : decode cX3_misses 46 = .ok (.ior, 1) := by decide +kernel
theorem dX3_misses_47 : decode cX3_misses 47 = .ok (.invokevirtual 164, 3) := by decide +kernel
theorem dX3_misses_50 : decode cX3_misses 50 = .ok (.astore_n 3, 1) := by decide +kernel
theorem dX3_misses_51 : decode cX3_misses 51 = .ok (.aload_n 0, 1) := by decide +kernel
theorem dX3_misses_52 : decode cX3_misses 52 = .ok (.aload_n 0, 1) := by decide +kernel
theorem dX3_misses_53 : decode cX3_misses 53 = .ok (.getfield 9, 3) := by decide +kernel
theorem dX3_misses_56 : decode cX3_misses 56 = .ok (.iconst 0, 1) := by decide +kernel
theorem dX3_misses_57 : decode cX3_misses 57 = .ok (.iaload, 1) := by decide +kernel
theorem dX3_misses_58 : decode cX3_misses 58 = .ok (.aload_n 0, 1) := by decide +kernel
theorem dX3_misses_59 : decode cX3_misses 59 = .ok (.getfield 9, 3) := by decide +kernel
theorem dX3_misses_62 : decode cX3_misses 62 = .ok (.iconst 1, 1) := by decide +kernel
theorem dX3_misses_63 : decode cX3_misses 63 = .ok (.iaload, 1) := by decide +kernel
theorem dX3_misses_64 : decode cX3_misses 64 = .ok (.aload_n 0, 1) := by decide +kernel
theorem dX3_misses_65 : decode cX3_misses 65 = .ok (.getfield 79, 3) := by decide +kernel
theorem dX3_misses_68 : decode cX3_misses 68 = .ok (.aload_n 0, 1) := by decide +kernel
theorem dX3_misses_69 : decode cX3_misses 69 = .ok (.getfield 68, 3) := by decide +kernel
theorem dX3_misses_72 : decode cX3_misses 72 = .ok (.iload_n 1, 1) := by decide +kernel
theorem dX3_misses_73 : decode cX3_misses 73 = .ok (.invokestatic 53, 3) := by decide +kernel
theorem dX3_misses_76 : decode cX3_misses 76 = .ok (.iconst (-1), 1) := by decide +kernel
theorem dX3_misses_77 : decode cX3_misses 77 = .ok (.ixor, 1) := by decide +kernel
theorem dX3_misses_78 : decode cX3_misses 78 = .ok (.iand, 1) := by decide +kernel
theorem dX3_misses_79 : decode cX3_misses 79 = .ok (.invokevirtual 164, 3) := by decide +kernel
theorem dX3_misses_82 : decode cX3_misses 82 = .ok (.astore 4, 2) := by decide +kernel
theorem dX3_misses_84 : decode cX3_misses 84 = .ok (.aload_n 3, 1) := by decide +kernel
theorem dX3_misses_85 : decode cX3_misses 85 = .ok (.getfield 120, 3) := by decide +kernel
theorem dX3_misses_88 : decode cX3_misses 88 = .ok (.aload 4, 2) := by decide +kernel
theorem dX3_misses_90 : decode cX3_misses 90 = .ok (.getfield 120, 3) := by decide +kernel
theorem dX3_misses_93 : decode cX3_misses 93 = .ok (.invokevirtual 156, 3) := by decide +kernel
theorem dX3_misses_96 : decode cX3_misses 96 = .ok (.iload_n 2, 1) := by decide +kernel
theorem dX3_misses_97 : decode cX3_misses 97 = .ok (.invokevirtual 108, 3) := by decide +kernel
theorem dX3_misses_100 : decode cX3_misses 100 = .ok (.lreturn, 1) := by decide +kernel
theorem dX3_owe_0 : decode cX3_owe 0 = .ok (.aload_n 0, 1) := by decide +kernel
theorem dX3_owe_1 : decode cX3_owe 1 = .ok (.invokevirtual 98, 3) := by decide +kernel
theorem dX3_owe_4 : decode cX3_owe 4 = .ok (.getfield 138, 3) := by decide +kernel
theorem dX3_owe_7 : decode cX3_owe 7 = .ok (.getfield 160, 3) := by decide +kernel
theorem dX3_owe_10 : decode cX3_owe 10 = .ok (.lconst 0, 1) := by decide +kernel
theorem dX3_owe_11 : decode cX3_owe 11 = .ok (.lcmp, 1) := by decide +kernel
theorem dX3_owe_12 : decode cX3_owe 12 = .ok (.ifCond .ne 5, 3) := by decide +kernel
theorem dX3_owe_15 : decode cX3_owe 15 = .ok (.iconst 0, 1) := by decide +kernel
theorem dX3_owe_16 : decode cX3_owe 16 = .ok (.ireturn, 1) := by decide +kernel
theorem dX3_owe_17 : decode cX3_owe 17 = .ok (.iconst 0, 1) := by decide +kernel
theorem dX3_owe_18 : decode cX3_owe 18 = .ok (.istore_n 1, 1) := by decide +kernel
theorem dX3_owe_19 : decode cX3_owe 19 = .ok (.iconst 0, 1) := by decide +kernel
theorem dX3_owe_20 : decode cX3_owe 20 = .ok (.istore_n 2, 1) := by decide +kernel
theorem dX3_owe_21 : decode cX3_owe 21 = .ok (.iload_n 2, 1) := by decide +kernel
theorem dX3_owe_22 : decode cX3_owe 22 = .ok (.bipush 6, 2) := by decide +kernel
theorem dX3_owe_24 : decode cX3_owe 24 = .ok (.if_icmp .ge 32, 3) := by decide +kernel
theorem dX3_owe_27 : decode cX3_owe 27 = .ok (.aload_n 0, 1) := by decide +kernel
theorem dX3_owe_28 : decode cX3_owe 28 = .ok (.iload_n 2, 1) := by decide +kernel
theorem dX3_owe_29 : decode cX3_owe 29 = .ok (.invokevirtual 57, 3) := by decide +kernel
theorem dX3_owe_32 : decode cX3_owe 32 = .ok (.ifCond .eq 18, 3) := by decide +kernel
theorem dX3_owe_35 : decode cX3_owe 35 = .ok (.aload_n 0, 1) := by decide +kernel
theorem dX3_owe_36 : decode cX3_owe 36 = .ok (.iload_n 2, 1) := by decide +kernel
theorem dX3_owe_37 : decode cX3_owe 37 = .ok (.invokevirtual 149, 3) := by decide +kernel
theorem dX3_owe_40 : decode cX3_owe 40 = .ok (.ifCond .le 10, 3) := by decide +kernel
theorem dX3_owe_43 : decode cX3_owe 43 = .ok (.iload_n 1, 1) := by decide +kernel
theorem dX3_owe_44 : decode cX3_owe 44 = .ok (.iload_n 2, 1) := by decide +kernel
theorem dX3_owe_45 : decode cX3_owe 45 = .ok (.invokestatic 53, 3) := by decide +kernel
theorem dX3_owe_48 : decode cX3_owe 48 = .ok (.ior, 1) := by decide +kernel
theorem dX3_owe_49 : decode cX3_owe 49 = .ok (.istore_n 1, 1) := by decide +kernel
theorem dX3_owe_50 : decode cX3_owe 50 = .ok (.iinc 2 1, 3) := by decide +kernel
theorem dX3_owe_53 : decode cX3_owe 53 = .ok (.goto (-32), 3) := by decide +kernel
theorem dX3_owe_56 : decode cX3_owe 56 = .ok (.iload_n 1, 1) := by decide +kernel
theorem dX3_owe_57 : decode cX3_owe 57 = .ok (.ireturn, 1) := by decide +kernel
theorem dX3_pay_0 : decode cX3_pay 0 = .ok (.aload_n 0, 1) := by decide +kernel
theorem dX3_pay_1 : decode cX3_pay 1 = .ok (.iload_n 1, 1) := by decide +kernel
theorem dX3_pay_2 : decode cX3_pay 2 = .ok (.invokevirtual 57, 3) := by decide +kernel
theorem dX3_pay_5 : decode cX3_pay 5 = .ok (.ifCond .ne 5, 3) := by decide +kernel
theorem dX3_pay_8 : decode cX3_pay 8 = .ok (.iconst (-1), 1) := by decide +kernel
theorem dX3_pay_9 : decode cX3_pay 9 = .ok (.ireturn, 1) := by decide +kernel
theorem dX3_pay_10 : decode cX3_pay 10 = .ok (.iload_n 2, 1) := by decide +kernel
theorem dX3_pay_11 : decode cX3_pay 11 = .ok (.iconst 1, 1) := by decide +kernel
theorem dX3_pay_12 : decode cX3_pay 12 = .ok (.ldc 34, 2) := by decide +kernel
theorem dX3_pay_14 : decode cX3_pay 14 = .ok (.invokestatic 35, 3) := by decide +kernel
theorem dX3_pay_17 : decode cX3_pay 17 = .ok (.ifCond .eq 6, 3) := by decide +kernel
theorem dX3_pay_20 : decode cX3_pay 20 = .ok (.bipush (-2), 2) := by decide +kernel
theorem dX3_pay_22 : decode cX3_pay 22 = .ok (.ireturn, 1) := by decide +kernel
theorem dX3_pay_23 : decode cX3_pay 23 = .ok (.aload_n 0, 1) := by decide +kernel
theorem dX3_pay_24 : decode cX3_pay 24 = .ok (.getfield 68, 3) := by decide +kernel
theorem dX3_pay_27 : decode cX3_pay 27 = .ok (.iload_n 1, 1) := by decide +kernel
theorem dX3_pay_28 : decode cX3_pay 28 = .ok (.invokestatic 49, 3) := by decide +kernel
theorem dX3_pay_31 : decode cX3_pay 31 = .ok (.ifCond .ne 14, 3) := by decide +kernel
theorem dX3_pay_34 : decode cX3_pay 34 = .ok (.aload_n 0, 1) := by decide +kernel
theorem dX3_pay_35 : decode cX3_pay 35 = .ok (.getfield 79, 3) := by decide +kernel
theorem dX3_pay_38 : decode cX3_pay 38 = .ok (.iload_n 1, 1) := by decide +kernel
theorem dX3_pay_39 : decode cX3_pay 39 = .ok (.invokestatic 49, 3) := by decide +kernel
theorem dX3_pay_42 : decode cX3_pay 42 = .ok (.ifCond .eq 6, 3) := by decide +kernel
theorem dX3_pay_45 : decode cX3_pay 45 = .ok (.bipush (-3), 2) := by decide +kernel
theorem dX3_pay_47 : decode cX3_pay 47 = .ok (.ireturn, 1) := by decide +kernel
theorem dX3_pay_48 : decode cX3_pay 48 = .ok (.aload_n 0, 1) := by decide +kernel
theorem dX3_pay_49 : decode cX3_pay 49 = .ok (.invokevirtual 98, 3) := by decide +kernel
theorem dX3_pay_52 : decode cX3_pay 52 = .ok (.getfield 123, 3) := by decide +kernel
theorem dX3_pay_55 : decode cX3_pay 55 = .ok (.aload_n 0, 1) := by decide +kernel
theorem dX3_pay_56 : decode cX3_pay 56 = .ok (.invokevirtual 171, 3) := by decide +kernel
theorem dX3_pay_59 : decode cX3_pay 59 = .ok (.i2l, 1) := by decide +kernel
theorem dX3_pay_60 : decode cX3_pay 60 = .ok (.lneg, 1) := by decide +kernel
theorem dX3_pay_61 : decode cX3_pay 61 = .ok (.iload_n 2, 1) := by decide +kernel
theorem dX3_pay_62 : decode cX3_pay 62 = .ok (.i2l, 1) := by decide +kernel
theorem dX3_pay_63 : decode cX3_pay 63 = .ok (.lsub, 1) := by decide +kernel
theorem dX3_pay_64 : decode cX3_pay 64 = .ok (.invokevirtual 168, 3) := by decide +kernel
theorem dX3_pay_67 : decode cX3_pay 67 = .ok (.getfield 160, 3) := by decide +kernel
theorem dX3_pay_70 : decode cX3_pay 70 = .ok (.lconst 0, 1) := by decide +kernel
theorem dX3_pay_71 : decode cX3_pay 71 = .ok (.lcmp, 1) := by decide +kernel
theorem dX3_pay_72 : decode cX3_pay 72 = .ok (.ifCond .ge 6, 3) := by decide +kernel
theorem dX3_pay_75 : decode cX3_pay 75 = .ok (.bipush (-3), 2) := by decide +kernel
theorem dX3_pay_77 : decode cX3_pay 77 = .ok (.ireturn, 1) := by decide +kernel
theorem dX3_pay_78 : decode cX3_pay 78 = .ok (.aload_n 0, 1) := by decide +kernel
theorem dX3_pay_79 : decode cX3_pay 79 = .ok (.getfield 24, 3) := by decide +kernel
theorem dX3_pay_82 : decode cX3_pay 82 = .ok (.iload_n 1, 1) := by decide +kernel
theorem dX3_pay_83 : decode cX3_pay 83 = .ok (.dup2, 1) := by decide +kernel
theorem dX3_pay_84 : decode cX3_pay 84 = .ok (.iaload, 1) := by decide +kernel
theorem dX3_pay_85 : decode cX3_pay 85 = .ok (.iload_n 2, 1) := by decide +kernel
theorem dX3_pay_86 : decode cX3_pay 86 = .ok (.iadd, 1) := by decide +kernel
theorem dX3_pay_87 : decode cX3_pay 87 = .ok (.iastore, 1) := by decide +kernel
theorem dX3_pay_88 : decode cX3_pay 88 = .ok (.aload_n 0, 1) := by decide +kernel
theorem dX3_pay_89 : decode cX3_pay 89 = .ok (.getfield 24, 3) := by decide +kernel
theorem dX3_pay_92 : decode cX3_pay 92 = .ok (.iload_n 1, 1) := by decide +kernel
theorem dX3_pay_93 : decode cX3_pay 93 = .ok (.iaload, 1) := by decide +kernel
theorem dX3_pay_94 : decode cX3_pay 94 = .ok (.ireturn, 1) := by decide +kernel
theorem dX3_refund_0 : decode cX3_refund 0 = .ok (.aload_n 0, 1) := by decide +kernel
theorem dX3_refund_1 : decode cX3_refund 1 = .ok (.iload_n 1, 1) := by decide +kernel
theorem dX3_refund_2 : decode cX3_refund 2 = .ok (.invokevirtual 57, 3) := by decide +kernel
theorem dX3_refund_5 : decode cX3_refund 5 = .ok (.ifCond .ne 5, 3) := by decide +kernel
theorem dX3_refund_8 : decode cX3_refund 8 = .ok (.iconst (-1), 1) := by decide +kernel
theorem dX3_refund_9 : decode cX3_refund 9 = .ok (.ireturn, 1) := by decide +kernel
theorem dX3_refund_10 : decode cX3_refund 10 = .ok (.aload_n 0, 1) := by decide +kernel
theorem dX3_refund_11 : decode cX3_refund 11 = .ok (.getfield 24, 3) := by decide +kernel
theorem dX3_refund_14 : decode cX3_refund 14 = .ok (.iload_n 1, 1) := by decide +kernel
theorem dX3_refund_15 : decode cX3_refund 15 = .ok (.iaload, 1) := by decide +kernel
theorem dX3_refund_16 : decode cX3_refund 16 = .ok (.ifCond .ne 6, 3) := by decide +kernel
theorem dX3_refund_19 : decode cX3_refund 19 = .ok (.bipush (-3), 2) := by decide +kernel
theorem dX3_refund_21 : decode cX3_refund 21 = .ok (.ireturn, 1) := by decide +kernel
theorem dX3_refund_22 : decode cX3_refund 22 = .ok (.aload_n 0, 1) := by decide +kernel
theorem dX3_refund_23 : decode cX3_refund 23 = .ok (.getfield 24, 3) := by decide +kernel
theorem dX3_refund_26 : decode cX3_refund 26 = .ok (.iload_n 1, 1) := by decide +kernel
theorem dX3_refund_27 : decode cX3_refund 27 = .ok (.iaload, 1) := by decide +kernel
theorem dX3_refund_28 : decode cX3_refund 28 = .ok (.istore_n 2, 1) := by decide +kernel
theorem dX3_refund_29 : decode cX3_refund 29 = .ok (.aload_n 0, 1) := by decide +kernel
theorem dX3_refund_30 : decode cX3_refund 30 = .ok (.getfield 24, 3) := by decide +kernel
theorem dX3_refund_33 : decode cX3_refund 33 = .ok (.iload_n 1, 1) := by decide +kernel
theorem dX3_refund_34 : decode cX3_refund 34 = .ok (.iconst 0, 1) := by decide +kernel
theorem dX3_refund_35 : decode cX3_refund 35 = .ok (.iastore, 1) := by decide +kernel
theorem dX3_refund_36 : decode cX3_refund 36 = .ok (.iload_n 2, 1) := by decide +kernel
theorem dX3_refund_37 : decode cX3_refund 37 = .ok (.ireturn, 1) := by decide +kernel
theorem dX3_fair_0 : decode cX3_fair 0 = .ok (.aload_n 0, 1) := by decide +kernel
theorem dX3_fair_1 : decode cX3_fair 1 = .ok (.iload_n 1, 1) := by decide +kernel
theorem dX3_fair_2 : decode cX3_fair 2 = .ok (.invokevirtual 57, 3) := by decide +kernel
theorem dX3_fair_5 : decode cX3_fair 5 = .ok (.ifCond .eq 12, 3) := by decide +kernel
theorem dX3_fair_8 : decode cX3_fair 8 = .ok (.iload_n 2, 1) := by decide +kernel
theorem dX3_fair_9 : decode cX3_fair 9 = .ok (.iconst 0, 1) := by decide +kernel
theorem dX3_fair_10 : decode cX3_fair 10 = .ok (.iconst 1, 1) := by decide +kernel
theorem dX3_fair_11 : decode cX3_fair 11 = .ok (.invokestatic 35, 3) := by decide +kernel
theorem dX3_fair_14 : decode cX3_fair 14 = .ok (.ifCond .eq 7, 3) := by decide +kernel
theorem dX3_fair_17 : decode cX3_fair 17 = .ok (.ldc2_w 96, 3) := by decide +kernel
theorem dX3_fair_20 : decode cX3_fair 20 = .ok (.lreturn, 1) := by decide +kernel
theorem dX3_fair_21 : decode cX3_fair 21 = .ok (.aload_n 0, 1) := by decide +kernel
theorem dX3_fair_22 : decode cX3_fair 22 = .ok (.invokevirtual 98, 3) := by decide +kernel
theorem dX3_fair_25 : decode cX3_fair 25 = .ok (.astore_n 3, 1) := by decide +kernel
theorem dX3_fair_26 : decode cX3_fair 26 = .ok (.aload_n 0, 1) := by decide +kernel
theorem dX3_fair_27 : decode cX3_fair 27 = .ok (.iload_n 1, 1) := by decide +kernel
theorem dX3_fair_28 : decode cX3_fair 28 = .ok (.aload_n 3, 1) := by decide +kernel
theorem dX3_fair_29 : decode cX3_fair 29 = .ok (.invokevirtual 174, 3) := by decide +kernel
theorem dX3_fair_32 : decode cX3_fair 32 = .ok (.aload_n 3, 1) := by decide +kernel
theorem dX3_fair_33 : decode cX3_fair 33 = .ok (.getfield 178, 3) := by decide +kernel
theorem dX3_fair_36 : decode cX3_fair 36 = .ok (.invokestatic 134, 3) := by decide +kernel
theorem dX3_fair_39 : decode cX3_fair 39 = .ok (.iload_n 2, 1) := by decide +kernel
theorem dX3_fair_40 : decode cX3_fair 40 = .ok (.invokevirtual 108, 3) := by decide +kernel
theorem dX3_fair_43 : decode cX3_fair 43 = .ok (.lreturn, 1) := by decide +kernel
theorem dX3_over_0 : decode cX3_over 0 = .ok (.aload_n 0, 1) := by decide +kernel
theorem dX3_over_1 : decode cX3_over 1 = .ok (.iload_n 1, 1) := by decide +kernel
theorem dX3_over_2 : decode cX3_over 2 = .ok (.invokevirtual 57, 3) := by decide +kernel
theorem dX3_over_5 : decode cX3_over 5 = .ok (.ifCond .eq 12, 3) := by decide +kernel
theorem dX3_over_8 : decode cX3_over 8 = .ok (.iload_n 2, 1) := by decide +kernel
theorem dX3_over_9 : decode cX3_over 9 = .ok (.iconst 0, 1) := by decide +kernel
theorem dX3_over_10 : decode cX3_over 10 = .ok (.iconst 1, 1) := by decide +kernel
theorem dX3_over_11 : decode cX3_over 11 = .ok (.invokestatic 35, 3) := by decide +kernel
theorem dX3_over_14 : decode cX3_over 14 = .ok (.ifCond .eq 7, 3) := by decide +kernel
theorem dX3_over_17 : decode cX3_over 17 = .ok (.ldc2_w 96, 3) := by decide +kernel
theorem dX3_over_20 : decode cX3_over 20 = .ok (.lreturn, 1) := by decide +kernel
theorem dX3_over_21 : decode cX3_over 21 = .ok (.aload_n 0, 1) := by decide +kernel
theorem dX3_over_22 : decode cX3_over 22 = .ok (.invokevirtual 98, 3) := by decide +kernel
theorem dX3_over_25 : decode cX3_over 25 = .ok (.astore_n 3, 1) := by decide +kernel
theorem dX3_over_26 : decode cX3_over 26 = .ok (.aload_n 0, 1) := by decide +kernel
theorem dX3_over_27 : decode cX3_over 27 = .ok (.iload_n 1, 1) := by decide +kernel
theorem dX3_over_28 : decode cX3_over 28 = .ok (.aload_n 3, 1) := by decide +kernel
theorem dX3_over_29 : decode cX3_over 29 = .ok (.invokevirtual 181, 3) := by decide +kernel
theorem dX3_over_32 : decode cX3_over 32 = .ok (.aload_n 3, 1) := by decide +kernel
theorem dX3_over_33 : decode cX3_over 33 = .ok (.getfield 178, 3) := by decide +kernel
theorem dX3_over_36 : decode cX3_over 36 = .ok (.invokestatic 134, 3) := by decide +kernel
theorem dX3_over_39 : decode cX3_over 39 = .ok (.iload_n 2, 1) := by decide +kernel
theorem dX3_over_40 : decode cX3_over 40 = .ok (.invokevirtual 108, 3) := by decide +kernel
theorem dX3_over_43 : decode cX3_over 43 = .ok (.lreturn, 1) := by decide +kernel
theorem dX3_transfers_0 : decode cX3_transfers 0 = .ok (.aload_n 0, 1) := by decide +kernel
theorem dX3_transfers_1 : decode cX3_transfers 1 = .ok (.aload_n 0, 1) := by decide +kernel
theorem dX3_transfers_2 : decode cX3_transfers 2 = .ok (.invokevirtual 98, 3) := by decide +kernel
theorem dX3_transfers_5 : decode cX3_transfers 5 = .ok (.invokevirtual 184, 3) := by decide +kernel
theorem dX3_transfers_8 : decode cX3_transfers 8 = .ok (.aload_n 0, 1) := by decide +kernel
theorem dX3_transfers_9 : decode cX3_transfers 9 = .ok (.getfield 30, 3) := by decide +kernel
theorem dX3_transfers_12 : decode cX3_transfers 12 = .ok (.getfield 188, 3) := by decide +kernel
theorem dX3_transfers_15 : decode cX3_transfers 15 = .ok (.ireturn, 1) := by decide +kernel
theorem dX3_transfer_0 : decode cX3_transfer 0 = .ok (.iload_n 1, 1) := by decide +kernel
theorem dX3_transfer_1 : decode cX3_transfer 1 = .ok (.ifCond .lt 12, 3) := by decide +kernel
theorem dX3_transfer_4 : decode cX3_transfer 4 = .ok (.iload_n 2, 1) := by decide +kernel
theorem dX3_transfer_5 : decode cX3_transfer 5 = .ok (.iconst 0, 1) := by decide +kernel
theorem dX3_transfer_6 : decode cX3_transfer 6 = .ok (.iconst 1, 1) := by decide +kernel
theorem dX3_transfer_7 : decode cX3_transfer 7 = .ok (.invokestatic 35, 3) := by decide +kernel
theorem dX3_transfer_10 : decode cX3_transfer 10 = .ok (.ifCond .eq 6, 3) := by decide +kernel
theorem dX3_transfer_13 : decode cX3_transfer 13 = .ok (.bipush (-2), 2) := by decide +kernel
theorem dX3_transfer_15 : decode cX3_transfer 15 = .ok (.ireturn, 1) := by decide +kernel
theorem dX3_transfer_16 : decode cX3_transfer 16 = .ok (.aload_n 0, 1) := by decide +kernel
theorem dX3_transfer_17 : decode cX3_transfer 17 = .ok (.aload_n 0, 1) := by decide +kernel
theorem dX3_transfer_18 : decode cX3_transfer 18 = .ok (.invokevirtual 98, 3) := by decide +kernel
theorem dX3_transfer_21 : decode cX3_transfer 21 = .ok (.invokevirtual 184, 3) := by decide +kernel
theorem dX3_transfer_24 : decode cX3_transfer 24 = .ok (.aload_n 0, 1) := by decide +kernel
theorem dX3_transfer_25 : decode cX3_transfer 25 = .ok (.getfield 30, 3) := by decide +kernel
theorem dX3_transfer_28 : decode cX3_transfer 28 = .ok (.iload_n 1, 1) := by decide +kernel
theorem dX3_transfer_29 : decode cX3_transfer 29 = .ok (.invokevirtual 191, 3) := by decide +kernel
theorem dX3_transfer_32 : decode cX3_transfer 32 = .ok (.ifCond .ne 6, 3) := by decide +kernel
theorem dX3_transfer_35 : decode cX3_transfer 35 = .ok (.bipush (-9), 2) := by decide +kernel
theorem dX3_transfer_37 : decode cX3_transfer 37 = .ok (.ireturn, 1) := by decide +kernel
theorem dX3_transfer_38 : decode cX3_transfer 38 = .ok (.iload_n 2, 1) := by decide +kernel
theorem dX3_transfer_39 : decode cX3_transfer 39 = .ok (.ifCond .ne 15, 3) := by decide +kernel
theorem dX3_transfer_42 : decode cX3_transfer 42 = .ok (.aload_n 0, 1) := by decide +kernel
theorem dX3_transfer_43 : decode cX3_transfer 43 = .ok (.getfield 30, 3) := by decide +kernel
theorem dX3_transfer_46 : decode cX3_transfer 46 = .ok (.getfield 194, 3) := by decide +kernel
theorem dX3_transfer_49 : decode cX3_transfer 49 = .ok (.iload_n 1, 1) := by decide +kernel
theorem dX3_transfer_50 : decode cX3_transfer 50 = .ok (.iaload, 1) := by decide +kernel
theorem dX3_transfer_51 : decode cX3_transfer 51 = .ok (.goto 12, 3) := by decide +kernel
theorem dX3_transfer_54 : decode cX3_transfer 54 = .ok (.aload_n 0, 1) := by decide +kernel
theorem dX3_transfer_55 : decode cX3_transfer 55 = .ok (.getfield 30, 3) := by decide +kernel
theorem dX3_transfer_58 : decode cX3_transfer 58 = .ok (.getfield 197, 3) := by decide +kernel
theorem dX3_transfer_61 : decode cX3_transfer 61 = .ok (.iload_n 1, 1) := by decide +kernel
theorem dX3_transfer_62 : decode cX3_transfer 62 = .ok (.iaload, 1) := by decide +kernel
theorem dX3_transfer_63 : decode cX3_transfer 63 = .ok (.ireturn, 1) := by decide +kernel
theorem dX3_given_0 : decode cX3_given 0 = .ok (.iload_n 1, 1) := by decide +kernel
theorem dX3_given_1 : decode cX3_given 1 = .ok (.ifCond .lt 12, 3) := by decide +kernel
theorem dX3_given_4 : decode cX3_given 4 = .ok (.iload_n 2, 1) := by decide +kernel
theorem dX3_given_5 : decode cX3_given 5 = .ok (.iconst 0, 1) := by decide +kernel
theorem dX3_given_6 : decode cX3_given 6 = .ok (.iconst 1, 1) := by decide +kernel
theorem dX3_given_7 : decode cX3_given 7 = .ok (.invokestatic 35, 3) := by decide +kernel
theorem dX3_given_10 : decode cX3_given 10 = .ok (.ifCond .eq 7, 3) := by decide +kernel
theorem dX3_given_13 : decode cX3_given 13 = .ok (.ldc2_w 96, 3) := by decide +kernel
theorem dX3_given_16 : decode cX3_given 16 = .ok (.lreturn, 1) := by decide +kernel
theorem dX3_given_17 : decode cX3_given 17 = .ok (.aload_n 0, 1) := by decide +kernel
theorem dX3_given_18 : decode cX3_given 18 = .ok (.invokevirtual 98, 3) := by decide +kernel
theorem dX3_given_21 : decode cX3_given 21 = .ok (.astore_n 3, 1) := by decide +kernel
theorem dX3_given_22 : decode cX3_given 22 = .ok (.aload_n 0, 1) := by decide +kernel
theorem dX3_given_23 : decode cX3_given 23 = .ok (.aload_n 3, 1) := by decide +kernel
theorem dX3_given_24 : decode cX3_given 24 = .ok (.invokevirtual 184, 3) := by decide +kernel
theorem dX3_given_27 : decode cX3_given 27 = .ok (.aload_n 0, 1) := by decide +kernel
theorem dX3_given_28 : decode cX3_given 28 = .ok (.getfield 30, 3) := by decide +kernel
theorem dX3_given_31 : decode cX3_given 31 = .ok (.iload_n 1, 1) := by decide +kernel
theorem dX3_given_32 : decode cX3_given 32 = .ok (.invokevirtual 191, 3) := by decide +kernel
theorem dX3_given_35 : decode cX3_given 35 = .ok (.ifCond .ne 7, 3) := by decide +kernel
theorem dX3_given_38 : decode cX3_given 38 = .ok (.ldc2_w 96, 3) := by decide +kernel
theorem dX3_given_41 : decode cX3_given 41 = .ok (.lreturn, 1) := by decide +kernel
theorem dX3_given_42 : decode cX3_given 42 = .ok (.aload_n 0, 1) := by decide +kernel
theorem dX3_given_43 : decode cX3_given 43 = .ok (.getfield 30, 3) := by decide +kernel
theorem dX3_given_46 : decode cX3_given 46 = .ok (.getfield 200, 3) := by decide +kernel
theorem dX3_given_49 : decode cX3_given 49 = .ok (.iload_n 1, 1) := by decide +kernel
theorem dX3_given_50 : decode cX3_given 50 = .ok (.laload, 1) := by decide +kernel
theorem dX3_given_51 : decode cX3_given 51 = .ok (.aload_n 3, 1) := by decide +kernel
theorem dX3_given_52 : decode cX3_given 52 = .ok (.getfield 178, 3) := by decide +kernel
theorem dX3_given_55 : decode cX3_given 55 = .ok (.invokestatic 134, 3) := by decide +kernel
theorem dX3_given_58 : decode cX3_given 58 = .ok (.iload_n 2, 1) := by decide +kernel
theorem dX3_given_59 : decode cX3_given 59 = .ok (.invokevirtual 108, 3) := by decide +kernel
theorem dX3_given_62 : decode cX3_given 62 = .ok (.lreturn, 1) := by decide +kernel
theorem dX3_many_0 : decode cX3_many 0 = .ok (.iload_n 1, 1) := by decide +kernel
theorem dX3_many_1 : decode cX3_many 1 = .ok (.tableswitch 99 0 5 #[39, 47, 55, 68, 89, 94], 39) := by decide +kernel
theorem dX3_many_40 : decode cX3_many 40 = .ok (.aload_n 0, 1) := by decide +kernel
theorem dX3_many_41 : decode cX3_many 41 = .ok (.getfield 46, 3) := by decide +kernel
theorem dX3_many_44 : decode cX3_many 44 = .ok (.invokestatic 71, 3) := by decide +kernel
theorem dX3_many_47 : decode cX3_many 47 = .ok (.ireturn, 1) := by decide +kernel
theorem dX3_many_48 : decode cX3_many 48 = .ok (.aload_n 0, 1) := by decide +kernel
theorem dX3_many_49 : decode cX3_many 49 = .ok (.invokevirtual 204, 3) := by decide +kernel
theorem dX3_many_52 : decode cX3_many 52 = .ok (.invokestatic 71, 3) := by decide +kernel
theorem dX3_many_55 : decode cX3_many 55 = .ok (.ireturn, 1) := by decide +kernel
theorem dX3_many_56 : decode cX3_many 56 = .ok (.aload_n 0, 1) := by decide +kernel
theorem dX3_many_57 : decode cX3_many 57 = .ok (.invokevirtual 204, 3) := by decide +kernel
theorem dX3_many_60 : decode cX3_many 60 = .ok (.aload_n 0, 1) := by decide +kernel
theorem dX3_many_61 : decode cX3_many 61 = .ok (.getfield 79, 3) := by decide +kernel
theorem dX3_many_64 : decode cX3_many 64 = .ok (.iand, 1) := by decide +kernel
theorem dX3_many_65 : decode cX3_many 65 = .ok (.invokestatic 71, 3) := by decide +kernel
theorem dX3_many_68 : decode cX3_many 68 = .ok (.ireturn, 1) := by decide +kernel
theorem dX3_many_69 : decode cX3_many 69 = .ok (.aload_n 0, 1) := by decide +kernel
theorem dX3_many_70 : decode cX3_many 70 = .ok (.invokevirtual 204, 3) := by decide +kernel
theorem dX3_many_73 : decode cX3_many 73 = .ok (.aload_n 0, 1) := by decide +kernel
theorem dX3_many_74 : decode cX3_many 74 = .ok (.aload_n 0, 1) := by decide +kernel
theorem dX3_many_75 : decode cX3_many 75 = .ok (.getfield 79, 3) := by decide +kernel
theorem dX3_many_78 : decode cX3_many 78 = .ok (.aload_n 0, 1) := by decide +kernel
theorem dX3_many_79 : decode cX3_many 79 = .ok (.getfield 68, 3) := by decide +kernel
theorem dX3_many_82 : decode cX3_many 82 = .ok (.invokevirtual 207, 3) := by decide +kernel
theorem dX3_many_85 : decode cX3_many 85 = .ok (.iand, 1) := by decide +kernel
theorem dX3_many_86 : decode cX3_many 86 = .ok (.invokestatic 71, 3) := by decide +kernel
theorem dX3_many_89 : decode cX3_many 89 = .ok (.ireturn, 1) := by decide +kernel
theorem dX3_many_90 : decode cX3_many 90 = .ok (.aload_n 0, 1) := by decide +kernel
theorem dX3_many_91 : decode cX3_many 91 = .ok (.invokevirtual 210, 3) := by decide +kernel
theorem dX3_many_94 : decode cX3_many 94 = .ok (.ireturn, 1) := by decide +kernel
theorem dX3_many_95 : decode cX3_many 95 = .ok (.aload_n 0, 1) := by decide +kernel
theorem dX3_many_96 : decode cX3_many 96 = .ok (.invokevirtual 171, 3) := by decide +kernel
theorem dX3_many_99 : decode cX3_many 99 = .ok (.ireturn, 1) := by decide +kernel
theorem dX3_many_100 : decode cX3_many 100 = .ok (.bipush (-2), 2) := by decide +kernel
theorem dX3_many_102 : decode cX3_many 102 = .ok (.ireturn, 1) := by decide +kernel
theorem dX3_isOutside_0 : decode cX3_isOutside 0 = .ok (.iload_n 0, 1) := by decide +kernel
theorem dX3_isOutside_1 : decode cX3_isOutside 1 = .ok (.iload_n 1, 1) := by decide +kernel
theorem dX3_isOutside_2 : decode cX3_isOutside 2 = .ok (.if_icmp .lt 8, 3) := by decide +kernel
theorem dX3_isOutside_5 : decode cX3_isOutside 5 = .ok (.iload_n 0, 1) := by decide +kernel
theorem dX3_isOutside_6 : decode cX3_isOutside 6 = .ok (.iload_n 2, 1) := by decide +kernel
theorem dX3_isOutside_7 : decode cX3_isOutside 7 = .ok (.if_icmp .le 7, 3) := by decide +kernel
theorem dX3_isOutside_10 : decode cX3_isOutside 10 = .ok (.iconst 1, 1) := by decide +kernel
theorem dX3_isOutside_11 : decode cX3_isOutside 11 = .ok (.goto 4, 3) := by decide +kernel
theorem dX3_isOutside_14 : decode cX3_isOutside 14 = .ok (.iconst 0, 1) := by decide +kernel
theorem dX3_isOutside_15 : decode cX3_isOutside 15 = .ok (.ireturn, 1) := by decide +kernel
theorem dX3_bit_0 : decode cX3_bit 0 = .ok (.iconst 1, 1) := by decide +kernel
theorem dX3_bit_1 : decode cX3_bit 1 = .ok (.iload_n 0, 1) := by decide +kernel
theorem dX3_bit_2 : decode cX3_bit 2 = .ok (.ishl, 1) := by decide +kernel
theorem dX3_bit_3 : decode cX3_bit 3 = .ok (.ireturn, 1) := by decide +kernel
theorem dX3_has_0 : decode cX3_has 0 = .ok (.iload_n 0, 1) := by decide +kernel
theorem dX3_has_1 : decode cX3_has 1 = .ok (.iload_n 1, 1) := by decide +kernel
theorem dX3_has_2 : decode cX3_has 2 = .ok (.ishr, 1) := by decide +kernel
theorem dX3_has_3 : decode cX3_has 3 = .ok (.iconst 1, 1) := by decide +kernel
theorem dX3_has_4 : decode cX3_has 4 = .ok (.iand, 1) := by decide +kernel
theorem dX3_has_5 : decode cX3_has 5 = .ok (.ifCond .eq 7, 3) := by decide +kernel
theorem dX3_has_8 : decode cX3_has 8 = .ok (.iconst 1, 1) := by decide +kernel
theorem dX3_has_9 : decode cX3_has 9 = .ok (.goto 4, 3) := by decide +kernel
theorem dX3_has_12 : decode cX3_has 12 = .ok (.iconst 0, 1) := by decide +kernel
theorem dX3_has_13 : decode cX3_has 13 = .ok (.ireturn, 1) := by decide +kernel
theorem dX3_firstOf_0 : decode cX3_firstOf 0 = .ok (.iconst 0, 1) := by decide +kernel
theorem dX3_firstOf_1 : decode cX3_firstOf 1 = .ok (.istore_n 1, 1) := by decide +kernel
theorem dX3_firstOf_2 : decode cX3_firstOf 2 = .ok (.iload_n 1, 1) := by decide +kernel
theorem dX3_firstOf_3 : decode cX3_firstOf 3 = .ok (.bipush 6, 2) := by decide +kernel
theorem dX3_firstOf_5 : decode cX3_firstOf 5 = .ok (.if_icmp .ge 19, 3) := by decide +kernel
theorem dX3_firstOf_8 : decode cX3_firstOf 8 = .ok (.iload_n 0, 1) := by decide +kernel
theorem dX3_firstOf_9 : decode cX3_firstOf 9 = .ok (.iload_n 1, 1) := by decide +kernel
theorem dX3_firstOf_10 : decode cX3_firstOf 10 = .ok (.invokestatic 49, 3) := by decide +kernel
theorem dX3_firstOf_13 : decode cX3_firstOf 13 = .ok (.ifCond .eq 5, 3) := by decide +kernel
theorem dX3_firstOf_16 : decode cX3_firstOf 16 = .ok (.iload_n 1, 1) := by decide +kernel
theorem dX3_firstOf_17 : decode cX3_firstOf 17 = .ok (.ireturn, 1) := by decide +kernel
theorem dX3_firstOf_18 : decode cX3_firstOf 18 = .ok (.iinc 1 1, 3) := by decide +kernel
theorem dX3_firstOf_21 : decode cX3_firstOf 21 = .ok (.goto (-19), 3) := by decide +kernel
theorem dX3_firstOf_24 : decode cX3_firstOf 24 = .ok (.bipush (-9), 2) := by decide +kernel
theorem dX3_firstOf_26 : decode cX3_firstOf 26 = .ok (.ireturn, 1) := by decide +kernel
theorem dX3_sumOver_0 : decode cX3_sumOver 0 = .ok (.iconst 0, 1) := by decide +kernel
theorem dX3_sumOver_1 : decode cX3_sumOver 1 = .ok (.istore_n 2, 1) := by decide +kernel
theorem dX3_sumOver_2 : decode cX3_sumOver 2 = .ok (.iconst 0, 1) := by decide +kernel
theorem dX3_sumOver_3 : decode cX3_sumOver 3 = .ok (.istore_n 3, 1) := by decide +kernel
theorem dX3_sumOver_4 : decode cX3_sumOver 4 = .ok (.iload_n 3, 1) := by decide +kernel
theorem dX3_sumOver_5 : decode cX3_sumOver 5 = .ok (.aload_n 1, 1) := by decide +kernel
theorem dX3_sumOver_6 : decode cX3_sumOver 6 = .ok (.arraylength, 1) := by decide +kernel
theorem dX3_sumOver_7 : decode cX3_sumOver 7 = .ok (.if_icmp .ge 23, 3) := by decide +kernel
theorem dX3_sumOver_10 : decode cX3_sumOver 10 = .ok (.iload_n 0, 1) := by decide +kernel
theorem dX3_sumOver_11 : decode cX3_sumOver 11 = .ok (.iload_n 3, 1) := by decide +kernel
theorem dX3_sumOver_12 : decode cX3_sumOver 12 = .ok (.invokestatic 49, 3) := by decide +kernel
theorem dX3_sumOver_15 : decode cX3_sumOver 15 = .ok (.ifCond .eq 9, 3) := by decide +kernel
theorem dX3_sumOver_18 : decode cX3_sumOver 18 = .ok (.iload_n 2, 1) := by decide +kernel
theorem dX3_sumOver_19 : decode cX3_sumOver 19 = .ok (.aload_n 1, 1) := by decide +kernel
theorem dX3_sumOver_20 : decode cX3_sumOver 20 = .ok (.iload_n 3, 1) := by decide +kernel
theorem dX3_sumOver_21 : decode cX3_sumOver 21 = .ok (.iaload, 1) := by decide +kernel
theorem dX3_sumOver_22 : decode cX3_sumOver 22 = .ok (.iadd, 1) := by decide +kernel
theorem dX3_sumOver_23 : decode cX3_sumOver 23 = .ok (.istore_n 2, 1) := by decide +kernel
theorem dX3_sumOver_24 : decode cX3_sumOver 24 = .ok (.iinc 3 1, 3) := by decide +kernel
theorem dX3_sumOver_27 : decode cX3_sumOver 27 = .ok (.goto (-23), 3) := by decide +kernel
theorem dX3_sumOver_30 : decode cX3_sumOver 30 = .ok (.iload_n 2, 1) := by decide +kernel
theorem dX3_sumOver_31 : decode cX3_sumOver 31 = .ok (.ireturn, 1) := by decide +kernel
theorem dX3_isKnown_0 : decode cX3_isKnown 0 = .ok (.iload_n 1, 1) := by decide +kernel
theorem dX3_isKnown_1 : decode cX3_isKnown 1 = .ok (.ifCond .lt 24, 3) := by decide +kernel
theorem dX3_isKnown_4 : decode cX3_isKnown 4 = .ok (.iload_n 1, 1) := by decide +kernel
theorem dX3_isKnown_5 : decode cX3_isKnown 5 = .ok (.bipush 6, 2) := by decide +kernel
theorem dX3_isKnown_7 : decode cX3_isKnown 7 = .ok (.if_icmp .ge 18, 3) := by decide +kernel
theorem dX3_isKnown_10 : decode cX3_isKnown 10 = .ok (.aload_n 0, 1) := by decide +kernel
theorem dX3_isKnown_11 : decode cX3_isKnown 11 = .ok (.getfield 46, 3) := by decide +kernel
theorem dX3_isKnown_14 : decode cX3_isKnown 14 = .ok (.iload_n 1, 1) := by decide +kernel
theorem dX3_isKnown_15 : decode cX3_isKnown 15 = .ok (.invokestatic 49, 3) := by decide +kernel
theorem dX3_isKnown_18 : decode cX3_isKnown 18 = .ok (.ifCond .eq 7, 3) := by decide +kernel
theorem dX3_isKnown_21 : decode cX3_isKnown 21 = .ok (.iconst 1, 1) := by decide +kernel
theorem dX3_isKnown_22 : decode cX3_isKnown 22 = .ok (.goto 4, 3) := by decide +kernel
theorem dX3_isKnown_25 : decode cX3_isKnown 25 = .ok (.iconst 0, 1) := by decide +kernel
theorem dX3_isKnown_26 : decode cX3_isKnown 26 = .ok (.ireturn, 1) := by decide +kernel
theorem dX3_isPaired_0 : decode cX3_isPaired 0 = .ok (.aload_n 0, 1) := by decide +kernel
theorem dX3_isPaired_1 : decode cX3_isPaired 1 = .ok (.getfield 18, 3) := by decide +kernel
theorem dX3_isPaired_4 : decode cX3_isPaired 4 = .ok (.iload_n 1, 1) := by decide +kernel
theorem dX3_isPaired_5 : decode cX3_isPaired 5 = .ok (.iaload, 1) := by decide +kernel
theorem dX3_isPaired_6 : decode cX3_isPaired 6 = .ok (.iload_n 1, 1) := by decide +kernel
theorem dX3_isPaired_7 : decode cX3_isPaired 7 = .ok (.invokestatic 53, 3) := by decide +kernel
theorem dX3_isPaired_10 : decode cX3_isPaired 10 = .ok (.if_icmp .eq 7, 3) := by decide +kernel
theorem dX3_isPaired_13 : decode cX3_isPaired 13 = .ok (.iconst 1, 1) := by decide +kernel
theorem dX3_isPaired_14 : decode cX3_isPaired 14 = .ok (.goto 4, 3) := by decide +kernel
theorem dX3_isPaired_17 : decode cX3_isPaired 17 = .ok (.iconst 0, 1) := by decide +kernel
theorem dX3_isPaired_18 : decode cX3_isPaired 18 = .ok (.ireturn, 1) := by decide +kernel
theorem dX3_fillUnit_0 : decode cX3_fillUnit 0 = .ok (.aload_n 0, 1) := by decide +kernel
theorem dX3_fillUnit_1 : decode cX3_fillUnit 1 = .ok (.getfield 18, 3) := by decide +kernel
theorem dX3_fillUnit_4 : decode cX3_fillUnit 4 = .ok (.iload_n 1, 1) := by decide +kernel
theorem dX3_fillUnit_5 : decode cX3_fillUnit 5 = .ok (.iaload, 1) := by decide +kernel
theorem dX3_fillUnit_6 : decode cX3_fillUnit 6 = .ok (.istore_n 3, 1) := by decide +kernel
theorem dX3_fillUnit_7 : decode cX3_fillUnit 7 = .ok (.iconst 0, 1) := by decide +kernel
theorem dX3_fillUnit_8 : decode cX3_fillUnit 8 = .ok (.istore 4, 2) := by decide +kernel
theorem dX3_fillUnit_10 : decode cX3_fillUnit 10 = .ok (.iload 4, 2) := by decide +kernel
theorem dX3_fillUnit_12 : decode cX3_fillUnit 12 = .ok (.bipush 6, 2) := by decide +kernel
theorem dX3_fillUnit_14 : decode cX3_fillUnit 14 = .ok (.if_icmp .ge 26, 3) := by decide +kernel
theorem dX3_fillUnit_17 : decode cX3_fillUnit 17 = .ok (.iload_n 3, 1) := by decide +kernel
theorem dX3_fillUnit_18 : decode cX3_fillUnit 18 = .ok (.iload 4, 2) := by decide +kernel
theorem dX3_fillUnit_20 : decode cX3_fillUnit 20 = .ok (.invokestatic 49, 3) := by decide +kernel
theorem dX3_fillUnit_23 : decode cX3_fillUnit 23 = .ok (.ifCond .eq 11, 3) := by decide +kernel
theorem dX3_fillUnit_26 : decode cX3_fillUnit 26 = .ok (.aload_n 0, 1) := by decide +kernel
theorem dX3_fillUnit_27 : decode cX3_fillUnit 27 = .ok (.getfield 21, 3) := by decide +kernel
theorem dX3_fillUnit_30 : decode cX3_fillUnit 30 = .ok (.iload 4, 2) := by decide +kernel
theorem dX3_fillUnit_32 : decode cX3_fillUnit 32 = .ok (.iload_n 2, 1) := by decide +kernel
theorem dX3_fillUnit_33 : decode cX3_fillUnit 33 = .ok (.iastore, 1) := by decide +kernel
theorem dX3_fillUnit_34 : decode cX3_fillUnit 34 = .ok (.iinc 4 1, 3) := by decide +kernel
theorem dX3_fillUnit_37 : decode cX3_fillUnit 37 = .ok (.goto (-27), 3) := by decide +kernel
theorem dX3_fillUnit_40 : decode cX3_fillUnit 40 = .ok (.return_, 1) := by decide +kernel
theorem dX3_openUnit_0 : decode cX3_openUnit 0 = .ok (.aload_n 0, 1) := by decide +kernel
theorem dX3_openUnit_1 : decode cX3_openUnit 1 = .ok (.dup, 1) := by decide +kernel
theorem dX3_openUnit_2 : decode cX3_openUnit 2 = .ok (.getfield 79, 3) := by decide +kernel
theorem dX3_openUnit_5 : decode cX3_openUnit 5 = .ok (.aload_n 0, 1) := by decide +kernel
theorem dX3_openUnit_6 : decode cX3_openUnit 6 = .ok (.getfield 18, 3) := by decide +kernel
theorem dX3_openUnit_9 : decode cX3_openUnit 9 = .ok (.iload_n 1, 1) := by decide +kernel
theorem dX3_openUnit_10 : decode cX3_openUnit 10 = .ok (.iaload, 1) := by decide +kernel
theorem dX3_openUnit_11 : decode cX3_openUnit 11 = .ok (.iconst (-1), 1) := by decide +kernel
theorem dX3_openUnit_12 : decode cX3_openUnit 12 = .ok (.ixor, 1) := by decide +kernel
theorem dX3_openUnit_13 : decode cX3_openUnit 13 = .ok (.iand, 1) := by decide +kernel
theorem dX3_openUnit_14 : decode cX3_openUnit 14 = .ok (.putfield 79, 3) := by decide +kernel
theorem dX3_openUnit_17 : decode cX3_openUnit 17 = .ok (.aload_n 0, 1) := by decide +kernel
theorem dX3_openUnit_18 : decode cX3_openUnit 18 = .ok (.iload_n 1, 1) := by decide +kernel
theorem dX3_openUnit_19 : decode cX3_openUnit 19 = .ok (.iconst 0, 1) := by decide +kernel
theorem dX3_openUnit_20 : decode cX3_openUnit 20 = .ok (.invokevirtual 86, 3) := by decide +kernel
theorem dX3_openUnit_23 : decode cX3_openUnit 23 = .ok (.return_, 1) := by decide +kernel
theorem dX3_partUnit_0 : decode cX3_partUnit 0 = .ok (.aload_n 0, 1) := by decide +kernel
theorem dX3_partUnit_1 : decode cX3_partUnit 1 = .ok (.getfield 18, 3) := by decide +kernel
theorem dX3_partUnit_4 : decode cX3_partUnit 4 = .ok (.iload_n 1, 1) := by decide +kernel
theorem dX3_partUnit_5 : decode cX3_partUnit 5 = .ok (.iaload, 1) := by decide +kernel
theorem dX3_partUnit_6 : decode cX3_partUnit 6 = .ok (.istore_n 2, 1) := by decide +kernel
theorem dX3_partUnit_7 : decode cX3_partUnit 7 = .ok (.iconst 0, 1) := by decide +kernel
theorem dX3_partUnit_8 : decode cX3_partUnit 8 = .ok (.istore_n 3, 1) := by decide +kernel
theorem dX3_partUnit_9 : decode cX3_partUnit 9 = .ok (.iload_n 3, 1) := by decide +kernel
theorem dX3_partUnit_10 : decode cX3_partUnit 10 = .ok (.bipush 6, 2) := by decide +kernel
theorem dX3_partUnit_12 : decode cX3_partUnit 12 = .ok (.if_icmp .ge 27, 3) := by decide +kernel
theorem dX3_partUnit_15 : decode cX3_partUnit 15 = .ok (.iload_n 2, 1) := by decide +kernel
theorem dX3_partUnit_16 : decode cX3_partUnit 16 = .ok (.iload_n 3, 1) := by decide +kernel
theorem dX3_partUnit_17 : decode cX3_partUnit 17 = .ok (.invokestatic 49, 3) := by decide +kernel
theorem dX3_partUnit_20 : decode cX3_partUnit 20 = .ok (.ifCond .eq 13, 3) := by decide +kernel
theorem dX3_partUnit_23 : decode cX3_partUnit 23 = .ok (.aload_n 0, 1) := by decide +kernel
theorem dX3_partUnit_24 : decode cX3_partUnit 24 = .ok (.getfield 18, 3) := by decide +kernel
theorem dX3_partUnit_27 : decode cX3_partUnit 27 = .ok (.iload_n 3, 1) := by decide +kernel
theorem dX3_partUnit_28 : decode cX3_partUnit 28 = .ok (.iload_n 3, 1) := by decide +kernel
theorem dX3_partUnit_29 : decode cX3_partUnit 29 = .ok (.invokestatic 53, 3) := by decide +kernel
theorem dX3_partUnit_32 : decode cX3_partUnit 32 = .ok (.iastore, 1) := by decide +kernel
theorem dX3_partUnit_33 : decode cX3_partUnit 33 = .ok (.iinc 3 1, 3) := by decide +kernel
theorem dX3_partUnit_36 : decode cX3_partUnit 36 = .ok (.goto (-27), 3) := by decide +kernel
theorem dX3_partUnit_39 : decode cX3_partUnit 39 = .ok (.return_, 1) := by decide +kernel
theorem dX3_unitHeads_0 : decode cX3_unitHeads 0 = .ok (.iconst 0, 1) := by decide +kernel
theorem dX3_unitHeads_1 : decode cX3_unitHeads 1 = .ok (.istore_n 1, 1) := by decide +kernel
theorem dX3_unitHeads_2 : decode cX3_unitHeads 2 = .ok (.iconst 0, 1) := by decide +kernel
theorem dX3_unitHeads_3 : decode cX3_unitHeads 3 = .ok (.istore_n 2, 1) := by decide +kernel
theorem dX3_unitHeads_4 : decode cX3_unitHeads 4 = .ok (.iload_n 2, 1) := by decide +kernel
theorem dX3_unitHeads_5 : decode cX3_unitHeads 5 = .ok (.bipush 6, 2) := by decide +kernel
theorem dX3_unitHeads_7 : decode cX3_unitHeads 7 = .ok (.if_icmp .ge 37, 3) := by decide +kernel
theorem dX3_unitHeads_10 : decode cX3_unitHeads 10 = .ok (.aload_n 0, 1) := by decide +kernel
theorem dX3_unitHeads_11 : decode cX3_unitHeads 11 = .ok (.getfield 46, 3) := by decide +kernel
theorem dX3_unitHeads_14 : decode cX3_unitHeads 14 = .ok (.iload_n 2, 1) := by decide +kernel
theorem dX3_unitHeads_15 : decode cX3_unitHeads 15 = .ok (.invokestatic 49, 3) := by decide +kernel
theorem dX3_unitHeads_18 : decode cX3_unitHeads 18 = .ok (.ifCond .eq 20, 3) := by decide +kernel
theorem dX3_unitHeads_21 : decode cX3_unitHeads 21 = .ok (.iload_n 1, 1) := by decide +kernel
theorem dX3_unitHeads_22 : decode cX3_unitHeads 22 = .ok (.aload_n 0, 1) := by decide +kernel
theorem dX3_unitHeads_23 : decode cX3_unitHeads 23 = .ok (.getfield 18, 3) := by decide +kernel
theorem dX3_unitHeads_26 : decode cX3_unitHeads 26 = .ok (.iload_n 2, 1) := by decide +kernel
theorem dX3_unitHeads_27 : decode cX3_unitHeads 27 = .ok (.iaload, 1) := by decide +kernel
theorem dX3_unitHeads_28 : decode cX3_unitHeads 28 = .ok (.aload_n 0, 1) := by decide +kernel
theorem dX3_unitHeads_29 : decode cX3_unitHeads 29 = .ok (.getfield 18, 3) := by decide +kernel
theorem dX3_unitHeads_32 : decode cX3_unitHeads 32 = .ok (.iload_n 2, 1) := by decide +kernel
theorem dX3_unitHeads_33 : decode cX3_unitHeads 33 = .ok (.iaload, 1) := by decide +kernel
theorem dX3_unitHeads_34 : decode cX3_unitHeads 34 = .ok (.ineg, 1) := by decide +kernel
theorem dX3_unitHeads_35 : decode cX3_unitHeads 35 = .ok (.iand, 1) := by decide +kernel
theorem dX3_unitHeads_36 : decode cX3_unitHeads 36 = .ok (.ior, 1) := by decide +kernel
theorem dX3_unitHeads_37 : decode cX3_unitHeads 37 = .ok (.istore_n 1, 1) := by decide +kernel
theorem dX3_unitHeads_38 : decode cX3_unitHeads 38 = .ok (.iinc 2 1, 3) := by decide +kernel
theorem dX3_unitHeads_41 : decode cX3_unitHeads 41 = .ok (.goto (-37), 3) := by decide +kernel
theorem dX3_unitHeads_44 : decode cX3_unitHeads 44 = .ok (.iload_n 1, 1) := by decide +kernel
theorem dX3_unitHeads_45 : decode cX3_unitHeads 45 = .ok (.ireturn, 1) := by decide +kernel
theorem dX3_openBroke_0 : decode cX3_openBroke 0 = .ok (.iconst 0, 1) := by decide +kernel
theorem dX3_openBroke_1 : decode cX3_openBroke 1 = .ok (.istore_n 3, 1) := by decide +kernel
theorem dX3_openBroke_2 : decode cX3_openBroke 2 = .ok (.iconst 0, 1) := by decide +kernel
theorem dX3_openBroke_3 : decode cX3_openBroke 3 = .ok (.istore 4, 2) := by decide +kernel
theorem dX3_openBroke_5 : decode cX3_openBroke 5 = .ok (.iload 4, 2) := by decide +kernel
theorem dX3_openBroke_7 : decode cX3_openBroke 7 = .ok (.bipush 6, 2) := by decide +kernel
theorem dX3_openBroke_9 : decode cX3_openBroke 9 = .ok (.if_icmp .ge 47, 3) := by decide +kernel
theorem dX3_openBroke_12 : decode cX3_openBroke 12 = .ok (.aload_n 0, 1) := by decide +kernel
theorem dX3_openBroke_13 : decode cX3_openBroke 13 = .ok (.getfield 46, 3) := by decide +kernel
theorem dX3_openBroke_16 : decode cX3_openBroke 16 = .ok (.iload_n 1, 1) := by decide +kernel
theorem dX3_openBroke_17 : decode cX3_openBroke 17 = .ok (.iconst (-1), 1) := by decide +kernel
theorem dX3_openBroke_18 : decode cX3_openBroke 18 = .ok (.ixor, 1) := by decide +kernel
theorem dX3_openBroke_19 : decode cX3_openBroke 19 = .ok (.iand, 1) := by decide +kernel
theorem dX3_openBroke_20 : decode cX3_openBroke 20 = .ok (.iload 4, 2) := by decide +kernel
theorem dX3_openBroke_22 : decode cX3_openBroke 22 = .ok (.invokestatic 49, 3) := by decide +kernel
theorem dX3_openBroke_25 : decode cX3_openBroke 25 = .ok (.ifCond .eq 25, 3) := by decide +kernel
theorem dX3_openBroke_28 : decode cX3_openBroke 28 = .ok (.aload_n 0, 1) := by decide +kernel
theorem dX3_openBroke_29 : decode cX3_openBroke 29 = .ok (.getfield 18, 3) := by decide +kernel
theorem dX3_openBroke_32 : decode cX3_openBroke 32 = .ok (.iload 4, 2) := by decide +kernel
theorem dX3_openBroke_34 : decode cX3_openBroke 34 = .ok (.iaload, 1) := by decide +kernel
theorem dX3_openBroke_35 : decode cX3_openBroke 35 = .ok (.iload_n 2, 1) := by decide +kernel
theorem dX3_openBroke_36 : decode cX3_openBroke 36 = .ok (.iconst (-1), 1) := by decide +kernel
theorem dX3_openBroke_37 : decode cX3_openBroke 37 = .ok (.ixor, 1) := by decide +kernel
theorem dX3_openBroke_38 : decode cX3_openBroke 38 = .ok (.iand, 1) := by decide +kernel
theorem dX3_openBroke_39 : decode cX3_openBroke 39 = .ok (.ifCond .ne 11, 3) := by decide +kernel
theorem dX3_openBroke_42 : decode cX3_openBroke 42 = .ok (.iload_n 3, 1) := by decide +kernel
theorem dX3_openBroke_43 : decode cX3_openBroke 43 = .ok (.iload 4, 2) := by decide +kernel
theorem dX3_openBroke_45 : decode cX3_openBroke 45 = .ok (.invokestatic 53, 3) := by decide +kernel
theorem dX3_openBroke_48 : decode cX3_openBroke 48 = .ok (.ior, 1) := by decide +kernel
theorem dX3_openBroke_49 : decode cX3_openBroke 49 = .ok (.istore_n 3, 1) := by decide +kernel
theorem dX3_openBroke_50 : decode cX3_openBroke 50 = .ok (.iinc 4 1, 3) := by decide +kernel
theorem dX3_openBroke_53 : decode cX3_openBroke 53 = .ok (.goto (-48), 3) := by decide +kernel
theorem dX3_openBroke_56 : decode cX3_openBroke 56 = .ok (.iload_n 3, 1) := by decide +kernel
theorem dX3_openBroke_57 : decode cX3_openBroke 57 = .ok (.ireturn, 1) := by decide +kernel
theorem dX3_blame_0 : decode cX3_blame 0 = .ok (.aload_n 0, 1) := by decide +kernel
theorem dX3_blame_1 : decode cX3_blame 1 = .ok (.getfield 43, 3) := by decide +kernel
theorem dX3_blame_4 : decode cX3_blame 4 = .ok (.aload_n 0, 1) := by decide +kernel
theorem dX3_blame_5 : decode cX3_blame 5 = .ok (.getfield 46, 3) := by decide +kernel
theorem dX3_blame_8 : decode cX3_blame 8 = .ok (.aload_n 0, 1) := by decide +kernel
theorem dX3_blame_9 : decode cX3_blame 9 = .ok (.getfield 15, 3) := by decide +kernel
theorem dX3_blame_12 : decode cX3_blame 12 = .ok (.invokestatic 82, 3) := by decide +kernel
theorem dX3_blame_15 : decode cX3_blame 15 = .ok (.iadd, 1) := by decide +kernel
theorem dX3_blame_16 : decode cX3_blame 16 = .ok (.ireturn, 1) := by decide +kernel
theorem dX3_blameDown_0 : decode cX3_blameDown 0 = .ok (.aload_n 0, 1) := by decide +kernel
theorem dX3_blameDown_1 : decode cX3_blameDown 1 = .ok (.invokevirtual 210, 3) := by decide +kernel
theorem dX3_blameDown_4 : decode cX3_blameDown 4 = .ok (.iconst 1, 1) := by decide +kernel
theorem dX3_blameDown_5 : decode cX3_blameDown 5 = .ok (.invokestatic 213, 3) := by decide +kernel
theorem dX3_blameDown_8 : decode cX3_blameDown 8 = .ok (.ireturn, 1) := by decide +kernel
theorem dX3_entitledUp_0 : decode cX3_entitledUp 0 = .ok (.aload_n 0, 1) := by decide +kernel
theorem dX3_entitledUp_1 : decode cX3_entitledUp 1 = .ok (.invokevirtual 210, 3) := by decide +kernel
theorem dX3_entitledUp_4 : decode cX3_entitledUp 4 = .ok (.istore_n 1, 1) := by decide +kernel
theorem dX3_entitledUp_5 : decode cX3_entitledUp 5 = .ok (.bipush 100, 2) := by decide +kernel
theorem dX3_entitledUp_7 : decode cX3_entitledUp 7 = .ok (.aload_n 0, 1) := by decide +kernel
theorem dX3_entitledUp_8 : decode cX3_entitledUp 8 = .ok (.getfield 43, 3) := by decide +kernel
theorem dX3_entitledUp_11 : decode cX3_entitledUp 11 = .ok (.imul, 1) := by decide +kernel
theorem dX3_entitledUp_12 : decode cX3_entitledUp 12 = .ok (.aload_n 0, 1) := by decide +kernel
theorem dX3_entitledUp_13 : decode cX3_entitledUp 13 = .ok (.getfield 9, 3) := by decide +kernel
theorem dX3_entitledUp_16 : decode cX3_entitledUp 16 = .ok (.iconst 2, 1) := by decide +kernel
theorem dX3_entitledUp_17 : decode cX3_entitledUp 17 = .ok (.iaload, 1) := by decide +kernel
theorem dX3_entitledUp_18 : decode cX3_entitledUp 18 = .ok (.iload_n 1, 1) := by decide +kernel
theorem dX3_entitledUp_19 : decode cX3_entitledUp 19 = .ok (.imul, 1) := by decide +kernel
theorem dX3_entitledUp_20 : decode cX3_entitledUp 20 = .ok (.if_icmp .le 5, 3) := by decide +kernel
theorem dX3_entitledUp_23 : decode cX3_entitledUp 23 = .ok (.lconst 0, 1) := by decide +kernel
theorem dX3_entitledUp_24 : decode cX3_entitledUp 24 = .ok (.lreturn, 1) := by decide +kernel
theorem dX3_entitledUp_25 : decode cX3_entitledUp 25 = .ok (.aload_n 0, 1) := by decide +kernel
theorem dX3_entitledUp_26 : decode cX3_entitledUp 26 = .ok (.getfield 39, 3) := by decide +kernel
theorem dX3_entitledUp_29 : decode cX3_entitledUp 29 = .ok (.i2l, 1) := by decide +kernel
theorem dX3_entitledUp_30 : decode cX3_entitledUp 30 = .ok (.iload_n 1, 1) := by decide +kernel
theorem dX3_entitledUp_31 : decode cX3_entitledUp 31 = .ok (.aload_n 0, 1) := by decide +kernel
theorem dX3_entitledUp_32 : decode cX3_entitledUp 32 = .ok (.getfield 43, 3) := by decide +kernel
theorem dX3_entitledUp_35 : decode cX3_entitledUp 35 = .ok (.isub, 1) := by decide +kernel
theorem dX3_entitledUp_36 : decode cX3_entitledUp 36 = .ok (.i2l, 1) := by decide +kernel
theorem dX3_entitledUp_37 : decode cX3_entitledUp 37 = .ok (.lmul, 1) := by decide +kernel
theorem dX3_entitledUp_38 : decode cX3_entitledUp 38 = .ok (.lreturn, 1) := by decide +kernel
theorem dX3_creditUp_0 : decode cX3_creditUp 0 = .ok (.aload_n 0, 1) := by decide +kernel
theorem dX3_creditUp_1 : decode cX3_creditUp 1 = .ok (.getfield 21, 3) := by decide +kernel
theorem dX3_creditUp_4 : decode cX3_creditUp 4 = .ok (.iload_n 1, 1) := by decide +kernel
theorem dX3_creditUp_5 : decode cX3_creditUp 5 = .ok (.iaload, 1) := by decide +kernel
theorem dX3_creditUp_6 : decode cX3_creditUp 6 = .ok (.i2l, 1) := by decide +kernel
theorem dX3_creditUp_7 : decode cX3_creditUp 7 = .ok (.iload_n 3, 1) := by decide +kernel
theorem dX3_creditUp_8 : decode cX3_creditUp 8 = .ok (.i2l, 1) := by decide +kernel
theorem dX3_creditUp_9 : decode cX3_creditUp 9 = .ok (.lmul, 1) := by decide +kernel
theorem dX3_creditUp_10 : decode cX3_creditUp 10 = .ok (.lstore 4, 2) := by decide +kernel
theorem dX3_creditUp_12 : decode cX3_creditUp 12 = .ok (.aload_n 0, 1) := by decide +kernel
theorem dX3_creditUp_13 : decode cX3_creditUp 13 = .ok (.getfield 39, 3) := by decide +kernel
theorem dX3_creditUp_16 : decode cX3_creditUp 16 = .ok (.i2l, 1) := by decide +kernel
theorem dX3_creditUp_17 : decode cX3_creditUp 17 = .ok (.aload_n 0, 1) := by decide +kernel
theorem dX3_creditUp_18 : decode cX3_creditUp 18 = .ok (.getfield 18, 3) := by decide +kernel
theorem dX3_creditUp_21 : decode cX3_creditUp 21 = .ok (.iload_n 1, 1) := by decide +kernel
theorem dX3_creditUp_22 : decode cX3_creditUp 22 = .ok (.iaload, 1) := by decide +kernel
theorem dX3_creditUp_23 : decode cX3_creditUp 23 = .ok (.aload_n 0, 1) := by decide +kernel
theorem dX3_creditUp_24 : decode cX3_creditUp 24 = .ok (.getfield 15, 3) := by decide +kernel
theorem dX3_creditUp_27 : decode cX3_creditUp 27 = .ok (.invokestatic 82, 3) := by decide +kernel
theorem dX3_creditUp_30 : decode cX3_creditUp 30 = .ok (.i2l, 1) := by decide +kernel
theorem dX3_creditUp_31 : decode cX3_creditUp 31 = .ok (.lmul, 1) := by decide +kernel
theorem dX3_creditUp_32 : decode cX3_creditUp 32 = .ok (.lstore 6, 2) := by decide +kernel
theorem dX3_creditUp_34 : decode cX3_creditUp 34 = .ok (.iload_n 2, 1) := by decide +kernel
theorem dX3_creditUp_35 : decode cX3_creditUp 35 = .ok (.ifCond .ne 6, 3) := by decide +kernel
theorem dX3_creditUp_38 : decode cX3_creditUp 38 = .ok (.lload 4, 2) := by decide +kernel
theorem dX3_creditUp_40 : decode cX3_creditUp 40 = .ok (.lreturn, 1) := by decide +kernel
theorem dX3_creditUp_41 : decode cX3_creditUp 41 = .ok (.iload_n 2, 1) := by decide +kernel
theorem dX3_creditUp_42 : decode cX3_creditUp 42 = .ok (.iconst 1, 1) := by decide +kernel
theorem dX3_creditUp_43 : decode cX3_creditUp 43 = .ok (.if_icmp .ne 8, 3) := by decide +kernel
theorem dX3_creditUp_46 : decode cX3_creditUp 46 = .ok (.lload 6, 2) := by decide +kernel
theorem dX3_creditUp_48 : decode cX3_creditUp 48 = .ok (.goto 10, 3) := by decide +kernel
theorem dX3_creditUp_51 : decode cX3_creditUp 51 = .ok (.lload 4, 2) := by decide +kernel
theorem dX3_creditUp_53 : decode cX3_creditUp 53 = .ok (.lload 6, 2) := by decide +kernel
theorem dX3_creditUp_55 : decode cX3_creditUp 55 = .ok (.invokestatic 218, 3) := by decide +kernel
theorem dX3_creditUp_58 : decode cX3_creditUp 58 = .ok (.lreturn, 1) := by decide +kernel
theorem dX3_creditsUp_0 : decode cX3_creditsUp 0 = .ok (.aload_n 0, 1) := by decide +kernel
theorem dX3_creditsUp_1 : decode cX3_creditsUp 1 = .ok (.invokevirtual 204, 3) := by decide +kernel
theorem dX3_creditsUp_4 : decode cX3_creditsUp 4 = .ok (.iload_n 2, 1) := by decide +kernel
theorem dX3_creditsUp_5 : decode cX3_creditsUp 5 = .ok (.iand, 1) := by decide +kernel
theorem dX3_creditsUp_6 : decode cX3_creditsUp 6 = .ok (.istore 4, 2) := by decide +kernel
theorem dX3_creditsUp_8 : decode cX3_creditsUp 8 = .ok (.lconst 0, 1) := by decide +kernel
theorem dX3_creditsUp_9 : decode cX3_creditsUp 9 = .ok (.lstore 5, 2) := by decide +kernel
theorem dX3_creditsUp_11 : decode cX3_creditsUp 11 = .ok (.iconst 0, 1) := by decide +kernel
theorem dX3_creditsUp_12 : decode cX3_creditsUp 12 = .ok (.istore 7, 2) := by decide +kernel
theorem dX3_creditsUp_14 : decode cX3_creditsUp 14 = .ok (.iload 7, 2) := by decide +kernel
theorem dX3_creditsUp_16 : decode cX3_creditsUp 16 = .ok (.bipush 6, 2) := by decide +kernel
theorem dX3_creditsUp_18 : decode cX3_creditsUp 18 = .ok (.if_icmp .ge 32, 3) := by decide +kernel
theorem dX3_creditsUp_21 : decode cX3_creditsUp 21 = .ok (.iload 4, 2) := by decide +kernel
theorem dX3_creditsUp_23 : decode cX3_creditsUp 23 = .ok (.iload 7, 2) := by decide +kernel
theorem dX3_creditsUp_25 : decode cX3_creditsUp 25 = .ok (.invokestatic 49, 3) := by decide +kernel
theorem dX3_creditsUp_28 : decode cX3_creditsUp 28 = .ok (.ifCond .eq 16, 3) := by decide +kernel
theorem dX3_creditsUp_31 : decode cX3_creditsUp 31 = .ok (.lload 5, 2) := by decide +kernel
theorem dX3_creditsUp_33 : decode cX3_creditsUp 33 = .ok (.aload_n 0, 1) := by decide +kernel
theorem dX3_creditsUp_34 : decode cX3_creditsUp 34 = .ok (.iload 7, 2) := by decide +kernel
theorem dX3_creditsUp_36 : decode cX3_creditsUp 36 = .ok (.iload_n 1, 1) := by decide +kernel
theorem dX3_creditsUp_37 : decode cX3_creditsUp 37 = .ok (.iload_n 3, 1) := by decide +kernel
theorem dX3_creditsUp_38 : decode cX3_creditsUp 38 = .ok (.invokevirtual 130, 3) := by decide +kernel
theorem dX3_creditsUp_41 : decode cX3_creditsUp 41 = .ok (.ladd, 1) := by decide +kernel
theorem dX3_creditsUp_42 : decode cX3_creditsUp 42 = .ok (.lstore 5, 2) := by decide +kernel
theorem dX3_creditsUp_44 : decode cX3_creditsUp 44 = .ok (.iinc 7 1, 3) := by decide +kernel
theorem dX3_creditsUp_47 : decode cX3_creditsUp 47 = .ok (.goto (-33), 3) := by decide +kernel
theorem dX3_creditsUp_50 : decode cX3_creditsUp 50 = .ok (.lload 5, 2) := by decide +kernel
theorem dX3_creditsUp_52 : decode cX3_creditsUp 52 = .ok (.lreturn, 1) := by decide +kernel
theorem dX3_owedNow_0 : decode cX3_owedNow 0 = .ok (.aload_n 0, 1) := by decide +kernel
theorem dX3_owedNow_1 : decode cX3_owedNow 1 = .ok (.aload_n 0, 1) := by decide +kernel
theorem dX3_owedNow_2 : decode cX3_owedNow 2 = .ok (.getfield 9, 3) := by decide +kernel
theorem dX3_owedNow_5 : decode cX3_owedNow 5 = .ok (.iconst 0, 1) := by decide +kernel
theorem dX3_owedNow_6 : decode cX3_owedNow 6 = .ok (.iaload, 1) := by decide +kernel
theorem dX3_owedNow_7 : decode cX3_owedNow 7 = .ok (.aload_n 0, 1) := by decide +kernel
theorem dX3_owedNow_8 : decode cX3_owedNow 8 = .ok (.getfield 9, 3) := by decide +kernel
theorem dX3_owedNow_11 : decode cX3_owedNow 11 = .ok (.iconst 1, 1) := by decide +kernel
theorem dX3_owedNow_12 : decode cX3_owedNow 12 = .ok (.iaload, 1) := by decide +kernel
theorem dX3_owedNow_13 : decode cX3_owedNow 13 = .ok (.aload_n 0, 1) := by decide +kernel
theorem dX3_owedNow_14 : decode cX3_owedNow 14 = .ok (.getfield 79, 3) := by decide +kernel
theorem dX3_owedNow_17 : decode cX3_owedNow 17 = .ok (.aload_n 0, 1) := by decide +kernel
theorem dX3_owedNow_18 : decode cX3_owedNow 18 = .ok (.getfield 68, 3) := by decide +kernel
theorem dX3_owedNow_21 : decode cX3_owedNow 21 = .ok (.invokevirtual 164, 3) := by decide +kernel
theorem dX3_owedNow_24 : decode cX3_owedNow 24 = .ok (.areturn, 1) := by decide +kernel
theorem dX3_owedIf_0 : decode cX3_owedIf 0 = .ok (.aload_n 0, 1) := by decide +kernel
theorem dX3_owedIf_1 : decode cX3_owedIf 1 = .ok (.getfield 46, 3) := by decide +kernel
theorem dX3_owedIf_4 : decode cX3_owedIf 4 = .ok (.iload_n 3, 1) := by decide +kernel
theorem dX3_owedIf_5 : decode cX3_owedIf 5 = .ok (.iconst (-1), 1) := by decide +kernel
theorem dX3_owedIf_6 : decode cX3_owedIf 6 = .ok (.ixor, 1) := by decide +kernel
theorem dX3_owedIf_7 : decode cX3_owedIf 7 = .ok (.iand, 1) := by decide +kernel
theorem dX3_owedIf_8 : decode cX3_owedIf 8 = .ok (.aload_n 0, 1) := by decide +kernel
theorem dX3_owedIf_9 : decode cX3_owedIf 9 = .ok (.getfield 15, 3) := by decide +kernel
theorem dX3_owedIf_12 : decode cX3_owedIf 12 = .ok (.invokestatic 82, 3) := by decide +kernel
theorem dX3_owedIf_15 : decode cX3_owedIf 15 = .ok (.istore 5, 2) := by decide +kernel
theorem dX3_owedIf_17 : decode cX3_owedIf 17 = .ok (.aload_n 0, 1) := by decide +kernel
theorem dX3_owedIf_18 : decode cX3_owedIf 18 = .ok (.iload_n 3, 1) := by decide +kernel
theorem dX3_owedIf_19 : decode cX3_owedIf 19 = .ok (.iload 4, 2) := by decide +kernel
theorem dX3_owedIf_21 : decode cX3_owedIf 21 = .ok (.invokevirtual 207, 3) := by decide +kernel
theorem dX3_owedIf_24 : decode cX3_owedIf 24 = .ok (.aload_n 0, 1) := by decide +kernel
theorem dX3_owedIf_25 : decode cX3_owedIf 25 = .ok (.getfield 15, 3) := by decide +kernel
theorem dX3_owedIf_28 : decode cX3_owedIf 28 = .ok (.invokestatic 82, 3) := by decide +kernel
theorem dX3_owedIf_31 : decode cX3_owedIf 31 = .ok (.istore 6, 2) := by decide +kernel
theorem dX3_owedIf_33 : decode cX3_owedIf 33 = .ok (.iconst 0, 1) := by decide +kernel
theorem dX3_owedIf_34 : decode cX3_owedIf 34 = .ok (.istore 7, 2) := by decide +kernel
theorem dX3_owedIf_36 : decode cX3_owedIf 36 = .ok (.iload_n 2, 1) := by decide +kernel
theorem dX3_owedIf_37 : decode cX3_owedIf 37 = .ok (.ifCond .ne 13, 3) := by decide +kernel
theorem dX3_owedIf_40 : decode cX3_owedIf 40 = .ok (.iload 5, 2) := by decide +kernel
theorem dX3_owedIf_42 : decode cX3_owedIf 42 = .ok (.iload 6, 2) := by decide +kernel
theorem dX3_owedIf_44 : decode cX3_owedIf 44 = .ok (.isub, 1) := by decide +kernel
theorem dX3_owedIf_45 : decode cX3_owedIf 45 = .ok (.istore 7, 2) := by decide +kernel
theorem dX3_owedIf_47 : decode cX3_owedIf 47 = .ok (.goto 20, 3) := by decide +kernel
theorem dX3_owedIf_50 : decode cX3_owedIf 50 = .ok (.iload_n 2, 1) := by decide +kernel
theorem dX3_owedIf_51 : decode cX3_owedIf 51 = .ok (.iconst 1, 1) := by decide +kernel
theorem dX3_owedIf_52 : decode cX3_owedIf 52 = .ok (.if_icmp .ne 15, 3) := by decide +kernel
theorem dX3_owedIf_55 : decode cX3_owedIf 55 = .ok (.iload 5, 2) := by decide +kernel
theorem dX3_owedIf_57 : decode cX3_owedIf 57 = .ok (.iload 6, 2) := by decide +kernel
theorem dX3_owedIf_59 : decode cX3_owedIf 59 = .ok (.isub, 1) := by decide +kernel
theorem dX3_owedIf_60 : decode cX3_owedIf 60 = .ok (.aload_n 0, 1) := by decide +kernel
theorem dX3_owedIf_61 : decode cX3_owedIf 61 = .ok (.getfield 43, 3) := by decide +kernel
theorem dX3_owedIf_64 : decode cX3_owedIf 64 = .ok (.iadd, 1) := by decide +kernel
theorem dX3_owedIf_65 : decode cX3_owedIf 65 = .ok (.istore 7, 2) := by decide +kernel
theorem dX3_owedIf_67 : decode cX3_owedIf 67 = .ok (.aload_n 0, 1) := by decide +kernel
theorem dX3_owedIf_68 : decode cX3_owedIf 68 = .ok (.invokevirtual 126, 3) := by decide +kernel
theorem dX3_owedIf_71 : decode cX3_owedIf 71 = .ok (.istore 8, 2) := by decide +kernel
theorem dX3_owedIf_73 : decode cX3_owedIf 73 = .ok (.new 103, 3) := by decide +kernel
theorem dX3_owedIf_76 : decode cX3_owedIf 76 = .ok (.dup, 1) := by decide +kernel
theorem dX3_owedIf_77 : decode cX3_owedIf 77 = .ok (.aload_n 0, 1) := by decide +kernel
theorem dX3_owedIf_78 : decode cX3_owedIf 78 = .ok (.invokevirtual 221, 3) := by decide +kernel
theorem dX3_owedIf_81 : decode cX3_owedIf 81 = .ok (.aload_n 0, 1) := by decide +kernel
theorem dX3_owedIf_82 : decode cX3_owedIf 82 = .ok (.iload_n 1, 1) := by decide +kernel
theorem dX3_owedIf_83 : decode cX3_owedIf 83 = .ok (.iload_n 3, 1) := by decide +kernel
theorem dX3_owedIf_84 : decode cX3_owedIf 84 = .ok (.iload 8, 2) := by decide +kernel
theorem dX3_owedIf_86 : decode cX3_owedIf 86 = .ok (.invokevirtual 225, 3) := by decide +kernel
theorem dX3_owedIf_89 : decode cX3_owedIf 89 = .ok (.iload 8, 2) := by decide +kernel
theorem dX3_owedIf_91 : decode cX3_owedIf 91 = .ok (.i2l, 1) := by decide +kernel
theorem dX3_owedIf_92 : decode cX3_owedIf 92 = .ok (.iload 5, 2) := by decide +kernel
theorem dX3_owedIf_94 : decode cX3_owedIf 94 = .ok (.iload 6, 2) := by decide +kernel
theorem dX3_owedIf_96 : decode cX3_owedIf 96 = .ok (.iload 7, 2) := by decide +kernel
theorem dX3_owedIf_98 : decode cX3_owedIf 98 = .ok (.invokespecial 228, 3) := by decide +kernel
theorem dX3_owedIf_101 : decode cX3_owedIf 101 = .ok (.areturn, 1) := by decide +kernel
theorem dX3_gotBy_0 : decode cX3_gotBy 0 = .ok (.aload_n 0, 1) := by decide +kernel
theorem dX3_gotBy_1 : decode cX3_gotBy 1 = .ok (.iload_n 1, 1) := by decide +kernel
theorem dX3_gotBy_2 : decode cX3_gotBy 2 = .ok (.iload_n 2, 1) := by decide +kernel
theorem dX3_gotBy_3 : decode cX3_gotBy 3 = .ok (.aload_n 0, 1) := by decide +kernel
theorem dX3_gotBy_4 : decode cX3_gotBy 4 = .ok (.getfield 79, 3) := by decide +kernel
theorem dX3_gotBy_7 : decode cX3_gotBy 7 = .ok (.aload_n 0, 1) := by decide +kernel
theorem dX3_gotBy_8 : decode cX3_gotBy 8 = .ok (.getfield 68, 3) := by decide +kernel
theorem dX3_gotBy_11 : decode cX3_gotBy 11 = .ok (.invokevirtual 164, 3) := by decide +kernel
theorem dX3_gotBy_14 : decode cX3_gotBy 14 = .ok (.astore_n 3, 1) := by decide +kernel
theorem dX3_gotBy_15 : decode cX3_gotBy 15 = .ok (.aload_n 3, 1) := by decide +kernel
theorem dX3_gotBy_16 : decode cX3_gotBy 16 = .ok (.getfield 123, 3) := by decide +kernel
theorem dX3_gotBy_19 : decode cX3_gotBy 19 = .ok (.aload_n 0, 1) := by decide +kernel
theorem dX3_gotBy_20 : decode cX3_gotBy 20 = .ok (.invokevirtual 204, 3) := by decide +kernel
theorem dX3_gotBy_23 : decode cX3_gotBy 23 = .ok (.aload_n 0, 1) := by decide +kernel
theorem dX3_gotBy_24 : decode cX3_gotBy 24 = .ok (.getfield 79, 3) := by decide +kernel
theorem dX3_gotBy_27 : decode cX3_gotBy 27 = .ok (.iand, 1) := by decide +kernel
theorem dX3_gotBy_28 : decode cX3_gotBy 28 = .ok (.aload_n 0, 1) := by decide +kernel
theorem dX3_gotBy_29 : decode cX3_gotBy 29 = .ok (.getfield 21, 3) := by decide +kernel
theorem dX3_gotBy_32 : decode cX3_gotBy 32 = .ok (.invokestatic 82, 3) := by decide +kernel
theorem dX3_gotBy_35 : decode cX3_gotBy 35 = .ok (.i2l, 1) := by decide +kernel
theorem dX3_gotBy_36 : decode cX3_gotBy 36 = .ok (.invokevirtual 168, 3) := by decide +kernel
theorem dX3_gotBy_39 : decode cX3_gotBy 39 = .ok (.areturn, 1) := by decide +kernel
theorem dX3_unitBears_0 : decode cX3_unitBears 0 = .ok (.iload_n 2, 1) := by decide +kernel
theorem dX3_unitBears_1 : decode cX3_unitBears 1 = .ok (.iload_n 1, 1) := by decide +kernel
theorem dX3_unitBears_2 : decode cX3_unitBears 2 = .ok (.invokestatic 49, 3) := by decide +kernel
theorem dX3_unitBears_5 : decode cX3_unitBears 5 = .ok (.ifCond .ne 23, 3) := by decide +kernel
theorem dX3_unitBears_8 : decode cX3_unitBears 8 = .ok (.aload_n 0, 1) := by decide +kernel
theorem dX3_unitBears_9 : decode cX3_unitBears 9 = .ok (.iload_n 2, 1) := by decide +kernel
theorem dX3_unitBears_10 : decode cX3_unitBears 10 = .ok (.aload_n 0, 1) := by decide +kernel
theorem dX3_unitBears_11 : decode cX3_unitBears 11 = .ok (.getfield 68, 3) := by decide +kernel
theorem dX3_unitBears_14 : decode cX3_unitBears 14 = .ok (.invokevirtual 207, 3) := by decide +kernel
theorem dX3_unitBears_17 : decode cX3_unitBears 17 = .ok (.iload_n 1, 1) := by decide +kernel
theorem dX3_unitBears_18 : decode cX3_unitBears 18 = .ok (.invokestatic 49, 3) := by decide +kernel
theorem dX3_unitBears_21 : decode cX3_unitBears 21 = .ok (.ifCond .ne 7, 3) := by decide +kernel
theorem dX3_unitBears_24 : decode cX3_unitBears 24 = .ok (.iconst 1, 1) := by decide +kernel
theorem dX3_unitBears_25 : decode cX3_unitBears 25 = .ok (.goto 4, 3) := by decide +kernel
theorem dX3_unitBears_28 : decode cX3_unitBears 28 = .ok (.iconst 0, 1) := by decide +kernel
theorem dX3_unitBears_29 : decode cX3_unitBears 29 = .ok (.istore_n 3, 1) := by decide +kernel
theorem dX3_unitBears_30 : decode cX3_unitBears 30 = .ok (.iload_n 3, 1) := by decide +kernel
theorem dX3_unitBears_31 : decode cX3_unitBears 31 = .ok (.ifCond .eq 19, 3) := by decide +kernel
theorem dX3_unitBears_34 : decode cX3_unitBears 34 = .ok (.aload_n 0, 1) := by decide +kernel
theorem dX3_unitBears_35 : decode cX3_unitBears 35 = .ok (.getfield 18, 3) := by decide +kernel
theorem dX3_unitBears_38 : decode cX3_unitBears 38 = .ok (.iload_n 1, 1) := by decide +kernel
theorem dX3_unitBears_39 : decode cX3_unitBears 39 = .ok (.iaload, 1) := by decide +kernel
theorem dX3_unitBears_40 : decode cX3_unitBears 40 = .ok (.aload_n 0, 1) := by decide +kernel
theorem dX3_unitBears_41 : decode cX3_unitBears 41 = .ok (.getfield 15, 3) := by decide +kernel
theorem dX3_unitBears_44 : decode cX3_unitBears 44 = .ok (.invokestatic 82, 3) := by decide +kernel
theorem dX3_unitBears_47 : decode cX3_unitBears 47 = .ok (.goto 4, 3) := by decide +kernel
theorem dX3_unitBears_50 : decode cX3_unitBears 50 = .ok (.iconst 0, 1) := by decide +kernel
theorem dX3_unitBears_51 : decode cX3_unitBears 51 = .ok (.ireturn, 1) := by decide +kernel
theorem dX3_bears_0 : decode cX3_bears 0 = .ok (.aload_n 0, 1) := by decide +kernel
theorem dX3_bears_1 : decode cX3_bears 1 = .ok (.getfield 79, 3) := by decide +kernel
theorem dX3_bears_4 : decode cX3_bears 4 = .ok (.aload_n 0, 1) := by decide +kernel
theorem dX3_bears_5 : decode cX3_bears 5 = .ok (.getfield 68, 3) := by decide +kernel
theorem dX3_bears_8 : decode cX3_bears 8 = .ok (.ior, 1) := by decide +kernel
theorem dX3_bears_9 : decode cX3_bears 9 = .ok (.iload_n 1, 1) := by decide +kernel
theorem dX3_bears_10 : decode cX3_bears 10 = .ok (.invokestatic 49, 3) := by decide +kernel
theorem dX3_bears_13 : decode cX3_bears 13 = .ok (.ifCond .eq 5, 3) := by decide +kernel
theorem dX3_bears_16 : decode cX3_bears 16 = .ok (.iconst 0, 1) := by decide +kernel
theorem dX3_bears_17 : decode cX3_bears 17 = .ok (.ireturn, 1) := by decide +kernel
theorem dX3_bears_18 : decode cX3_bears 18 = .ok (.aload_n 0, 1) := by decide +kernel
theorem dX3_bears_19 : decode cX3_bears 19 = .ok (.getfield 18, 3) := by decide +kernel
theorem dX3_bears_22 : decode cX3_bears 22 = .ok (.iload_n 1, 1) := by decide +kernel
theorem dX3_bears_23 : decode cX3_bears 23 = .ok (.iaload, 1) := by decide +kernel
theorem dX3_bears_24 : decode cX3_bears 24 = .ok (.aload_n 0, 1) := by decide +kernel
theorem dX3_bears_25 : decode cX3_bears 25 = .ok (.getfield 68, 3) := by decide +kernel
theorem dX3_bears_28 : decode cX3_bears 28 = .ok (.iand, 1) := by decide +kernel
theorem dX3_bears_29 : decode cX3_bears 29 = .ok (.ifCond .eq 7, 3) := by decide +kernel
theorem dX3_bears_32 : decode cX3_bears 32 = .ok (.iconst 1, 1) := by decide +kernel
theorem dX3_bears_33 : decode cX3_bears 33 = .ok (.goto 4, 3) := by decide +kernel
theorem dX3_bears_36 : decode cX3_bears 36 = .ok (.iconst 0, 1) := by decide +kernel
theorem dX3_bears_37 : decode cX3_bears 37 = .ok (.istore_n 2, 1) := by decide +kernel
theorem dX3_bears_38 : decode cX3_bears 38 = .ok (.iload_n 2, 1) := by decide +kernel
theorem dX3_bears_39 : decode cX3_bears 39 = .ok (.ifCond .eq 19, 3) := by decide +kernel
theorem dX3_bears_42 : decode cX3_bears 42 = .ok (.aload_n 0, 1) := by decide +kernel
theorem dX3_bears_43 : decode cX3_bears 43 = .ok (.getfield 18, 3) := by decide +kernel
theorem dX3_bears_46 : decode cX3_bears 46 = .ok (.iload_n 1, 1) := by decide +kernel
theorem dX3_bears_47 : decode cX3_bears 47 = .ok (.iaload, 1) := by decide +kernel
theorem dX3_bears_48 : decode cX3_bears 48 = .ok (.aload_n 0, 1) := by decide +kernel
theorem dX3_bears_49 : decode cX3_bears 49 = .ok (.getfield 15, 3) := by decide +kernel
theorem dX3_bears_52 : decode cX3_bears 52 = .ok (.invokestatic 82, 3) := by decide +kernel
theorem dX3_bears_55 : decode cX3_bears 55 = .ok (.goto 9, 3) := by decide +kernel
theorem dX3_bears_58 : decode cX3_bears 58 = .ok (.aload_n 0, 1) := by decide +kernel
theorem dX3_bears_59 : decode cX3_bears 59 = .ok (.getfield 15, 3) := by decide +kernel
theorem dX3_bears_62 : decode cX3_bears 62 = .ok (.iload_n 1, 1) := by decide +kernel
theorem dX3_bears_63 : decode cX3_bears 63 = .ok (.iaload, 1) := by decide +kernel
theorem dX3_bears_64 : decode cX3_bears 64 = .ok (.ireturn, 1) := by decide +kernel
theorem dX3_allPaid_0 : decode cX3_allPaid 0 = .ok (.aload_n 0, 1) := by decide +kernel
theorem dX3_allPaid_1 : decode cX3_allPaid 1 = .ok (.getfield 46, 3) := by decide +kernel
theorem dX3_allPaid_4 : decode cX3_allPaid 4 = .ok (.aload_n 0, 1) := by decide +kernel
theorem dX3_allPaid_5 : decode cX3_allPaid 5 = .ok (.getfield 24, 3) := by decide +kernel
theorem dX3_allPaid_8 : decode cX3_allPaid 8 = .ok (.invokestatic 82, 3) := by decide +kernel
theorem dX3_allPaid_11 : decode cX3_allPaid 11 = .ok (.ireturn, 1) := by decide +kernel
theorem dX3_fairUp_0 : decode cX3_fairUp 0 = .ok (.aload_n 2, 1) := by decide +kernel
theorem dX3_fairUp_1 : decode cX3_fairUp 1 = .ok (.getfield 123, 3) := by decide +kernel
theorem dX3_fairUp_4 : decode cX3_fairUp 4 = .ok (.getfield 160, 3) := by decide +kernel
theorem dX3_fairUp_7 : decode cX3_fairUp 7 = .ok (.lconst 0, 1) := by decide +kernel
theorem dX3_fairUp_8 : decode cX3_fairUp 8 = .ok (.lcmp, 1) := by decide +kernel
theorem dX3_fairUp_9 : decode cX3_fairUp 9 = .ok (.ifCond .ne 7, 3) := by decide +kernel
theorem dX3_fairUp_12 : decode cX3_fairUp 12 = .ok (.lconst 0, 1) := by decide +kernel
theorem dX3_fairUp_13 : decode cX3_fairUp 13 = .ok (.goto 15, 3) := by decide +kernel
theorem dX3_fairUp_16 : decode cX3_fairUp 16 = .ok (.aload_n 0, 1) := by decide +kernel
theorem dX3_fairUp_17 : decode cX3_fairUp 17 = .ok (.invokevirtual 171, 3) := by decide +kernel
theorem dX3_fairUp_20 : decode cX3_fairUp 20 = .ok (.i2l, 1) := by decide +kernel
theorem dX3_fairUp_21 : decode cX3_fairUp 21 = .ok (.aload_n 0, 1) := by decide +kernel
theorem dX3_fairUp_22 : decode cX3_fairUp 22 = .ok (.iload_n 1, 1) := by decide +kernel
theorem dX3_fairUp_23 : decode cX3_fairUp 23 = .ok (.invokevirtual 149, 3) := by decide +kernel
theorem dX3_fairUp_26 : decode cX3_fairUp 26 = .ok (.i2l, 1) := by decide +kernel
theorem dX3_fairUp_27 : decode cX3_fairUp 27 = .ok (.lmul, 1) := by decide +kernel
theorem dX3_fairUp_28 : decode cX3_fairUp 28 = .ok (.lreturn, 1) := by decide +kernel
theorem dX3_overUp_0 : decode cX3_overUp 0 = .ok (.aload_n 0, 1) := by decide +kernel
theorem dX3_overUp_1 : decode cX3_overUp 1 = .ok (.getfield 24, 3) := by decide +kernel
theorem dX3_overUp_4 : decode cX3_overUp 4 = .ok (.iload_n 1, 1) := by decide +kernel
theorem dX3_overUp_5 : decode cX3_overUp 5 = .ok (.iaload, 1) := by decide +kernel
theorem dX3_overUp_6 : decode cX3_overUp 6 = .ok (.i2l, 1) := by decide +kernel
theorem dX3_overUp_7 : decode cX3_overUp 7 = .ok (.aload_n 2, 1) := by decide +kernel
theorem dX3_overUp_8 : decode cX3_overUp 8 = .ok (.getfield 178, 3) := by decide +kernel
theorem dX3_overUp_11 : decode cX3_overUp 11 = .ok (.lmul, 1) := by decide +kernel
theorem dX3_overUp_12 : decode cX3_overUp 12 = .ok (.aload_n 0, 1) := by decide +kernel
theorem dX3_overUp_13 : decode cX3_overUp 13 = .ok (.iload_n 1, 1) := by decide +kernel
theorem dX3_overUp_14 : decode cX3_overUp 14 = .ok (.aload_n 2, 1) := by decide +kernel
theorem dX3_overUp_15 : decode cX3_overUp 15 = .ok (.invokevirtual 174, 3) := by decide +kernel
theorem dX3_overUp_18 : decode cX3_overUp 18 = .ok (.lsub, 1) := by decide +kernel
theorem dX3_overUp_19 : decode cX3_overUp 19 = .ok (.lreturn, 1) := by decide +kernel
theorem dX3_evenOut_0 : decode cX3_evenOut 0 = .ok (.iconst 0, 1) := by decide +kernel
theorem dX3_evenOut_1 : decode cX3_evenOut 1 = .ok (.istore_n 2, 1) := by decide +kernel
theorem dX3_evenOut_2 : decode cX3_evenOut 2 = .ok (.iload_n 2, 1) := by decide +kernel
theorem dX3_evenOut_3 : decode cX3_evenOut 3 = .ok (.bipush 6, 2) := by decide +kernel
theorem dX3_evenOut_5 : decode cX3_evenOut 5 = .ok (.if_icmp .ge 36, 3) := by decide +kernel
theorem dX3_evenOut_8 : decode cX3_evenOut 8 = .ok (.aload_n 0, 1) := by decide +kernel
theorem dX3_evenOut_9 : decode cX3_evenOut 9 = .ok (.getfield 30, 3) := by decide +kernel
theorem dX3_evenOut_12 : decode cX3_evenOut 12 = .ok (.getfield 231, 3) := by decide +kernel
theorem dX3_evenOut_15 : decode cX3_evenOut 15 = .ok (.iload_n 2, 1) := by decide +kernel
theorem dX3_evenOut_16 : decode cX3_evenOut 16 = .ok (.aload_n 0, 1) := by decide +kernel
theorem dX3_evenOut_17 : decode cX3_evenOut 17 = .ok (.iload_n 2, 1) := by decide +kernel
theorem dX3_evenOut_18 : decode cX3_evenOut 18 = .ok (.invokevirtual 57, 3) := by decide +kernel
theorem dX3_evenOut_21 : decode cX3_evenOut 21 = .ok (.ifCond .eq 12, 3) := by decide +kernel
theorem dX3_evenOut_24 : decode cX3_evenOut 24 = .ok (.aload_n 0, 1) := by decide +kernel
theorem dX3_evenOut_25 : decode cX3_evenOut 25 = .ok (.iload_n 2, 1) := by decide +kernel
theorem dX3_evenOut_26 : decode cX3_evenOut 26 = .ok (.aload_n 1, 1) := by decide +kernel
theorem dX3_evenOut_27 : decode cX3_evenOut 27 = .ok (.invokevirtual 181, 3) := by decide +kernel
theorem dX3_evenOut_30 : decode cX3_evenOut 30 = .ok (.goto 4, 3) := by decide +kernel
theorem dX3_evenOut_33 : decode cX3_evenOut 33 = .ok (.lconst 0, 1) := by decide +kernel
theorem dX3_evenOut_34 : decode cX3_evenOut 34 = .ok (.lastore, 1) := by decide +kernel
theorem dX3_evenOut_35 : decode cX3_evenOut 35 = .ok (.iinc 2 1, 3) := by decide +kernel
theorem dX3_evenOut_38 : decode cX3_evenOut 38 = .ok (.goto (-36), 3) := by decide +kernel
theorem dX3_evenOut_41 : decode cX3_evenOut 41 = .ok (.aload_n 0, 1) := by decide +kernel
theorem dX3_evenOut_42 : decode cX3_evenOut 42 = .ok (.getfield 30, 3) := by decide +kernel
theorem dX3_evenOut_45 : decode cX3_evenOut 45 = .ok (.invokevirtual 234, 3) := by decide +kernel
theorem dX3_evenOut_48 : decode cX3_evenOut 48 = .ok (.return_, 1) := by decide +kernel
theorem dX4_init_0 : decode cX4_init 0 = .ok (.aload_n 0, 1) := by decide +kernel
theorem dX4_init_1 : decode cX4_init 1 = .ok (.invokespecial 1, 3) := by decide +kernel
theorem dX4_init_4 : decode cX4_init 4 = .ok (.aload_n 0, 1) := by decide +kernel
theorem dX4_init_5 : decode cX4_init 5 = .ok (.lconst 1, 1) := by decide +kernel
theorem dX4_init_6 : decode cX4_init 6 = .ok (.putfield 7, 3) := by decide +kernel
theorem dX4_init_9 : decode cX4_init 9 = .ok (.aload_n 0, 1) := by decide +kernel
theorem dX4_init_10 : decode cX4_init 10 = .ok (.iconst 3, 1) := by decide +kernel
theorem dX4_init_11 : decode cX4_init 11 = .ok (.newarray .int, 2) := by decide +kernel
theorem dX4_init_13 : decode cX4_init 13 = .ok (.putfield 13, 3) := by decide +kernel
theorem dX4_init_16 : decode cX4_init 16 = .ok (.aload_n 0, 1) := by decide +kernel
theorem dX4_init_17 : decode cX4_init 17 = .ok (.bipush 6, 2) := by decide +kernel
theorem dX4_init_19 : decode cX4_init 19 = .ok (.newarray .boolean, 2) := by decide +kernel
theorem dX4_init_21 : decode cX4_init 21 = .ok (.putfield 17, 3) := by decide +kernel
theorem dX4_init_24 : decode cX4_init 24 = .ok (.aload_n 0, 1) := by decide +kernel
theorem dX4_init_25 : decode cX4_init 25 = .ok (.bipush 6, 2) := by decide +kernel
theorem dX4_init_27 : decode cX4_init 27 = .ok (.newarray .int, 2) := by decide +kernel
theorem dX4_init_29 : decode cX4_init 29 = .ok (.putfield 21, 3) := by decide +kernel
theorem dX4_init_32 : decode cX4_init 32 = .ok (.aload_n 0, 1) := by decide +kernel
theorem dX4_init_33 : decode cX4_init 33 = .ok (.bipush 6, 2) := by decide +kernel
theorem dX4_init_35 : decode cX4_init 35 = .ok (.newarray .boolean, 2) := by decide +kernel
theorem dX4_init_37 : decode cX4_init 37 = .ok (.putfield 24, 3) := by decide +kernel
theorem dX4_init_40 : decode cX4_init 40 = .ok (.aload_n 0, 1) := by decide +kernel
theorem dX4_init_41 : decode cX4_init 41 = .ok (.bipush 6, 2) := by decide +kernel
theorem dX4_init_43 : decode cX4_init 43 = .ok (.newarray .int, 2) := by decide +kernel
theorem dX4_init_45 : decode cX4_init 45 = .ok (.putfield 27, 3) := by decide +kernel
theorem dX4_init_48 : decode cX4_init 48 = .ok (.aload_n 0, 1) := by decide +kernel
theorem dX4_init_49 : decode cX4_init 49 = .ok (.bipush 6, 2) := by decide +kernel
theorem dX4_init_51 : decode cX4_init 51 = .ok (.newarray .int, 2) := by decide +kernel
theorem dX4_init_53 : decode cX4_init 53 = .ok (.putfield 30, 3) := by decide +kernel
theorem dX4_init_56 : decode cX4_init 56 = .ok (.aload_n 0, 1) := by decide +kernel
theorem dX4_init_57 : decode cX4_init 57 = .ok (.bipush 6, 2) := by decide +kernel
theorem dX4_init_59 : decode cX4_init 59 = .ok (.newarray .int, 2) := by decide +kernel
theorem dX4_init_61 : decode cX4_init 61 = .ok (.putfield 33, 3) := by decide +kernel
theorem dX4_init_64 : decode cX4_init 64 = .ok (.aload_n 0, 1) := by decide +kernel
theorem dX4_init_65 : decode cX4_init 65 = .ok (.iconst 5, 1) := by decide +kernel
theorem dX4_init_66 : decode cX4_init 66 = .ok (.newarray .long, 2) := by decide +kernel
theorem dX4_init_68 : decode cX4_init 68 = .ok (.putfield 36, 3) := by decide +kernel
theorem dX4_init_71 : decode cX4_init 71 = .ok (.aload_n 0, 1) := by decide +kernel
theorem dX4_init_72 : decode cX4_init 72 = .ok (.iconst 5, 1) := by decide +kernel
theorem dX4_init_73 : decode cX4_init 73 = .ok (.newarray .long, 2) := by decide +kernel
theorem dX4_init_75 : decode cX4_init 75 = .ok (.putfield 40, 3) := by decide +kernel
theorem dX4_init_78 : decode cX4_init 78 = .ok (.aload_n 0, 1) := by decide +kernel
theorem dX4_init_79 : decode cX4_init 79 = .ok (.bipush 6, 2) := by decide +kernel
theorem dX4_init_81 : decode cX4_init 81 = .ok (.newarray .long, 2) := by decide +kernel
theorem dX4_init_83 : decode cX4_init 83 = .ok (.putfield 43, 3) := by decide +kernel
theorem dX4_init_86 : decode cX4_init 86 = .ok (.aload_n 0, 1) := by decide +kernel
theorem dX4_init_87 : decode cX4_init 87 = .ok (.bipush 6, 2) := by decide +kernel
theorem dX4_init_89 : decode cX4_init 89 = .ok (.newarray .long, 2) := by decide +kernel
theorem dX4_init_91 : decode cX4_init 91 = .ok (.putfield 46, 3) := by decide +kernel
theorem dX4_init_94 : decode cX4_init 94 = .ok (.aload_n 0, 1) := by decide +kernel
theorem dX4_init_95 : decode cX4_init 95 = .ok (.bipush 6, 2) := by decide +kernel
theorem dX4_init_97 : decode cX4_init 97 = .ok (.newarray .long, 2) := by decide +kernel
theorem dX4_init_99 : decode cX4_init 99 = .ok (.putfield 49, 3) := by decide +kernel
theorem dX4_init_102 : decode cX4_init 102 = .ok (.aload_n 0, 1) := by decide +kernel
theorem dX4_init_103 : decode cX4_init 103 = .ok (.bipush 6, 2) := by decide +kernel
theorem dX4_init_105 : decode cX4_init 105 = .ok (.newarray .long, 2) := by decide +kernel
theorem dX4_init_107 : decode cX4_init 107 = .ok (.putfield 52, 3) := by decide +kernel
theorem dX4_init_110 : decode cX4_init 110 = .ok (.aload_n 0, 1) := by decide +kernel
theorem dX4_init_111 : decode cX4_init 111 = .ok (.bipush 12, 2) := by decide +kernel
theorem dX4_init_113 : decode cX4_init 113 = .ok (.newarray .int, 2) := by decide +kernel
theorem dX4_init_115 : decode cX4_init 115 = .ok (.putfield 55, 3) := by decide +kernel
theorem dX4_init_118 : decode cX4_init 118 = .ok (.aload_n 0, 1) := by decide +kernel
theorem dX4_init_119 : decode cX4_init 119 = .ok (.bipush 12, 2) := by decide +kernel
theorem dX4_init_121 : decode cX4_init 121 = .ok (.newarray .int, 2) := by decide +kernel
theorem dX4_init_123 : decode cX4_init 123 = .ok (.putfield 58, 3) := by decide +kernel
theorem dX4_init_126 : decode cX4_init 126 = .ok (.aload_n 0, 1) := by decide +kernel
theorem dX4_init_127 : decode cX4_init 127 = .ok (.bipush 12, 2) := by decide +kernel
theorem dX4_init_129 : decode cX4_init 129 = .ok (.newarray .long, 2) := by decide +kernel
theorem dX4_init_131 : decode cX4_init 131 = .ok (.putfield 61, 3) := by decide +kernel
theorem dX4_init_134 : decode cX4_init 134 = .ok (.aload_n 0, 1) := by decide +kernel
theorem dX4_init_135 : decode cX4_init 135 = .ok (.bipush 12, 2) := by decide +kernel
theorem dX4_init_137 : decode cX4_init 137 = .ok (.newarray .long, 2) := by decide +kernel
theorem dX4_init_139 : decode cX4_init 139 = .ok (.putfield 64, 3) := by decide +kernel
theorem dX4_init_142 : decode cX4_init 142 = .ok (.aload_n 0, 1) := by decide +kernel
theorem dX4_init_143 : decode cX4_init 143 = .ok (.getfield 13, 3) := by decide +kernel
theorem dX4_init_146 : decode cX4_init 146 = .ok (.iconst 2, 1) := by decide +kernel
theorem dX4_init_147 : decode cX4_init 147 = .ok (.bipush 100, 2) := by decide +kernel
theorem dX4_init_149 : decode cX4_init 149 = .ok (.iastore, 1) := by decide +kernel
theorem dX4_init_150 : decode cX4_init 150 = .ok (.iconst 0, 1) := by decide +kernel
theorem dX4_init_151 : decode cX4_init 151 = .ok (.istore_n 1, 1) := by decide +kernel
theorem dX4_init_152 : decode cX4_init 152 = .ok (.iload_n 1, 1) := by decide +kernel
theorem dX4_init_153 : decode cX4_init 153 = .ok (.bipush 6, 2) := by decide +kernel
theorem dX4_init_155 : decode cX4_init 155 = .ok (.if_icmp .ge 14, 3) := by decide +kernel
theorem dX4_init_158 : decode cX4_init 158 = .ok (.aload_n 0, 1) := by decide +kernel
theorem dX4_init_159 : decode cX4_init 159 = .ok (.iload_n 1, 1) := by decide +kernel
theorem dX4_init_160 : decode cX4_init 160 = .ok (.invokevirtual 67, 3) := by decide +kernel
theorem dX4_init_163 : decode cX4_init 163 = .ok (.iinc 1 1, 3) := by decide +kernel
theorem dX4_init_166 : decode cX4_init 166 = .ok (.goto (-14), 3) := by decide +kernel
theorem dX4_init_169 : decode cX4_init 169 = .ok (.return_, 1) := by decide +kernel
theorem dX4_within_0 : decode cX4_within 0 = .ok (.iload_n 0, 1) := by decide +kernel
theorem dX4_within_1 : decode cX4_within 1 = .ok (.iload_n 1, 1) := by decide +kernel
theorem dX4_within_2 : decode cX4_within 2 = .ok (.if_icmp .lt 12, 3) := by decide +kernel
theorem dX4_within_5 : decode cX4_within 5 = .ok (.iload_n 0, 1) := by decide +kernel
theorem dX4_within_6 : decode cX4_within 6 = .ok (.iload_n 2, 1) := by decide +kernel
theorem dX4_within_7 : decode cX4_within 7 = .ok (.if_icmp .gt 7, 3) := by decide +kernel
theorem dX4_within_10 : decode cX4_within 10 = .ok (.iconst 1, 1) := by decide +kernel
theorem dX4_within_11 : decode cX4_within 11 = .ok (.goto 4, 3) := by decide +kernel
theorem dX4_within_14 : decode cX4_within 14 = .ok (.iconst 0, 1) := by decide +kernel
theorem dX4_within_15 : decode cX4_within 15 = .ok (.ireturn, 1) := by decide +kernel
theorem dX4_common_0 : decode cX4_common 0 = .ok (.lload_n 0, 1) := by decide +kernel
theorem dX4_common_1 : decode cX4_common 1 = .ok (.lconst 0, 1) := by decide +kernel
theorem dX4_common_2 : decode cX4_common 2 = .ok (.lcmp, 1) := by decide +kernel
theorem dX4_common_3 : decode cX4_common 3 = .ok (.ifCond .ge 8, 3) := by decide +kernel
theorem dX4_common_6 : decode cX4_common 6 = .ok (.lload_n 0, 1) := by decide +kernel
theorem dX4_common_7 : decode cX4_common 7 = .ok (.lneg, 1) := by decide +kernel
theorem dX4_common_8 : decode cX4_common 8 = .ok (.goto 4, 3) := by decide +kernel
theorem dX4_common_11 : decode cX4_common 11 = .ok (.lload_n 0, 1) := by decide +kernel
theorem dX4_common_12 : decode cX4_common 12 = .ok (.lstore 4, 2) := by decide +kernel
theorem dX4_common_14 : decode cX4_common 14 = .ok (.lload_n 2, 1) := by decide +kernel
theorem dX4_common_15 : decode cX4_common 15 = .ok (.lconst 0, 1) := by decide +kernel
theorem dX4_common_16 : decode cX4_common 16 = .ok (.lcmp, 1) := by decide +kernel
theorem dX4_common_17 : decode cX4_common 17 = .ok (.ifCond .ge 8, 3) := by decide +kernel
theorem dX4_common_20 : decode cX4_common 20 = .ok (.lload_n 2, 1) := by decide +kernel
theorem dX4_common_21 : decode cX4_common 21 = .ok (.lneg, 1) := by decide +kernel
theorem dX4_common_22 : decode cX4_common 22 = .ok (.goto 4, 3) := by decide +kernel
theorem dX4_common_25 : decode cX4_common 25 = .ok (.lload_n 2, 1) := by decide +kernel
theorem dX4_common_26 : decode cX4_common 26 = .ok (.lstore 6, 2) := by decide +kernel
theorem dX4_common_28 : decode cX4_common 28 = .ok (.lload 6, 2) := by decide +kernel
theorem dX4_common_30 : decode cX4_common 30 = .ok (.lconst 0, 1) := by decide +kernel
theorem dX4_common_31 : decode cX4_common 31 = .ok (.lcmp, 1) := by decide +kernel
theorem dX4_common_32 : decode cX4_common 32 = .ok (.ifCond .le 21, 3) := by decide +kernel
theorem dX4_common_35 : decode cX4_common 35 = .ok (.lload 4, 2) := by decide +kernel
theorem dX4_common_37 : decode cX4_common 37 = .ok (.lload 6, 2) := by decide +kernel
theorem dX4_common_39 : decode cX4_common 39 = .ok (.lrem, 1) := by decide +kernel
theorem dX4_common_40 : decode cX4_common 40 = .ok (.lstore 8, 2) := by decide +kernel
theorem dX4_common_42 : decode cX4_common 42 = .ok (.lload 6, 2) := by decide +kernel
theorem dX4_common_44 : decode cX4_common 44 = .ok (.lstore 4, 2) := by decide +kernel
theorem dX4_common_46 : decode cX4_common 46 = .ok (.lload 8, 2) := by decide +kernel
theorem dX4_common_48 : decode cX4_common 48 = .ok (.lstore 6, 2) := by decide +kernel
theorem dX4_common_50 : decode cX4_common 50 = .ok (.goto (-22), 3) := by decide +kernel
theorem dX4_common_53 : decode cX4_common 53 = .ok (.lload 4, 2) := by decide +kernel
theorem dX4_common_55 : decode cX4_common 55 = .ok (.lreturn, 1) := by decide +kernel
theorem dX4_makes_0 : decode cX4_makes 0 = .ok (.lload_n 1, 1) := by decide +kernel
theorem dX4_makes_1 : decode cX4_makes 1 = .ok (.lload_n 3, 1) := by decide +kernel
theorem dX4_makes_2 : decode cX4_makes 2 = .ok (.invokestatic 71, 3) := by decide +kernel
theorem dX4_makes_5 : decode cX4_makes 5 = .ok (.lstore 5, 2) := by decide +kernel
theorem dX4_makes_7 : decode cX4_makes 7 = .ok (.aload_n 0, 1) := by decide +kernel
theorem dX4_makes_8 : decode cX4_makes 8 = .ok (.lload_n 1, 1) := by decide +kernel
theorem dX4_makes_9 : decode cX4_makes 9 = .ok (.lload 5, 2) := by decide +kernel
theorem dX4_makes_11 : decode cX4_makes 11 = .ok (.ldiv, 1) := by decide +kernel
theorem dX4_makes_12 : decode cX4_makes 12 = .ok (.putfield 75, 3) := by decide +kernel
theorem dX4_makes_15 : decode cX4_makes 15 = .ok (.aload_n 0, 1) := by decide +kernel
theorem dX4_makes_16 : decode cX4_makes 16 = .ok (.lload_n 3, 1) := by decide +kernel
theorem dX4_makes_17 : decode cX4_makes 17 = .ok (.lload 5, 2) := by decide +kernel
theorem dX4_makes_19 : decode cX4_makes 19 = .ok (.ldiv, 1) := by decide +kernel
theorem dX4_makes_20 : decode cX4_makes 20 = .ok (.putfield 7, 3) := by decide +kernel
theorem dX4_makes_23 : decode cX4_makes 23 = .ok (.return_, 1) := by decide +kernel
theorem dX4_adds_0 : decode cX4_adds 0 = .ok (.lload_n 3, 1) := by decide +kernel
theorem dX4_adds_1 : decode cX4_adds 1 = .ok (.lload 7, 2) := by decide +kernel
theorem dX4_adds_3 : decode cX4_adds 3 = .ok (.invokestatic 71, 3) := by decide +kernel
theorem dX4_adds_6 : decode cX4_adds 6 = .ok (.lstore 11, 2) := by decide +kernel
theorem dX4_adds_8 : decode cX4_adds 8 = .ok (.aload_n 0, 1) := by decide +kernel
theorem dX4_adds_9 : decode cX4_adds 9 = .ok (.lload_n 1, 1) := by decide +kernel
theorem dX4_adds_10 : decode cX4_adds 10 = .ok (.lload 7, 2) := by decide +kernel
theorem dX4_adds_12 : decode cX4_adds 12 = .ok (.lload 11, 2) := by decide +kernel
theorem dX4_adds_14 : decode cX4_adds 14 = .ok (.ldiv, 1) := by decide +kernel
theorem dX4_adds_15 : decode cX4_adds 15 = .ok (.lmul, 1) := by decide +kernel
theorem dX4_adds_16 : decode cX4_adds 16 = .ok (.lload 9, 2) := by decide +kernel
theorem dX4_adds_18 : decode cX4_adds 18 = .ok (.lload 5, 2) := by decide +kernel
theorem dX4_adds_20 : decode cX4_adds 20 = .ok (.lmul, 1) := by decide +kernel
theorem dX4_adds_21 : decode cX4_adds 21 = .ok (.lload_n 3, 1) := by decide +kernel
theorem dX4_adds_22 : decode cX4_adds 22 = .ok (.lload 11, 2) := by decide +kernel
theorem dX4_adds_24 : decode cX4_adds 24 = .ok (.ldiv, 1) := by decide +kernel
theorem dX4_adds_25 : decode cX4_adds 25 = .ok (.lmul, 1) := by decide +kernel
theorem dX4_adds_26 : decode cX4_adds 26 = .ok (.ladd, 1) := by decide +kernel
theorem dX4_adds_27 : decode cX4_adds 27 = .ok (.lload_n 3, 1) := by decide +kernel
theorem dX4_adds_28 : decode cX4_adds 28 = .ok (.lload 11, 2) := by decide +kernel
theorem dX4_adds_30 : decode cX4_adds 30 = .ok (.ldiv, 1) := by decide +kernel
theorem dX4_adds_31 : decode cX4_adds 31 = .ok (.lload 7, 2) := by decide +kernel
theorem dX4_adds_33 : decode cX4_adds 33 = .ok (.lmul, 1) := by decide +kernel
theorem dX4_adds_34 : decode cX4_adds 34 = .ok (.invokevirtual 78, 3) := by decide +kernel
theorem dX4_adds_37 : decode cX4_adds 37 = .ok (.return_, 1) := by decide +kernel
theorem dX4_multiplies_0 : decode cX4_multiplies 0 = .ok (.lload_n 1, 1) := by decide +kernel
theorem dX4_multiplies_1 : decode cX4_multiplies 1 = .ok (.lload 7, 2) := by decide +kernel
theorem dX4_multiplies_3 : decode cX4_multiplies 3 = .ok (.invokestatic 71, 3) := by decide +kernel
theorem dX4_multiplies_6 : decode cX4_multiplies 6 = .ok (.lstore 9, 2) := by decide +kernel
theorem dX4_multiplies_8 : decode cX4_multiplies 8 = .ok (.lload 5, 2) := by decide +kernel
theorem dX4_multiplies_10 : decode cX4_multiplies 10 = .ok (.lload_n 3, 1) := by decide +kernel
theorem dX4_multiplies_11 : decode cX4_multiplies 11 = .ok (.invokestatic 71, 3) := by decide +kernel
theorem dX4_multiplies_14 : decode cX4_multiplies 14 = .ok (.lstore 11, 2) := by decide +kernel
theorem dX4_multiplies_16 : decode cX4_multiplies 16 = .ok (.lload 9, 2) := by decide +kernel
theorem dX4_multiplies_18 : decode cX4_multiplies 18 = .ok (.lconst 0, 1) := by decide +kernel
theorem dX4_multiplies_19 : decode cX4_multiplies 19 = .ok (.lcmp, 1) := by decide +kernel
theorem dX4_multiplies_20 : decode cX4_multiplies 20 = .ok (.ifCond .ne 7, 3) := by decide +kernel
theorem dX4_multiplies_23 : decode cX4_multiplies 23 = .ok (.lconst 1, 1) := by decide +kernel
theorem dX4_multiplies_24 : decode cX4_multiplies 24 = .ok (.goto 5, 3) := by decide +kernel
theorem dX4_multiplies_27 : decode cX4_multiplies 27 = .ok (.lload 9, 2) := by decide +kernel
theorem dX4_multiplies_29 : decode cX4_multiplies 29 = .ok (.lstore 9, 2) := by decide +kernel
theorem dX4_multiplies_31 : decode cX4_multiplies 31 = .ok (.lload 11, 2) := by decide +kernel
theorem dX4_multiplies_33 : decode cX4_multiplies 33 = .ok (.lconst 0, 1) := by decide +kernel
theorem dX4_multiplies_34 : decode cX4_multiplies 34 = .ok (.lcmp, 1) := by decide +kernel
theorem dX4_multiplies_35 : decode cX4_multiplies 35 = .ok (.ifCond .ne 7, 3) := by decide +kernel
theorem dX4_multiplies_38 : decode cX4_multiplies 38 = .ok (.lconst 1, 1) := by decide +kernel
theorem dX4_multiplies_39 : decode cX4_multiplies 39 = .ok (.goto 5, 3) := by decide +kernel
theorem dX4_multiplies_42 : decode cX4_multiplies 42 = .ok (.lload 11, 2) := by decide +kernel
theorem dX4_multiplies_44 : decode cX4_multiplies 44 = .ok (.lstore 11, 2) := by decide +kernel
theorem dX4_multiplies_46 : decode cX4_multiplies 46 = .ok (.aload_n 0, 1) := by decide +kernel
theorem dX4_multiplies_47 : decode cX4_multiplies 47 = .ok (.lload_n 1, 1) := by decide +kernel
theorem dX4_multiplies_48 : decode cX4_multiplies 48 = .ok (.lload 9, 2) := by decide +kernel
theorem dX4_multiplies_50 : decode cX4_multiplies 50 = .ok (.ldiv, 1) := by decide +kernel
theorem dX4_multiplies_51 : decode cX4_multiplies 51 = .ok (.lload 5, 2) := by decide +kernel
theorem dX4_multiplies_53 : decode cX4_multiplies 53 = .ok (.lload 11, 2) := by decide +kernel
theorem dX4_multiplies_55 : decode cX4_multiplies 55 = .ok (.ldiv, 1) := by decide +kernel
theorem dX4_multiplies_56 : decode cX4_multiplies 56 = .ok (.lmul, 1) := by decide +kernel
theorem dX4_multiplies_57 : decode cX4_multiplies 57 = .ok (.lload_n 3, 1) := by decide +kernel
theorem dX4_multiplies_58 : decode cX4_multiplies 58 = .ok (.lload 11, 2) := by decide +kernel
theorem dX4_multiplies_60 : decode cX4_multiplies 60 = .ok (.ldiv, 1) := by decide +kernel
theorem dX4_multiplies_61 : decode cX4_multiplies 61 = .ok (.lload 7, 2) := by decide +kernel
theorem dX4_multiplies_63 : decode cX4_multiplies 63 = .ok (.lload 9, 2) := by decide +kernel
theorem dX4_multiplies_65 : decode cX4_multiplies 65 = .ok (.ldiv, 1) := by decide +kernel
theorem dX4_multiplies_66 : decode cX4_multiplies 66 = .ok (.lmul, 1) := by decide +kernel
theorem dX4_multiplies_67 : decode cX4_multiplies 67 = .ok (.invokevirtual 78, 3) := by decide +kernel
theorem dX4_multiplies_70 : decode cX4_multiplies 70 = .ok (.return_, 1) := by decide +kernel
end
section
theorem dX4_told_0 : decode cX4_told 0 = .ok (.iload_n 1, 1) := by decide +kernel
theorem dX4_told_1 : decode cX4_told 1 = .ok (.ifCond .ne 10, 3) := by decide +kernel
theorem dX4_told_4 : decode cX4_told 4 = .ok (.aload_n 0, 1) := by decide +kernel
theorem dX4_told_5 : decode cX4_told 5 = .ok (.getfield 75, 3) := by decide +kernel
theorem dX4_told_8 : decode cX4_told 8 = .ok (.goto 7, 3) := by decide +kernel
theorem dX4_told_11 : decode cX4_told 11 = .ok (.aload_n 0, 1) := by decide +kernel
theorem dX4_told_12 : decode cX4_told 12 = .ok (.getfield 7, 3) := by decide +kernel
theorem dX4_told_15 : decode cX4_told 15 = .ok (.lreturn, 1) := by decide +kernel
theorem dX4_isWhich_0 : decode cX4_isWhich 0 = .ok (.iload_n 0, 1) := by decide +kernel
theorem dX4_isWhich_1 : decode cX4_isWhich 1 = .ok (.iconst 0, 1) := by decide +kernel
theorem dX4_isWhich_2 : decode cX4_isWhich 2 = .ok (.iconst 1, 1) := by decide +kernel
theorem dX4_isWhich_3 : decode cX4_isWhich 3 = .ok (.invokestatic 82, 3) := by decide +kernel
theorem dX4_isWhich_6 : decode cX4_isWhich 6 = .ok (.ireturn, 1) := by decide +kernel
theorem dX4_clears_0 : decode cX4_clears 0 = .ok (.aload_n 0, 1) := by decide +kernel
theorem dX4_clears_1 : decode cX4_clears 1 = .ok (.getfield 17, 3) := by decide +kernel
theorem dX4_clears_4 : decode cX4_clears 4 = .ok (.iload_n 1, 1) := by decide +kernel
theorem dX4_clears_5 : decode cX4_clears 5 = .ok (.iconst 0, 1) := by decide +kernel
theorem dX4_clears_6 : decode cX4_clears 6 = .ok (.bastore, 1) := by decide +kernel
theorem dX4_clears_7 : decode cX4_clears 7 = .ok (.aload_n 0, 1) := by decide +kernel
theorem dX4_clears_8 : decode cX4_clears 8 = .ok (.getfield 21, 3) := by decide +kernel
theorem dX4_clears_11 : decode cX4_clears 11 = .ok (.iload_n 1, 1) := by decide +kernel
theorem dX4_clears_12 : decode cX4_clears 12 = .ok (.iconst 0, 1) := by decide +kernel
theorem dX4_clears_13 : decode cX4_clears 13 = .ok (.iastore, 1) := by decide +kernel
theorem dX4_clears_14 : decode cX4_clears 14 = .ok (.aload_n 0, 1) := by decide +kernel
theorem dX4_clears_15 : decode cX4_clears 15 = .ok (.getfield 24, 3) := by decide +kernel
theorem dX4_clears_18 : decode cX4_clears 18 = .ok (.iload_n 1, 1) := by decide +kernel
theorem dX4_clears_19 : decode cX4_clears 19 = .ok (.iconst 0, 1) := by decide +kernel
theorem dX4_clears_20 : decode cX4_clears 20 = .ok (.bastore, 1) := by decide +kernel
theorem dX4_clears_21 : decode cX4_clears 21 = .ok (.aload_n 0, 1) := by decide +kernel
theorem dX4_clears_22 : decode cX4_clears 22 = .ok (.getfield 27, 3) := by decide +kernel
theorem dX4_clears_25 : decode cX4_clears 25 = .ok (.iload_n 1, 1) := by decide +kernel
theorem dX4_clears_26 : decode cX4_clears 26 = .ok (.bipush (-9), 2) := by decide +kernel
theorem dX4_clears_28 : decode cX4_clears 28 = .ok (.iastore, 1) := by decide +kernel
theorem dX4_clears_29 : decode cX4_clears 29 = .ok (.aload_n 0, 1) := by decide +kernel
theorem dX4_clears_30 : decode cX4_clears 30 = .ok (.getfield 30, 3) := by decide +kernel
theorem dX4_clears_33 : decode cX4_clears 33 = .ok (.iload_n 1, 1) := by decide +kernel
theorem dX4_clears_34 : decode cX4_clears 34 = .ok (.bipush (-9), 2) := by decide +kernel
theorem dX4_clears_36 : decode cX4_clears 36 = .ok (.iastore, 1) := by decide +kernel
theorem dX4_clears_37 : decode cX4_clears 37 = .ok (.aload_n 0, 1) := by decide +kernel
theorem dX4_clears_38 : decode cX4_clears 38 = .ok (.getfield 33, 3) := by decide +kernel
theorem dX4_clears_41 : decode cX4_clears 41 = .ok (.iload_n 1, 1) := by decide +kernel
theorem dX4_clears_42 : decode cX4_clears 42 = .ok (.iconst 0, 1) := by decide +kernel
theorem dX4_clears_43 : decode cX4_clears 43 = .ok (.iastore, 1) := by decide +kernel
theorem dX4_clears_44 : decode cX4_clears 44 = .ok (.return_, 1) := by decide +kernel
theorem dX4_isThere_0 : decode cX4_isThere 0 = .ok (.iload_n 1, 1) := by decide +kernel
theorem dX4_isThere_1 : decode cX4_isThere 1 = .ok (.iconst 0, 1) := by decide +kernel
theorem dX4_isThere_2 : decode cX4_isThere 2 = .ok (.iconst 5, 1) := by decide +kernel
theorem dX4_isThere_3 : decode cX4_isThere 3 = .ok (.invokestatic 82, 3) := by decide +kernel
theorem dX4_isThere_6 : decode cX4_isThere 6 = .ok (.ifCond .eq 16, 3) := by decide +kernel
theorem dX4_isThere_9 : decode cX4_isThere 9 = .ok (.aload_n 0, 1) := by decide +kernel
theorem dX4_isThere_10 : decode cX4_isThere 10 = .ok (.getfield 17, 3) := by decide +kernel
theorem dX4_isThere_13 : decode cX4_isThere 13 = .ok (.iload_n 1, 1) := by decide +kernel
theorem dX4_isThere_14 : decode cX4_isThere 14 = .ok (.baload, 1) := by decide +kernel
theorem dX4_isThere_15 : decode cX4_isThere 15 = .ok (.ifCond .eq 7, 3) := by decide +kernel
theorem dX4_isThere_18 : decode cX4_isThere 18 = .ok (.iconst 1, 1) := by decide +kernel
theorem dX4_isThere_19 : decode cX4_isThere 19 = .ok (.goto 4, 3) := by decide +kernel
theorem dX4_isThere_22 : decode cX4_isThere 22 = .ok (.iconst 0, 1) := by decide +kernel
theorem dX4_isThere_23 : decode cX4_isThere 23 = .ok (.ireturn, 1) := by decide +kernel
theorem dX4_loss_0 : decode cX4_loss 0 = .ok (.iload_n 1, 1) := by decide +kernel
theorem dX4_loss_1 : decode cX4_loss 1 = .ok (.iconst 0, 1) := by decide +kernel
theorem dX4_loss_2 : decode cX4_loss 2 = .ok (.ldc 86, 2) := by decide +kernel
theorem dX4_loss_4 : decode cX4_loss 4 = .ok (.invokestatic 82, 3) := by decide +kernel
theorem dX4_loss_7 : decode cX4_loss 7 = .ok (.ifCond .ne 6, 3) := by decide +kernel
theorem dX4_loss_10 : decode cX4_loss 10 = .ok (.bipush (-2), 2) := by decide +kernel
theorem dX4_loss_12 : decode cX4_loss 12 = .ok (.ireturn, 1) := by decide +kernel
theorem dX4_loss_13 : decode cX4_loss 13 = .ok (.aload_n 0, 1) := by decide +kernel
theorem dX4_loss_14 : decode cX4_loss 14 = .ok (.getfield 87, 3) := by decide +kernel
theorem dX4_loss_17 : decode cX4_loss 17 = .ok (.istore_n 2, 1) := by decide +kernel
theorem dX4_loss_18 : decode cX4_loss 18 = .ok (.aload_n 0, 1) := by decide +kernel
theorem dX4_loss_19 : decode cX4_loss 19 = .ok (.iload_n 1, 1) := by decide +kernel
theorem dX4_loss_20 : decode cX4_loss 20 = .ok (.putfield 87, 3) := by decide +kernel
theorem dX4_loss_23 : decode cX4_loss 23 = .ok (.iload_n 2, 1) := by decide +kernel
theorem dX4_loss_24 : decode cX4_loss 24 = .ok (.ireturn, 1) := by decide +kernel
theorem dX4_claimant_0 : decode cX4_claimant 0 = .ok (.iload_n 1, 1) := by decide +kernel
theorem dX4_claimant_1 : decode cX4_claimant 1 = .ok (.iconst 0, 1) := by decide +kernel
theorem dX4_claimant_2 : decode cX4_claimant 2 = .ok (.bipush 100, 2) := by decide +kernel
theorem dX4_claimant_4 : decode cX4_claimant 4 = .ok (.invokestatic 82, 3) := by decide +kernel
theorem dX4_claimant_7 : decode cX4_claimant 7 = .ok (.ifCond .ne 6, 3) := by decide +kernel
theorem dX4_claimant_10 : decode cX4_claimant 10 = .ok (.bipush (-2), 2) := by decide +kernel
theorem dX4_claimant_12 : decode cX4_claimant 12 = .ok (.ireturn, 1) := by decide +kernel
theorem dX4_claimant_13 : decode cX4_claimant 13 = .ok (.aload_n 0, 1) := by decide +kernel
theorem dX4_claimant_14 : decode cX4_claimant 14 = .ok (.getfield 91, 3) := by decide +kernel
theorem dX4_claimant_17 : decode cX4_claimant 17 = .ok (.istore_n 2, 1) := by decide +kernel
theorem dX4_claimant_18 : decode cX4_claimant 18 = .ok (.aload_n 0, 1) := by decide +kernel
theorem dX4_claimant_19 : decode cX4_claimant 19 = .ok (.iload_n 1, 1) := by decide +kernel
theorem dX4_claimant_20 : decode cX4_claimant 20 = .ok (.putfield 91, 3) := by decide +kernel
theorem dX4_claimant_23 : decode cX4_claimant 23 = .ok (.iload_n 2, 1) := by decide +kernel
theorem dX4_claimant_24 : decode cX4_claimant 24 = .ok (.ireturn, 1) := by decide +kernel
theorem dX4_manyIn_0 : decode cX4_manyIn 0 = .ok (.iconst 0, 1) := by decide +kernel
theorem dX4_manyIn_1 : decode cX4_manyIn 1 = .ok (.istore_n 1, 1) := by decide +kernel
theorem dX4_manyIn_2 : decode cX4_manyIn 2 = .ok (.iconst 0, 1) := by decide +kernel
theorem dX4_manyIn_3 : decode cX4_manyIn 3 = .ok (.istore_n 2, 1) := by decide +kernel
theorem dX4_manyIn_4 : decode cX4_manyIn 4 = .ok (.iload_n 2, 1) := by decide +kernel
theorem dX4_manyIn_5 : decode cX4_manyIn 5 = .ok (.bipush 6, 2) := by decide +kernel
theorem dX4_manyIn_7 : decode cX4_manyIn 7 = .ok (.if_icmp .ge 26, 3) := by decide +kernel
theorem dX4_manyIn_10 : decode cX4_manyIn 10 = .ok (.iload_n 1, 1) := by decide +kernel
theorem dX4_manyIn_11 : decode cX4_manyIn 11 = .ok (.aload_n 0, 1) := by decide +kernel
theorem dX4_manyIn_12 : decode cX4_manyIn 12 = .ok (.getfield 17, 3) := by decide +kernel
theorem dX4_manyIn_15 : decode cX4_manyIn 15 = .ok (.iload_n 2, 1) := by decide +kernel
theorem dX4_manyIn_16 : decode cX4_manyIn 16 = .ok (.baload, 1) := by decide +kernel
theorem dX4_manyIn_17 : decode cX4_manyIn 17 = .ok (.ifCond .eq 7, 3) := by decide +kernel
theorem dX4_manyIn_20 : decode cX4_manyIn 20 = .ok (.iconst 1, 1) := by decide +kernel
theorem dX4_manyIn_21 : decode cX4_manyIn 21 = .ok (.goto 4, 3) := by decide +kernel
theorem dX4_manyIn_24 : decode cX4_manyIn 24 = .ok (.iconst 0, 1) := by decide +kernel
theorem dX4_manyIn_25 : decode cX4_manyIn 25 = .ok (.iadd, 1) := by decide +kernel
theorem dX4_manyIn_26 : decode cX4_manyIn 26 = .ok (.istore_n 1, 1) := by decide +kernel
theorem dX4_manyIn_27 : decode cX4_manyIn 27 = .ok (.iinc 2 1, 3) := by decide +kernel
theorem dX4_manyIn_30 : decode cX4_manyIn 30 = .ok (.goto (-26), 3) := by decide +kernel
theorem dX4_manyIn_33 : decode cX4_manyIn 33 = .ok (.iload_n 1, 1) := by decide +kernel
theorem dX4_manyIn_34 : decode cX4_manyIn 34 = .ok (.ireturn, 1) := by decide +kernel
theorem dX4_wrong_0 : decode cX4_wrong 0 = .ok (.iload_n 1, 1) := by decide +kernel
theorem dX4_wrong_1 : decode cX4_wrong 1 = .ok (.iconst 0, 1) := by decide +kernel
theorem dX4_wrong_2 : decode cX4_wrong 2 = .ok (.bipush 100, 2) := by decide +kernel
theorem dX4_wrong_4 : decode cX4_wrong 4 = .ok (.invokestatic 82, 3) := by decide +kernel
theorem dX4_wrong_7 : decode cX4_wrong 7 = .ok (.ifCond .ne 6, 3) := by decide +kernel
theorem dX4_wrong_10 : decode cX4_wrong 10 = .ok (.bipush (-2), 2) := by decide +kernel
theorem dX4_wrong_12 : decode cX4_wrong 12 = .ok (.ireturn, 1) := by decide +kernel
theorem dX4_wrong_13 : decode cX4_wrong 13 = .ok (.aload_n 0, 1) := by decide +kernel
theorem dX4_wrong_14 : decode cX4_wrong 14 = .ok (.invokevirtual 94, 3) := by decide +kernel
theorem dX4_wrong_17 : decode cX4_wrong 17 = .ok (.bipush 6, 2) := by decide +kernel
theorem dX4_wrong_19 : decode cX4_wrong 19 = .ok (.if_icmp .ne 6, 3) := by decide +kernel
theorem dX4_wrong_22 : decode cX4_wrong 22 = .ok (.bipush (-4), 2) := by decide +kernel
theorem dX4_wrong_24 : decode cX4_wrong 24 = .ok (.ireturn, 1) := by decide +kernel
theorem dX4_wrong_25 : decode cX4_wrong 25 = .ok (.iconst 0, 1) := by decide +kernel
theorem dX4_wrong_26 : decode cX4_wrong 26 = .ok (.istore_n 2, 1) := by decide +kernel
theorem dX4_wrong_27 : decode cX4_wrong 27 = .ok (.aload_n 0, 1) := by decide +kernel
theorem dX4_wrong_28 : decode cX4_wrong 28 = .ok (.getfield 17, 3) := by decide +kernel
theorem dX4_wrong_31 : decode cX4_wrong 31 = .ok (.iload_n 2, 1) := by decide +kernel
theorem dX4_wrong_32 : decode cX4_wrong 32 = .ok (.baload, 1) := by decide +kernel
theorem dX4_wrong_33 : decode cX4_wrong 33 = .ok (.ifCond .eq 9, 3) := by decide +kernel
theorem dX4_wrong_36 : decode cX4_wrong 36 = .ok (.iinc 2 1, 3) := by decide +kernel
theorem dX4_wrong_39 : decode cX4_wrong 39 = .ok (.goto (-12), 3) := by decide +kernel
theorem dX4_wrong_42 : decode cX4_wrong 42 = .ok (.aload_n 0, 1) := by decide +kernel
theorem dX4_wrong_43 : decode cX4_wrong 43 = .ok (.iload_n 2, 1) := by decide +kernel
theorem dX4_wrong_44 : decode cX4_wrong 44 = .ok (.invokevirtual 67, 3) := by decide +kernel
theorem dX4_wrong_47 : decode cX4_wrong 47 = .ok (.aload_n 0, 1) := by decide +kernel
theorem dX4_wrong_48 : decode cX4_wrong 48 = .ok (.getfield 17, 3) := by decide +kernel
theorem dX4_wrong_51 : decode cX4_wrong 51 = .ok (.iload_n 2, 1) := by decide +kernel
theorem dX4_wrong_52 : decode cX4_wrong 52 = .ok (.iconst 1, 1) := by decide +kernel
theorem dX4_wrong_53 : decode cX4_wrong 53 = .ok (.bastore, 1) := by decide +kernel
theorem dX4_wrong_54 : decode cX4_wrong 54 = .ok (.aload_n 0, 1) := by decide +kernel
theorem dX4_wrong_55 : decode cX4_wrong 55 = .ok (.getfield 21, 3) := by decide +kernel
theorem dX4_wrong_58 : decode cX4_wrong 58 = .ok (.iload_n 2, 1) := by decide +kernel
theorem dX4_wrong_59 : decode cX4_wrong 59 = .ok (.iload_n 1, 1) := by decide +kernel
theorem dX4_wrong_60 : decode cX4_wrong 60 = .ok (.iastore, 1) := by decide +kernel
theorem dX4_wrong_61 : decode cX4_wrong 61 = .ok (.iload_n 2, 1) := by decide +kernel
theorem dX4_wrong_62 : decode cX4_wrong 62 = .ok (.ireturn, 1) := by decide +kernel
theorem dX4_leave_0 : decode cX4_leave 0 = .ok (.aload_n 0, 1) := by decide +kernel
theorem dX4_leave_1 : decode cX4_leave 1 = .ok (.iload_n 1, 1) := by decide +kernel
theorem dX4_leave_2 : decode cX4_leave 2 = .ok (.invokevirtual 98, 3) := by decide +kernel
theorem dX4_leave_5 : decode cX4_leave 5 = .ok (.ifCond .ne 5, 3) := by decide +kernel
theorem dX4_leave_8 : decode cX4_leave 8 = .ok (.iconst (-1), 1) := by decide +kernel
theorem dX4_leave_9 : decode cX4_leave 9 = .ok (.ireturn, 1) := by decide +kernel
theorem dX4_leave_10 : decode cX4_leave 10 = .ok (.aload_n 0, 1) := by decide +kernel
theorem dX4_leave_11 : decode cX4_leave 11 = .ok (.getfield 27, 3) := by decide +kernel
theorem dX4_leave_14 : decode cX4_leave 14 = .ok (.iload_n 1, 1) := by decide +kernel
theorem dX4_leave_15 : decode cX4_leave 15 = .ok (.iaload, 1) := by decide +kernel
theorem dX4_leave_16 : decode cX4_leave 16 = .ok (.istore_n 2, 1) := by decide +kernel
theorem dX4_leave_17 : decode cX4_leave 17 = .ok (.aload_n 0, 1) := by decide +kernel
theorem dX4_leave_18 : decode cX4_leave 18 = .ok (.iload_n 1, 1) := by decide +kernel
theorem dX4_leave_19 : decode cX4_leave 19 = .ok (.invokevirtual 67, 3) := by decide +kernel
theorem dX4_leave_22 : decode cX4_leave 22 = .ok (.iload_n 2, 1) := by decide +kernel
theorem dX4_leave_23 : decode cX4_leave 23 = .ok (.bipush (-9), 2) := by decide +kernel
theorem dX4_leave_25 : decode cX4_leave 25 = .ok (.if_icmp .eq 19, 3) := by decide +kernel
theorem dX4_leave_28 : decode cX4_leave 28 = .ok (.aload_n 0, 1) := by decide +kernel
theorem dX4_leave_29 : decode cX4_leave 29 = .ok (.getfield 27, 3) := by decide +kernel
theorem dX4_leave_32 : decode cX4_leave 32 = .ok (.iload_n 2, 1) := by decide +kernel
theorem dX4_leave_33 : decode cX4_leave 33 = .ok (.bipush (-9), 2) := by decide +kernel
theorem dX4_leave_35 : decode cX4_leave 35 = .ok (.iastore, 1) := by decide +kernel
theorem dX4_leave_36 : decode cX4_leave 36 = .ok (.aload_n 0, 1) := by decide +kernel
theorem dX4_leave_37 : decode cX4_leave 37 = .ok (.getfield 30, 3) := by decide +kernel
theorem dX4_leave_40 : decode cX4_leave 40 = .ok (.iload_n 2, 1) := by decide +kernel
theorem dX4_leave_41 : decode cX4_leave 41 = .ok (.bipush (-9), 2) := by decide +kernel
theorem dX4_leave_43 : decode cX4_leave 43 = .ok (.iastore, 1) := by decide +kernel
theorem dX4_leave_44 : decode cX4_leave 44 = .ok (.aload_n 0, 1) := by decide +kernel
theorem dX4_leave_45 : decode cX4_leave 45 = .ok (.invokevirtual 94, 3) := by decide +kernel
theorem dX4_leave_48 : decode cX4_leave 48 = .ok (.ireturn, 1) := by decide +kernel
theorem dX4_weight_0 : decode cX4_weight 0 = .ok (.aload_n 0, 1) := by decide +kernel
theorem dX4_weight_1 : decode cX4_weight 1 = .ok (.iload_n 1, 1) := by decide +kernel
theorem dX4_weight_2 : decode cX4_weight 2 = .ok (.invokevirtual 98, 3) := by decide +kernel
theorem dX4_weight_5 : decode cX4_weight 5 = .ok (.ifCond .ne 5, 3) := by decide +kernel
theorem dX4_weight_8 : decode cX4_weight 8 = .ok (.iconst (-1), 1) := by decide +kernel
theorem dX4_weight_9 : decode cX4_weight 9 = .ok (.ireturn, 1) := by decide +kernel
theorem dX4_weight_10 : decode cX4_weight 10 = .ok (.iload_n 2, 1) := by decide +kernel
theorem dX4_weight_11 : decode cX4_weight 11 = .ok (.iconst 0, 1) := by decide +kernel
theorem dX4_weight_12 : decode cX4_weight 12 = .ok (.bipush 100, 2) := by decide +kernel
theorem dX4_weight_14 : decode cX4_weight 14 = .ok (.invokestatic 82, 3) := by decide +kernel
theorem dX4_weight_17 : decode cX4_weight 17 = .ok (.ifCond .ne 6, 3) := by decide +kernel
theorem dX4_weight_20 : decode cX4_weight 20 = .ok (.bipush (-2), 2) := by decide +kernel
theorem dX4_weight_22 : decode cX4_weight 22 = .ok (.ireturn, 1) := by decide +kernel
theorem dX4_weight_23 : decode cX4_weight 23 = .ok (.aload_n 0, 1) := by decide +kernel
theorem dX4_weight_24 : decode cX4_weight 24 = .ok (.getfield 21, 3) := by decide +kernel
theorem dX4_weight_27 : decode cX4_weight 27 = .ok (.iload_n 1, 1) := by decide +kernel
theorem dX4_weight_28 : decode cX4_weight 28 = .ok (.iaload, 1) := by decide +kernel
theorem dX4_weight_29 : decode cX4_weight 29 = .ok (.istore_n 3, 1) := by decide +kernel
theorem dX4_weight_30 : decode cX4_weight 30 = .ok (.aload_n 0, 1) := by decide +kernel
theorem dX4_weight_31 : decode cX4_weight 31 = .ok (.getfield 21, 3) := by decide +kernel
theorem dX4_weight_34 : decode cX4_weight 34 = .ok (.iload_n 1, 1) := by decide +kernel
theorem dX4_weight_35 : decode cX4_weight 35 = .ok (.iload_n 2, 1) := by decide +kernel
theorem dX4_weight_36 : decode cX4_weight 36 = .ok (.iastore, 1) := by decide +kernel
theorem dX4_weight_37 : decode cX4_weight 37 = .ok (.iload_n 3, 1) := by decide +kernel
theorem dX4_weight_38 : decode cX4_weight 38 = .ok (.ireturn, 1) := by decide +kernel
theorem dX4_broke_0 : decode cX4_broke 0 = .ok (.aload_n 0, 1) := by decide +kernel
theorem dX4_broke_1 : decode cX4_broke 1 = .ok (.iload_n 1, 1) := by decide +kernel
theorem dX4_broke_2 : decode cX4_broke 2 = .ok (.invokevirtual 98, 3) := by decide +kernel
theorem dX4_broke_5 : decode cX4_broke 5 = .ok (.ifCond .ne 5, 3) := by decide +kernel
theorem dX4_broke_8 : decode cX4_broke 8 = .ok (.iconst (-1), 1) := by decide +kernel
theorem dX4_broke_9 : decode cX4_broke 9 = .ok (.ireturn, 1) := by decide +kernel
theorem dX4_broke_10 : decode cX4_broke 10 = .ok (.aload_n 0, 1) := by decide +kernel
theorem dX4_broke_11 : decode cX4_broke 11 = .ok (.getfield 24, 3) := by decide +kernel
theorem dX4_broke_14 : decode cX4_broke 14 = .ok (.iload_n 1, 1) := by decide +kernel
theorem dX4_broke_15 : decode cX4_broke 15 = .ok (.baload, 1) := by decide +kernel
theorem dX4_broke_16 : decode cX4_broke 16 = .ok (.iload_n 2, 1) := by decide +kernel
theorem dX4_broke_17 : decode cX4_broke 17 = .ok (.if_icmp .ne 7, 3) := by decide +kernel
theorem dX4_broke_20 : decode cX4_broke 20 = .ok (.iconst 0, 1) := by decide +kernel
theorem dX4_broke_21 : decode cX4_broke 21 = .ok (.goto 4, 3) := by decide +kernel
theorem dX4_broke_24 : decode cX4_broke 24 = .ok (.iconst 1, 1) := by decide +kernel
theorem dX4_broke_25 : decode cX4_broke 25 = .ok (.istore_n 3, 1) := by decide +kernel
theorem dX4_broke_26 : decode cX4_broke 26 = .ok (.aload_n 0, 1) := by decide +kernel
theorem dX4_broke_27 : decode cX4_broke 27 = .ok (.getfield 24, 3) := by decide +kernel
theorem dX4_broke_30 : decode cX4_broke 30 = .ok (.iload_n 1, 1) := by decide +kernel
theorem dX4_broke_31 : decode cX4_broke 31 = .ok (.iload_n 2, 1) := by decide +kernel
theorem dX4_broke_32 : decode cX4_broke 32 = .ok (.bastore, 1) := by decide +kernel
theorem dX4_broke_33 : decode cX4_broke 33 = .ok (.iload_n 3, 1) := by decide +kernel
theorem dX4_broke_34 : decode cX4_broke 34 = .ok (.ireturn, 1) := by decide +kernel
theorem dX4_pair_0 : decode cX4_pair 0 = .ok (.aload_n 0, 1) := by decide +kernel
theorem dX4_pair_1 : decode cX4_pair 1 = .ok (.iload_n 1, 1) := by decide +kernel
theorem dX4_pair_2 : decode cX4_pair 2 = .ok (.invokevirtual 98, 3) := by decide +kernel
theorem dX4_pair_5 : decode cX4_pair 5 = .ok (.ifCond .eq 16, 3) := by decide +kernel
theorem dX4_pair_8 : decode cX4_pair 8 = .ok (.aload_n 0, 1) := by decide +kernel
theorem dX4_pair_9 : decode cX4_pair 9 = .ok (.iload_n 2, 1) := by decide +kernel
theorem dX4_pair_10 : decode cX4_pair 10 = .ok (.invokevirtual 98, 3) := by decide +kernel
theorem dX4_pair_13 : decode cX4_pair 13 = .ok (.ifCond .eq 8, 3) := by decide +kernel
theorem dX4_pair_16 : decode cX4_pair 16 = .ok (.iload_n 1, 1) := by decide +kernel
theorem dX4_pair_17 : decode cX4_pair 17 = .ok (.iload_n 2, 1) := by decide +kernel
theorem dX4_pair_18 : decode cX4_pair 18 = .ok (.if_icmp .ne 5, 3) := by decide +kernel
theorem dX4_pair_21 : decode cX4_pair 21 = .ok (.iconst (-1), 1) := by decide +kernel
theorem dX4_pair_22 : decode cX4_pair 22 = .ok (.ireturn, 1) := by decide +kernel
theorem dX4_pair_23 : decode cX4_pair 23 = .ok (.aload_n 0, 1) := by decide +kernel
theorem dX4_pair_24 : decode cX4_pair 24 = .ok (.getfield 27, 3) := by decide +kernel
theorem dX4_pair_27 : decode cX4_pair 27 = .ok (.iload_n 1, 1) := by decide +kernel
theorem dX4_pair_28 : decode cX4_pair 28 = .ok (.iaload, 1) := by decide +kernel
theorem dX4_pair_29 : decode cX4_pair 29 = .ok (.bipush (-9), 2) := by decide +kernel
theorem dX4_pair_31 : decode cX4_pair 31 = .ok (.if_icmp .ne 36, 3) := by decide +kernel
theorem dX4_pair_34 : decode cX4_pair 34 = .ok (.aload_n 0, 1) := by decide +kernel
theorem dX4_pair_35 : decode cX4_pair 35 = .ok (.getfield 27, 3) := by decide +kernel
theorem dX4_pair_38 : decode cX4_pair 38 = .ok (.iload_n 2, 1) := by decide +kernel
theorem dX4_pair_39 : decode cX4_pair 39 = .ok (.iaload, 1) := by decide +kernel
theorem dX4_pair_40 : decode cX4_pair 40 = .ok (.bipush (-9), 2) := by decide +kernel
theorem dX4_pair_42 : decode cX4_pair 42 = .ok (.if_icmp .ne 25, 3) := by decide +kernel
theorem dX4_pair_45 : decode cX4_pair 45 = .ok (.aload_n 0, 1) := by decide +kernel
theorem dX4_pair_46 : decode cX4_pair 46 = .ok (.getfield 30, 3) := by decide +kernel
theorem dX4_pair_49 : decode cX4_pair 49 = .ok (.iload_n 1, 1) := by decide +kernel
theorem dX4_pair_50 : decode cX4_pair 50 = .ok (.iaload, 1) := by decide +kernel
theorem dX4_pair_51 : decode cX4_pair 51 = .ok (.bipush (-9), 2) := by decide +kernel
theorem dX4_pair_53 : decode cX4_pair 53 = .ok (.if_icmp .ne 14, 3) := by decide +kernel
theorem dX4_pair_56 : decode cX4_pair 56 = .ok (.aload_n 0, 1) := by decide +kernel
theorem dX4_pair_57 : decode cX4_pair 57 = .ok (.getfield 30, 3) := by decide +kernel
theorem dX4_pair_60 : decode cX4_pair 60 = .ok (.iload_n 2, 1) := by decide +kernel
theorem dX4_pair_61 : decode cX4_pair 61 = .ok (.iaload, 1) := by decide +kernel
theorem dX4_pair_62 : decode cX4_pair 62 = .ok (.bipush (-9), 2) := by decide +kernel
theorem dX4_pair_64 : decode cX4_pair 64 = .ok (.if_icmp .eq 6, 3) := by decide +kernel
theorem dX4_pair_67 : decode cX4_pair 67 = .ok (.bipush (-3), 2) := by decide +kernel
theorem dX4_pair_69 : decode cX4_pair 69 = .ok (.ireturn, 1) := by decide +kernel
theorem dX4_pair_70 : decode cX4_pair 70 = .ok (.aload_n 0, 1) := by decide +kernel
theorem dX4_pair_71 : decode cX4_pair 71 = .ok (.getfield 27, 3) := by decide +kernel
theorem dX4_pair_74 : decode cX4_pair 74 = .ok (.iload_n 1, 1) := by decide +kernel
theorem dX4_pair_75 : decode cX4_pair 75 = .ok (.iload_n 2, 1) := by decide +kernel
theorem dX4_pair_76 : decode cX4_pair 76 = .ok (.iastore, 1) := by decide +kernel
theorem dX4_pair_77 : decode cX4_pair 77 = .ok (.aload_n 0, 1) := by decide +kernel
theorem dX4_pair_78 : decode cX4_pair 78 = .ok (.getfield 27, 3) := by decide +kernel
theorem dX4_pair_81 : decode cX4_pair 81 = .ok (.iload_n 2, 1) := by decide +kernel
theorem dX4_pair_82 : decode cX4_pair 82 = .ok (.iload_n 1, 1) := by decide +kernel
theorem dX4_pair_83 : decode cX4_pair 83 = .ok (.iastore, 1) := by decide +kernel
theorem dX4_pair_84 : decode cX4_pair 84 = .ok (.iconst 1, 1) := by decide +kernel
theorem dX4_pair_85 : decode cX4_pair 85 = .ok (.ireturn, 1) := by decide +kernel
theorem dX4_part_0 : decode cX4_part 0 = .ok (.aload_n 0, 1) := by decide +kernel
theorem dX4_part_1 : decode cX4_part 1 = .ok (.iload_n 1, 1) := by decide +kernel
theorem dX4_part_2 : decode cX4_part 2 = .ok (.invokevirtual 98, 3) := by decide +kernel
theorem dX4_part_5 : decode cX4_part 5 = .ok (.ifCond .ne 5, 3) := by decide +kernel
theorem dX4_part_8 : decode cX4_part 8 = .ok (.iconst (-1), 1) := by decide +kernel
theorem dX4_part_9 : decode cX4_part 9 = .ok (.ireturn, 1) := by decide +kernel
theorem dX4_part_10 : decode cX4_part 10 = .ok (.aload_n 0, 1) := by decide +kernel
theorem dX4_part_11 : decode cX4_part 11 = .ok (.getfield 27, 3) := by decide +kernel
theorem dX4_part_14 : decode cX4_part 14 = .ok (.iload_n 1, 1) := by decide +kernel
theorem dX4_part_15 : decode cX4_part 15 = .ok (.iaload, 1) := by decide +kernel
theorem dX4_part_16 : decode cX4_part 16 = .ok (.bipush (-9), 2) := by decide +kernel
theorem dX4_part_18 : decode cX4_part 18 = .ok (.if_icmp .eq 14, 3) := by decide +kernel
theorem dX4_part_21 : decode cX4_part 21 = .ok (.aload_n 0, 1) := by decide +kernel
theorem dX4_part_22 : decode cX4_part 22 = .ok (.getfield 30, 3) := by decide +kernel
theorem dX4_part_25 : decode cX4_part 25 = .ok (.iload_n 1, 1) := by decide +kernel
theorem dX4_part_26 : decode cX4_part 26 = .ok (.iaload, 1) := by decide +kernel
theorem dX4_part_27 : decode cX4_part 27 = .ok (.bipush (-9), 2) := by decide +kernel
theorem dX4_part_29 : decode cX4_part 29 = .ok (.if_icmp .eq 6, 3) := by decide +kernel
theorem dX4_part_32 : decode cX4_part 32 = .ok (.bipush (-3), 2) := by decide +kernel
theorem dX4_part_34 : decode cX4_part 34 = .ok (.ireturn, 1) := by decide +kernel
theorem dX4_part_35 : decode cX4_part 35 = .ok (.aload_n 0, 1) := by decide +kernel
theorem dX4_part_36 : decode cX4_part 36 = .ok (.getfield 27, 3) := by decide +kernel
theorem dX4_part_39 : decode cX4_part 39 = .ok (.aload_n 0, 1) := by decide +kernel
theorem dX4_part_40 : decode cX4_part 40 = .ok (.getfield 27, 3) := by decide +kernel
theorem dX4_part_43 : decode cX4_part 43 = .ok (.iload_n 1, 1) := by decide +kernel
theorem dX4_part_44 : decode cX4_part 44 = .ok (.iaload, 1) := by decide +kernel
theorem dX4_part_45 : decode cX4_part 45 = .ok (.bipush (-9), 2) := by decide +kernel
theorem dX4_part_47 : decode cX4_part 47 = .ok (.iastore, 1) := by decide +kernel
theorem dX4_part_48 : decode cX4_part 48 = .ok (.aload_n 0, 1) := by decide +kernel
theorem dX4_part_49 : decode cX4_part 49 = .ok (.getfield 27, 3) := by decide +kernel
theorem dX4_part_52 : decode cX4_part 52 = .ok (.iload_n 1, 1) := by decide +kernel
theorem dX4_part_53 : decode cX4_part 53 = .ok (.bipush (-9), 2) := by decide +kernel
theorem dX4_part_55 : decode cX4_part 55 = .ok (.iastore, 1) := by decide +kernel
theorem dX4_part_56 : decode cX4_part 56 = .ok (.iconst 1, 1) := by decide +kernel
theorem dX4_part_57 : decode cX4_part 57 = .ok (.ireturn, 1) := by decide +kernel
theorem dX4_settles_0 : decode cX4_settles 0 = .ok (.aload_n 0, 1) := by decide +kernel
theorem dX4_settles_1 : decode cX4_settles 1 = .ok (.getfield 30, 3) := by decide +kernel
theorem dX4_settles_4 : decode cX4_settles 4 = .ok (.iload_n 1, 1) := by decide +kernel
theorem dX4_settles_5 : decode cX4_settles 5 = .ok (.iload_n 2, 1) := by decide +kernel
theorem dX4_settles_6 : decode cX4_settles 6 = .ok (.iastore, 1) := by decide +kernel
theorem dX4_settles_7 : decode cX4_settles 7 = .ok (.aload_n 0, 1) := by decide +kernel
theorem dX4_settles_8 : decode cX4_settles 8 = .ok (.getfield 27, 3) := by decide +kernel
theorem dX4_settles_11 : decode cX4_settles 11 = .ok (.iload_n 1, 1) := by decide +kernel
theorem dX4_settles_12 : decode cX4_settles 12 = .ok (.iaload, 1) := by decide +kernel
theorem dX4_settles_13 : decode cX4_settles 13 = .ok (.bipush (-9), 2) := by decide +kernel
theorem dX4_settles_15 : decode cX4_settles 15 = .ok (.if_icmp .eq 15, 3) := by decide +kernel
theorem dX4_settles_18 : decode cX4_settles 18 = .ok (.aload_n 0, 1) := by decide +kernel
theorem dX4_settles_19 : decode cX4_settles 19 = .ok (.getfield 30, 3) := by decide +kernel
theorem dX4_settles_22 : decode cX4_settles 22 = .ok (.aload_n 0, 1) := by decide +kernel
theorem dX4_settles_23 : decode cX4_settles 23 = .ok (.getfield 27, 3) := by decide +kernel
theorem dX4_settles_26 : decode cX4_settles 26 = .ok (.iload_n 1, 1) := by decide +kernel
theorem dX4_settles_27 : decode cX4_settles 27 = .ok (.iaload, 1) := by decide +kernel
theorem dX4_settles_28 : decode cX4_settles 28 = .ok (.iload_n 2, 1) := by decide +kernel
theorem dX4_settles_29 : decode cX4_settles 29 = .ok (.iastore, 1) := by decide +kernel
theorem dX4_settles_30 : decode cX4_settles 30 = .ok (.return_, 1) := by decide +kernel
theorem dX4_settle_0 : decode cX4_settle 0 = .ok (.aload_n 0, 1) := by decide +kernel
theorem dX4_settle_1 : decode cX4_settle 1 = .ok (.iload_n 1, 1) := by decide +kernel
theorem dX4_settle_2 : decode cX4_settle 2 = .ok (.invokevirtual 98, 3) := by decide +kernel
theorem dX4_settle_5 : decode cX4_settle 5 = .ok (.ifCond .ne 5, 3) := by decide +kernel
theorem dX4_settle_8 : decode cX4_settle 8 = .ok (.iconst (-1), 1) := by decide +kernel
theorem dX4_settle_9 : decode cX4_settle 9 = .ok (.ireturn, 1) := by decide +kernel
theorem dX4_settle_10 : decode cX4_settle 10 = .ok (.iload_n 2, 1) := by decide +kernel
theorem dX4_settle_11 : decode cX4_settle 11 = .ok (.iconst 0, 1) := by decide +kernel
theorem dX4_settle_12 : decode cX4_settle 12 = .ok (.ldc 86, 2) := by decide +kernel
theorem dX4_settle_14 : decode cX4_settle 14 = .ok (.invokestatic 82, 3) := by decide +kernel
theorem dX4_settle_17 : decode cX4_settle 17 = .ok (.ifCond .ne 6, 3) := by decide +kernel
theorem dX4_settle_20 : decode cX4_settle 20 = .ok (.bipush (-2), 2) := by decide +kernel
theorem dX4_settle_22 : decode cX4_settle 22 = .ok (.ireturn, 1) := by decide +kernel
theorem dX4_settle_23 : decode cX4_settle 23 = .ok (.aload_n 0, 1) := by decide +kernel
theorem dX4_settle_24 : decode cX4_settle 24 = .ok (.getfield 30, 3) := by decide +kernel
theorem dX4_settle_27 : decode cX4_settle 27 = .ok (.iload_n 1, 1) := by decide +kernel
theorem dX4_settle_28 : decode cX4_settle 28 = .ok (.iaload, 1) := by decide +kernel
theorem dX4_settle_29 : decode cX4_settle 29 = .ok (.bipush (-9), 2) := by decide +kernel
theorem dX4_settle_31 : decode cX4_settle 31 = .ok (.if_icmp .ne 37, 3) := by decide +kernel
theorem dX4_settle_34 : decode cX4_settle 34 = .ok (.aload_n 0, 1) := by decide +kernel
theorem dX4_settle_35 : decode cX4_settle 35 = .ok (.getfield 33, 3) := by decide +kernel
theorem dX4_settle_38 : decode cX4_settle 38 = .ok (.iload_n 1, 1) := by decide +kernel
theorem dX4_settle_39 : decode cX4_settle 39 = .ok (.iaload, 1) := by decide +kernel
theorem dX4_settle_40 : decode cX4_settle 40 = .ok (.ifCond .gt 28, 3) := by decide +kernel
theorem dX4_settle_43 : decode cX4_settle 43 = .ok (.aload_n 0, 1) := by decide +kernel
theorem dX4_settle_44 : decode cX4_settle 44 = .ok (.getfield 27, 3) := by decide +kernel
theorem dX4_settle_47 : decode cX4_settle 47 = .ok (.iload_n 1, 1) := by decide +kernel
theorem dX4_settle_48 : decode cX4_settle 48 = .ok (.iaload, 1) := by decide +kernel
theorem dX4_settle_49 : decode cX4_settle 49 = .ok (.bipush (-9), 2) := by decide +kernel
theorem dX4_settle_51 : decode cX4_settle 51 = .ok (.if_icmp .eq 20, 3) := by decide +kernel
theorem dX4_settle_54 : decode cX4_settle 54 = .ok (.aload_n 0, 1) := by decide +kernel
theorem dX4_settle_55 : decode cX4_settle 55 = .ok (.getfield 33, 3) := by decide +kernel
theorem dX4_settle_58 : decode cX4_settle 58 = .ok (.aload_n 0, 1) := by decide +kernel
theorem dX4_settle_59 : decode cX4_settle 59 = .ok (.getfield 27, 3) := by decide +kernel
theorem dX4_settle_62 : decode cX4_settle 62 = .ok (.iload_n 1, 1) := by decide +kernel
theorem dX4_settle_63 : decode cX4_settle 63 = .ok (.iaload, 1) := by decide +kernel
theorem dX4_settle_64 : decode cX4_settle 64 = .ok (.iaload, 1) := by decide +kernel
theorem dX4_settle_65 : decode cX4_settle 65 = .ok (.ifCond .le 6, 3) := by decide +kernel
theorem dX4_settle_68 : decode cX4_settle 68 = .ok (.bipush (-3), 2) := by decide +kernel
theorem dX4_settle_70 : decode cX4_settle 70 = .ok (.ireturn, 1) := by decide +kernel
theorem dX4_settle_71 : decode cX4_settle 71 = .ok (.aload_n 0, 1) := by decide +kernel
theorem dX4_settle_72 : decode cX4_settle 72 = .ok (.iload_n 1, 1) := by decide +kernel
theorem dX4_settle_73 : decode cX4_settle 73 = .ok (.iload_n 2, 1) := by decide +kernel
theorem dX4_settle_74 : decode cX4_settle 74 = .ok (.invokevirtual 102, 3) := by decide +kernel
theorem dX4_settle_77 : decode cX4_settle 77 = .ok (.iconst 1, 1) := by decide +kernel
theorem dX4_settle_78 : decode cX4_settle 78 = .ok (.ireturn, 1) := by decide +kernel
theorem dX4_reopen_0 : decode cX4_reopen 0 = .ok (.aload_n 0, 1) := by decide +kernel
theorem dX4_reopen_1 : decode cX4_reopen 1 = .ok (.iload_n 1, 1) := by decide +kernel
theorem dX4_reopen_2 : decode cX4_reopen 2 = .ok (.invokevirtual 98, 3) := by decide +kernel
theorem dX4_reopen_5 : decode cX4_reopen 5 = .ok (.ifCond .ne 5, 3) := by decide +kernel
theorem dX4_reopen_8 : decode cX4_reopen 8 = .ok (.iconst (-1), 1) := by decide +kernel
theorem dX4_reopen_9 : decode cX4_reopen 9 = .ok (.ireturn, 1) := by decide +kernel
theorem dX4_reopen_10 : decode cX4_reopen 10 = .ok (.aload_n 0, 1) := by decide +kernel
theorem dX4_reopen_11 : decode cX4_reopen 11 = .ok (.getfield 30, 3) := by decide +kernel
theorem dX4_reopen_14 : decode cX4_reopen 14 = .ok (.iload_n 1, 1) := by decide +kernel
theorem dX4_reopen_15 : decode cX4_reopen 15 = .ok (.iaload, 1) := by decide +kernel
theorem dX4_reopen_16 : decode cX4_reopen 16 = .ok (.bipush (-9), 2) := by decide +kernel
theorem dX4_reopen_18 : decode cX4_reopen 18 = .ok (.if_icmp .ne 6, 3) := by decide +kernel
theorem dX4_reopen_21 : decode cX4_reopen 21 = .ok (.bipush (-3), 2) := by decide +kernel
theorem dX4_reopen_23 : decode cX4_reopen 23 = .ok (.ireturn, 1) := by decide +kernel
theorem dX4_reopen_24 : decode cX4_reopen 24 = .ok (.aload_n 0, 1) := by decide +kernel
theorem dX4_reopen_25 : decode cX4_reopen 25 = .ok (.getfield 30, 3) := by decide +kernel
theorem dX4_reopen_28 : decode cX4_reopen 28 = .ok (.iload_n 1, 1) := by decide +kernel
theorem dX4_reopen_29 : decode cX4_reopen 29 = .ok (.iaload, 1) := by decide +kernel
theorem dX4_reopen_30 : decode cX4_reopen 30 = .ok (.istore_n 2, 1) := by decide +kernel
theorem dX4_reopen_31 : decode cX4_reopen 31 = .ok (.aload_n 0, 1) := by decide +kernel
theorem dX4_reopen_32 : decode cX4_reopen 32 = .ok (.iload_n 1, 1) := by decide +kernel
theorem dX4_reopen_33 : decode cX4_reopen 33 = .ok (.bipush (-9), 2) := by decide +kernel
theorem dX4_reopen_35 : decode cX4_reopen 35 = .ok (.invokevirtual 102, 3) := by decide +kernel
theorem dX4_reopen_38 : decode cX4_reopen 38 = .ok (.iload_n 2, 1) := by decide +kernel
theorem dX4_reopen_39 : decode cX4_reopen 39 = .ok (.ireturn, 1) := by decide +kernel
theorem dX4_setting_0 : decode cX4_setting 0 = .ok (.iload_n 1, 1) := by decide +kernel
theorem dX4_setting_1 : decode cX4_setting 1 = .ok (.iconst 0, 1) := by decide +kernel
theorem dX4_setting_2 : decode cX4_setting 2 = .ok (.iconst 2, 1) := by decide +kernel
theorem dX4_setting_3 : decode cX4_setting 3 = .ok (.invokestatic 82, 3) := by decide +kernel
theorem dX4_setting_6 : decode cX4_setting 6 = .ok (.ifCond .eq 22, 3) := by decide +kernel
theorem dX4_setting_9 : decode cX4_setting 9 = .ok (.iload_n 2, 1) := by decide +kernel
theorem dX4_setting_10 : decode cX4_setting 10 = .ok (.iconst 0, 1) := by decide +kernel
theorem dX4_setting_11 : decode cX4_setting 11 = .ok (.iload_n 1, 1) := by decide +kernel
theorem dX4_setting_12 : decode cX4_setting 12 = .ok (.iconst 2, 1) := by decide +kernel
theorem dX4_setting_13 : decode cX4_setting 13 = .ok (.if_icmp .ne 8, 3) := by decide +kernel
theorem dX4_setting_16 : decode cX4_setting 16 = .ok (.bipush 100, 2) := by decide +kernel
theorem dX4_setting_18 : decode cX4_setting 18 = .ok (.goto 4, 3) := by decide +kernel
theorem dX4_setting_21 : decode cX4_setting 21 = .ok (.iconst 2, 1) := by decide +kernel
theorem dX4_setting_22 : decode cX4_setting 22 = .ok (.invokestatic 82, 3) := by decide +kernel
theorem dX4_setting_25 : decode cX4_setting 25 = .ok (.ifCond .ne 6, 3) := by decide +kernel
theorem dX4_setting_28 : decode cX4_setting 28 = .ok (.bipush (-2), 2) := by decide +kernel
theorem dX4_setting_30 : decode cX4_setting 30 = .ok (.ireturn, 1) := by decide +kernel
theorem dX4_setting_31 : decode cX4_setting 31 = .ok (.aload_n 0, 1) := by decide +kernel
theorem dX4_setting_32 : decode cX4_setting 32 = .ok (.getfield 13, 3) := by decide +kernel
theorem dX4_setting_35 : decode cX4_setting 35 = .ok (.iload_n 1, 1) := by decide +kernel
theorem dX4_setting_36 : decode cX4_setting 36 = .ok (.iaload, 1) := by decide +kernel
theorem dX4_setting_37 : decode cX4_setting 37 = .ok (.istore_n 3, 1) := by decide +kernel
theorem dX4_setting_38 : decode cX4_setting 38 = .ok (.aload_n 0, 1) := by decide +kernel
theorem dX4_setting_39 : decode cX4_setting 39 = .ok (.getfield 13, 3) := by decide +kernel
theorem dX4_setting_42 : decode cX4_setting 42 = .ok (.iload_n 1, 1) := by decide +kernel
theorem dX4_setting_43 : decode cX4_setting 43 = .ok (.iload_n 2, 1) := by decide +kernel
theorem dX4_setting_44 : decode cX4_setting 44 = .ok (.iastore, 1) := by decide +kernel
theorem dX4_setting_45 : decode cX4_setting 45 = .ok (.iload_n 3, 1) := by decide +kernel
theorem dX4_setting_46 : decode cX4_setting 46 = .ok (.ireturn, 1) := by decide +kernel
theorem dX4_ofWrong_0 : decode cX4_ofWrong 0 = .ok (.aload_n 0, 1) := by decide +kernel
theorem dX4_ofWrong_1 : decode cX4_ofWrong 1 = .ok (.iload_n 1, 1) := by decide +kernel
theorem dX4_ofWrong_2 : decode cX4_ofWrong 2 = .ok (.invokevirtual 98, 3) := by decide +kernel
theorem dX4_ofWrong_5 : decode cX4_ofWrong 5 = .ok (.ifCond .ne 5, 3) := by decide +kernel
theorem dX4_ofWrong_8 : decode cX4_ofWrong 8 = .ok (.iconst (-1), 1) := by decide +kernel
theorem dX4_ofWrong_9 : decode cX4_ofWrong 9 = .ok (.ireturn, 1) := by decide +kernel
theorem dX4_ofWrong_10 : decode cX4_ofWrong 10 = .ok (.iload_n 2, 1) := by decide +kernel
theorem dX4_ofWrong_11 : decode cX4_ofWrong 11 = .ok (.tableswitch 97 0 5 #[37, 44, 59, 66, 83, 90], 37) := by decide +kernel
theorem dX4_ofWrong_48 : decode cX4_ofWrong 48 = .ok (.aload_n 0, 1) := by decide +kernel
theorem dX4_ofWrong_49 : decode cX4_ofWrong 49 = .ok (.getfield 21, 3) := by decide +kernel
theorem dX4_ofWrong_52 : decode cX4_ofWrong 52 = .ok (.iload_n 1, 1) := by decide +kernel
theorem dX4_ofWrong_53 : decode cX4_ofWrong 53 = .ok (.iaload, 1) := by decide +kernel
theorem dX4_ofWrong_54 : decode cX4_ofWrong 54 = .ok (.ireturn, 1) := by decide +kernel
theorem dX4_ofWrong_55 : decode cX4_ofWrong 55 = .ok (.aload_n 0, 1) := by decide +kernel
theorem dX4_ofWrong_56 : decode cX4_ofWrong 56 = .ok (.getfield 24, 3) := by decide +kernel
theorem dX4_ofWrong_59 : decode cX4_ofWrong 59 = .ok (.iload_n 1, 1) := by decide +kernel
theorem dX4_ofWrong_60 : decode cX4_ofWrong 60 = .ok (.baload, 1) := by decide +kernel
theorem dX4_ofWrong_61 : decode cX4_ofWrong 61 = .ok (.ifCond .eq 7, 3) := by decide +kernel
theorem dX4_ofWrong_64 : decode cX4_ofWrong 64 = .ok (.iconst 1, 1) := by decide +kernel
theorem dX4_ofWrong_65 : decode cX4_ofWrong 65 = .ok (.goto 4, 3) := by decide +kernel
theorem dX4_ofWrong_68 : decode cX4_ofWrong 68 = .ok (.iconst 0, 1) := by decide +kernel
theorem dX4_ofWrong_69 : decode cX4_ofWrong 69 = .ok (.ireturn, 1) := by decide +kernel
theorem dX4_ofWrong_70 : decode cX4_ofWrong 70 = .ok (.aload_n 0, 1) := by decide +kernel
theorem dX4_ofWrong_71 : decode cX4_ofWrong 71 = .ok (.getfield 27, 3) := by decide +kernel
theorem dX4_ofWrong_74 : decode cX4_ofWrong 74 = .ok (.iload_n 1, 1) := by decide +kernel
theorem dX4_ofWrong_75 : decode cX4_ofWrong 75 = .ok (.iaload, 1) := by decide +kernel
theorem dX4_ofWrong_76 : decode cX4_ofWrong 76 = .ok (.ireturn, 1) := by decide +kernel
theorem dX4_ofWrong_77 : decode cX4_ofWrong 77 = .ok (.aload_n 0, 1) := by decide +kernel
theorem dX4_ofWrong_78 : decode cX4_ofWrong 78 = .ok (.getfield 30, 3) := by decide +kernel
theorem dX4_ofWrong_81 : decode cX4_ofWrong 81 = .ok (.iload_n 1, 1) := by decide +kernel
theorem dX4_ofWrong_82 : decode cX4_ofWrong 82 = .ok (.iaload, 1) := by decide +kernel
theorem dX4_ofWrong_83 : decode cX4_ofWrong 83 = .ok (.bipush (-9), 2) := by decide +kernel
theorem dX4_ofWrong_85 : decode cX4_ofWrong 85 = .ok (.if_icmp .eq 7, 3) := by decide +kernel
theorem dX4_ofWrong_88 : decode cX4_ofWrong 88 = .ok (.iconst 1, 1) := by decide +kernel
theorem dX4_ofWrong_89 : decode cX4_ofWrong 89 = .ok (.goto 4, 3) := by decide +kernel
theorem dX4_ofWrong_92 : decode cX4_ofWrong 92 = .ok (.iconst 0, 1) := by decide +kernel
theorem dX4_ofWrong_93 : decode cX4_ofWrong 93 = .ok (.ireturn, 1) := by decide +kernel
theorem dX4_ofWrong_94 : decode cX4_ofWrong 94 = .ok (.aload_n 0, 1) := by decide +kernel
theorem dX4_ofWrong_95 : decode cX4_ofWrong 95 = .ok (.getfield 30, 3) := by decide +kernel
theorem dX4_ofWrong_98 : decode cX4_ofWrong 98 = .ok (.iload_n 1, 1) := by decide +kernel
theorem dX4_ofWrong_99 : decode cX4_ofWrong 99 = .ok (.iaload, 1) := by decide +kernel
theorem dX4_ofWrong_100 : decode cX4_ofWrong 100 = .ok (.ireturn, 1) := by decide +kernel
theorem dX4_ofWrong_101 : decode cX4_ofWrong 101 = .ok (.aload_n 0, 1) := by decide +kernel
theorem dX4_ofWrong_102 : decode cX4_ofWrong 102 = .ok (.getfield 33, 3) := by decide +kernel
theorem dX4_ofWrong_105 : decode cX4_ofWrong 105 = .ok (.iload_n 1, 1) := by decide +kernel
theorem dX4_ofWrong_106 : decode cX4_ofWrong 106 = .ok (.iaload, 1) := by decide +kernel
theorem dX4_ofWrong_107 : decode cX4_ofWrong 107 = .ok (.ireturn, 1) := by decide +kernel
theorem dX4_ofWrong_108 : decode cX4_ofWrong 108 = .ok (.bipush (-2), 2) := by decide +kernel
theorem dX4_ofWrong_110 : decode cX4_ofWrong 110 = .ok (.ireturn, 1) := by decide +kernel
theorem dX4_isUnit_0 : decode cX4_isUnit 0 = .ok (.aload_n 0, 1) := by decide +kernel
theorem dX4_isUnit_1 : decode cX4_isUnit 1 = .ok (.getfield 17, 3) := by decide +kernel
theorem dX4_isUnit_4 : decode cX4_isUnit 4 = .ok (.iload_n 1, 1) := by decide +kernel
theorem dX4_isUnit_5 : decode cX4_isUnit 5 = .ok (.baload, 1) := by decide +kernel
theorem dX4_isUnit_6 : decode cX4_isUnit 6 = .ok (.ifCond .eq 28, 3) := by decide +kernel
theorem dX4_isUnit_9 : decode cX4_isUnit 9 = .ok (.aload_n 0, 1) := by decide +kernel
theorem dX4_isUnit_10 : decode cX4_isUnit 10 = .ok (.getfield 27, 3) := by decide +kernel
theorem dX4_isUnit_13 : decode cX4_isUnit 13 = .ok (.iload_n 1, 1) := by decide +kernel
theorem dX4_isUnit_14 : decode cX4_isUnit 14 = .ok (.iaload, 1) := by decide +kernel
theorem dX4_isUnit_15 : decode cX4_isUnit 15 = .ok (.bipush (-9), 2) := by decide +kernel
theorem dX4_isUnit_17 : decode cX4_isUnit 17 = .ok (.if_icmp .eq 13, 3) := by decide +kernel
theorem dX4_isUnit_20 : decode cX4_isUnit 20 = .ok (.iload_n 1, 1) := by decide +kernel
theorem dX4_isUnit_21 : decode cX4_isUnit 21 = .ok (.aload_n 0, 1) := by decide +kernel
theorem dX4_isUnit_22 : decode cX4_isUnit 22 = .ok (.getfield 27, 3) := by decide +kernel
theorem dX4_isUnit_25 : decode cX4_isUnit 25 = .ok (.iload_n 1, 1) := by decide +kernel
theorem dX4_isUnit_26 : decode cX4_isUnit 26 = .ok (.iaload, 1) := by decide +kernel
theorem dX4_isUnit_27 : decode cX4_isUnit 27 = .ok (.if_icmp .ge 7, 3) := by decide +kernel
theorem dX4_isUnit_30 : decode cX4_isUnit 30 = .ok (.iconst 1, 1) := by decide +kernel
theorem dX4_isUnit_31 : decode cX4_isUnit 31 = .ok (.goto 4, 3) := by decide +kernel
theorem dX4_isUnit_34 : decode cX4_isUnit 34 = .ok (.iconst 0, 1) := by decide +kernel
theorem dX4_isUnit_35 : decode cX4_isUnit 35 = .ok (.ireturn, 1) := by decide +kernel
theorem dX4_unitOf_0 : decode cX4_unitOf 0 = .ok (.aload_n 0, 1) := by decide +kernel
theorem dX4_unitOf_1 : decode cX4_unitOf 1 = .ok (.getfield 27, 3) := by decide +kernel
theorem dX4_unitOf_4 : decode cX4_unitOf 4 = .ok (.iload_n 1, 1) := by decide +kernel
theorem dX4_unitOf_5 : decode cX4_unitOf 5 = .ok (.iaload, 1) := by decide +kernel
theorem dX4_unitOf_6 : decode cX4_unitOf 6 = .ok (.bipush (-9), 2) := by decide +kernel
theorem dX4_unitOf_8 : decode cX4_unitOf 8 = .ok (.if_icmp .eq 22, 3) := by decide +kernel
theorem dX4_unitOf_11 : decode cX4_unitOf 11 = .ok (.aload_n 0, 1) := by decide +kernel
theorem dX4_unitOf_12 : decode cX4_unitOf 12 = .ok (.getfield 27, 3) := by decide +kernel
theorem dX4_unitOf_15 : decode cX4_unitOf 15 = .ok (.iload_n 1, 1) := by decide +kernel
theorem dX4_unitOf_16 : decode cX4_unitOf 16 = .ok (.iaload, 1) := by decide +kernel
theorem dX4_unitOf_17 : decode cX4_unitOf 17 = .ok (.iload_n 1, 1) := by decide +kernel
theorem dX4_unitOf_18 : decode cX4_unitOf 18 = .ok (.if_icmp .ge 12, 3) := by decide +kernel
theorem dX4_unitOf_21 : decode cX4_unitOf 21 = .ok (.aload_n 0, 1) := by decide +kernel
theorem dX4_unitOf_22 : decode cX4_unitOf 22 = .ok (.getfield 27, 3) := by decide +kernel
theorem dX4_unitOf_25 : decode cX4_unitOf 25 = .ok (.iload_n 1, 1) := by decide +kernel
theorem dX4_unitOf_26 : decode cX4_unitOf 26 = .ok (.iaload, 1) := by decide +kernel
theorem dX4_unitOf_27 : decode cX4_unitOf 27 = .ok (.goto 4, 3) := by decide +kernel
theorem dX4_unitOf_30 : decode cX4_unitOf 30 = .ok (.iload_n 1, 1) := by decide +kernel
theorem dX4_unitOf_31 : decode cX4_unitOf 31 = .ok (.ireturn, 1) := by decide +kernel
theorem dX4_unitWeight_0 : decode cX4_unitWeight 0 = .ok (.aload_n 0, 1) := by decide +kernel
theorem dX4_unitWeight_1 : decode cX4_unitWeight 1 = .ok (.getfield 21, 3) := by decide +kernel
theorem dX4_unitWeight_4 : decode cX4_unitWeight 4 = .ok (.iload_n 1, 1) := by decide +kernel
theorem dX4_unitWeight_5 : decode cX4_unitWeight 5 = .ok (.iaload, 1) := by decide +kernel
theorem dX4_unitWeight_6 : decode cX4_unitWeight 6 = .ok (.aload_n 0, 1) := by decide +kernel
theorem dX4_unitWeight_7 : decode cX4_unitWeight 7 = .ok (.getfield 27, 3) := by decide +kernel
theorem dX4_unitWeight_10 : decode cX4_unitWeight 10 = .ok (.iload_n 1, 1) := by decide +kernel
theorem dX4_unitWeight_11 : decode cX4_unitWeight 11 = .ok (.iaload, 1) := by decide +kernel
theorem dX4_unitWeight_12 : decode cX4_unitWeight 12 = .ok (.bipush (-9), 2) := by decide +kernel
theorem dX4_unitWeight_14 : decode cX4_unitWeight 14 = .ok (.if_icmp .ne 7, 3) := by decide +kernel
theorem dX4_unitWeight_17 : decode cX4_unitWeight 17 = .ok (.iconst 0, 1) := by decide +kernel
theorem dX4_unitWeight_18 : decode cX4_unitWeight 18 = .ok (.goto 14, 3) := by decide +kernel
theorem dX4_unitWeight_21 : decode cX4_unitWeight 21 = .ok (.aload_n 0, 1) := by decide +kernel
theorem dX4_unitWeight_22 : decode cX4_unitWeight 22 = .ok (.getfield 21, 3) := by decide +kernel
theorem dX4_unitWeight_25 : decode cX4_unitWeight 25 = .ok (.aload_n 0, 1) := by decide +kernel
theorem dX4_unitWeight_26 : decode cX4_unitWeight 26 = .ok (.getfield 27, 3) := by decide +kernel
theorem dX4_unitWeight_29 : decode cX4_unitWeight 29 = .ok (.iload_n 1, 1) := by decide +kernel
theorem dX4_unitWeight_30 : decode cX4_unitWeight 30 = .ok (.iaload, 1) := by decide +kernel
theorem dX4_unitWeight_31 : decode cX4_unitWeight 31 = .ok (.iaload, 1) := by decide +kernel
theorem dX4_unitWeight_32 : decode cX4_unitWeight 32 = .ok (.iadd, 1) := by decide +kernel
theorem dX4_unitWeight_33 : decode cX4_unitWeight 33 = .ok (.ireturn, 1) := by decide +kernel
theorem dX4_isUnitBroke_0 : decode cX4_isUnitBroke 0 = .ok (.aload_n 0, 1) := by decide +kernel
theorem dX4_isUnitBroke_1 : decode cX4_isUnitBroke 1 = .ok (.getfield 24, 3) := by decide +kernel
theorem dX4_isUnitBroke_4 : decode cX4_isUnitBroke 4 = .ok (.iload_n 1, 1) := by decide +kernel
theorem dX4_isUnitBroke_5 : decode cX4_isUnitBroke 5 = .ok (.baload, 1) := by decide +kernel
theorem dX4_isUnitBroke_6 : decode cX4_isUnitBroke 6 = .ok (.ifCond .eq 32, 3) := by decide +kernel
theorem dX4_isUnitBroke_9 : decode cX4_isUnitBroke 9 = .ok (.aload_n 0, 1) := by decide +kernel
theorem dX4_isUnitBroke_10 : decode cX4_isUnitBroke 10 = .ok (.getfield 27, 3) := by decide +kernel
theorem dX4_isUnitBroke_13 : decode cX4_isUnitBroke 13 = .ok (.iload_n 1, 1) := by decide +kernel
theorem dX4_isUnitBroke_14 : decode cX4_isUnitBroke 14 = .ok (.iaload, 1) := by decide +kernel
theorem dX4_isUnitBroke_15 : decode cX4_isUnitBroke 15 = .ok (.bipush (-9), 2) := by decide +kernel
theorem dX4_isUnitBroke_17 : decode cX4_isUnitBroke 17 = .ok (.if_icmp .eq 17, 3) := by decide +kernel
theorem dX4_isUnitBroke_20 : decode cX4_isUnitBroke 20 = .ok (.aload_n 0, 1) := by decide +kernel
theorem dX4_isUnitBroke_21 : decode cX4_isUnitBroke 21 = .ok (.getfield 24, 3) := by decide +kernel
theorem dX4_isUnitBroke_24 : decode cX4_isUnitBroke 24 = .ok (.aload_n 0, 1) := by decide +kernel
theorem dX4_isUnitBroke_25 : decode cX4_isUnitBroke 25 = .ok (.getfield 27, 3) := by decide +kernel
theorem dX4_isUnitBroke_28 : decode cX4_isUnitBroke 28 = .ok (.iload_n 1, 1) := by decide +kernel
theorem dX4_isUnitBroke_29 : decode cX4_isUnitBroke 29 = .ok (.iaload, 1) := by decide +kernel
theorem dX4_isUnitBroke_30 : decode cX4_isUnitBroke 30 = .ok (.baload, 1) := by decide +kernel
theorem dX4_isUnitBroke_31 : decode cX4_isUnitBroke 31 = .ok (.ifCond .eq 7, 3) := by decide +kernel
theorem dX4_isUnitBroke_34 : decode cX4_isUnitBroke 34 = .ok (.iconst 1, 1) := by decide +kernel
theorem dX4_isUnitBroke_35 : decode cX4_isUnitBroke 35 = .ok (.goto 4, 3) := by decide +kernel
theorem dX4_isUnitBroke_38 : decode cX4_isUnitBroke 38 = .ok (.iconst 0, 1) := by decide +kernel
theorem dX4_isUnitBroke_39 : decode cX4_isUnitBroke 39 = .ok (.ireturn, 1) := by decide +kernel
theorem dX4_blame_0 : decode cX4_blame 0 = .ok (.aload_n 0, 1) := by decide +kernel
theorem dX4_blame_1 : decode cX4_blame 1 = .ok (.getfield 91, 3) := by decide +kernel
theorem dX4_blame_4 : decode cX4_blame 4 = .ok (.istore_n 1, 1) := by decide +kernel
theorem dX4_blame_5 : decode cX4_blame 5 = .ok (.iconst 0, 1) := by decide +kernel
theorem dX4_blame_6 : decode cX4_blame 6 = .ok (.istore_n 2, 1) := by decide +kernel
theorem dX4_blame_7 : decode cX4_blame 7 = .ok (.iload_n 2, 1) := by decide +kernel
theorem dX4_blame_8 : decode cX4_blame 8 = .ok (.bipush 6, 2) := by decide +kernel
theorem dX4_blame_10 : decode cX4_blame 10 = .ok (.if_icmp .ge 31, 3) := by decide +kernel
theorem dX4_blame_13 : decode cX4_blame 13 = .ok (.iload_n 1, 1) := by decide +kernel
theorem dX4_blame_14 : decode cX4_blame 14 = .ok (.aload_n 0, 1) := by decide +kernel
theorem dX4_blame_15 : decode cX4_blame 15 = .ok (.getfield 17, 3) := by decide +kernel
theorem dX4_blame_18 : decode cX4_blame 18 = .ok (.iload_n 2, 1) := by decide +kernel
theorem dX4_blame_19 : decode cX4_blame 19 = .ok (.baload, 1) := by decide +kernel
theorem dX4_blame_20 : decode cX4_blame 20 = .ok (.ifCond .eq 12, 3) := by decide +kernel
theorem dX4_blame_23 : decode cX4_blame 23 = .ok (.aload_n 0, 1) := by decide +kernel
theorem dX4_blame_24 : decode cX4_blame 24 = .ok (.getfield 21, 3) := by decide +kernel
theorem dX4_blame_27 : decode cX4_blame 27 = .ok (.iload_n 2, 1) := by decide +kernel
theorem dX4_blame_28 : decode cX4_blame 28 = .ok (.iaload, 1) := by decide +kernel
theorem dX4_blame_29 : decode cX4_blame 29 = .ok (.goto 4, 3) := by decide +kernel
theorem dX4_blame_32 : decode cX4_blame 32 = .ok (.iconst 0, 1) := by decide +kernel
theorem dX4_blame_33 : decode cX4_blame 33 = .ok (.iadd, 1) := by decide +kernel
theorem dX4_blame_34 : decode cX4_blame 34 = .ok (.istore_n 1, 1) := by decide +kernel
theorem dX4_blame_35 : decode cX4_blame 35 = .ok (.iinc 2 1, 3) := by decide +kernel
theorem dX4_blame_38 : decode cX4_blame 38 = .ok (.goto (-31), 3) := by decide +kernel
theorem dX4_blame_41 : decode cX4_blame 41 = .ok (.iload_n 1, 1) := by decide +kernel
theorem dX4_blame_42 : decode cX4_blame 42 = .ok (.ireturn, 1) := by decide +kernel
theorem dX4_findEntitled_0 : decode cX4_findEntitled 0 = .ok (.aload_n 0, 1) := by decide +kernel
theorem dX4_findEntitled_1 : decode cX4_findEntitled 1 = .ok (.invokevirtual 106, 3) := by decide +kernel
theorem dX4_findEntitled_4 : decode cX4_findEntitled 4 = .ok (.istore_n 1, 1) := by decide +kernel
theorem dX4_findEntitled_5 : decode cX4_findEntitled 5 = .ok (.iload_n 1, 1) := by decide +kernel
theorem dX4_findEntitled_6 : decode cX4_findEntitled 6 = .ok (.ifCond .eq 21, 3) := by decide +kernel
theorem dX4_findEntitled_9 : decode cX4_findEntitled 9 = .ok (.bipush 100, 2) := by decide +kernel
theorem dX4_findEntitled_11 : decode cX4_findEntitled 11 = .ok (.aload_n 0, 1) := by decide +kernel
theorem dX4_findEntitled_12 : decode cX4_findEntitled 12 = .ok (.getfield 91, 3) := by decide +kernel
theorem dX4_findEntitled_15 : decode cX4_findEntitled 15 = .ok (.imul, 1) := by decide +kernel
theorem dX4_findEntitled_16 : decode cX4_findEntitled 16 = .ok (.aload_n 0, 1) := by decide +kernel
theorem dX4_findEntitled_17 : decode cX4_findEntitled 17 = .ok (.getfield 13, 3) := by decide +kernel
theorem dX4_findEntitled_20 : decode cX4_findEntitled 20 = .ok (.iconst 2, 1) := by decide +kernel
theorem dX4_findEntitled_21 : decode cX4_findEntitled 21 = .ok (.iaload, 1) := by decide +kernel
theorem dX4_findEntitled_22 : decode cX4_findEntitled 22 = .ok (.iload_n 1, 1) := by decide +kernel
theorem dX4_findEntitled_23 : decode cX4_findEntitled 23 = .ok (.imul, 1) := by decide +kernel
theorem dX4_findEntitled_24 : decode cX4_findEntitled 24 = .ok (.if_icmp .le 7, 3) := by decide +kernel
theorem dX4_findEntitled_27 : decode cX4_findEntitled 27 = .ok (.iconst 1, 1) := by decide +kernel
theorem dX4_findEntitled_28 : decode cX4_findEntitled 28 = .ok (.goto 4, 3) := by decide +kernel
theorem dX4_findEntitled_31 : decode cX4_findEntitled 31 = .ok (.iconst 0, 1) := by decide +kernel
theorem dX4_findEntitled_32 : decode cX4_findEntitled 32 = .ok (.istore_n 2, 1) := by decide +kernel
theorem dX4_findEntitled_33 : decode cX4_findEntitled 33 = .ok (.aload_n 0, 1) := by decide +kernel
theorem dX4_findEntitled_34 : decode cX4_findEntitled 34 = .ok (.iload_n 2, 1) := by decide +kernel
theorem dX4_findEntitled_35 : decode cX4_findEntitled 35 = .ok (.ifCond .eq 7, 3) := by decide +kernel
theorem dX4_findEntitled_38 : decode cX4_findEntitled 38 = .ok (.lconst 0, 1) := by decide +kernel
theorem dX4_findEntitled_39 : decode cX4_findEntitled 39 = .ok (.goto 16, 3) := by decide +kernel
theorem dX4_findEntitled_42 : decode cX4_findEntitled 42 = .ok (.aload_n 0, 1) := by decide +kernel
theorem dX4_findEntitled_43 : decode cX4_findEntitled 43 = .ok (.getfield 87, 3) := by decide +kernel
theorem dX4_findEntitled_46 : decode cX4_findEntitled 46 = .ok (.i2l, 1) := by decide +kernel
theorem dX4_findEntitled_47 : decode cX4_findEntitled 47 = .ok (.iload_n 1, 1) := by decide +kernel
theorem dX4_findEntitled_48 : decode cX4_findEntitled 48 = .ok (.aload_n 0, 1) := by decide +kernel
theorem dX4_findEntitled_49 : decode cX4_findEntitled 49 = .ok (.getfield 91, 3) := by decide +kernel
theorem dX4_findEntitled_52 : decode cX4_findEntitled 52 = .ok (.isub, 1) := by decide +kernel
theorem dX4_findEntitled_53 : decode cX4_findEntitled 53 = .ok (.i2l, 1) := by decide +kernel
theorem dX4_findEntitled_54 : decode cX4_findEntitled 54 = .ok (.lmul, 1) := by decide +kernel
theorem dX4_findEntitled_55 : decode cX4_findEntitled 55 = .ok (.iload_n 2, 1) := by decide +kernel
theorem dX4_findEntitled_56 : decode cX4_findEntitled 56 = .ok (.ifCond .eq 7, 3) := by decide +kernel
theorem dX4_findEntitled_59 : decode cX4_findEntitled 59 = .ok (.lconst 1, 1) := by decide +kernel
theorem dX4_findEntitled_60 : decode cX4_findEntitled 60 = .ok (.goto 5, 3) := by decide +kernel
theorem dX4_findEntitled_63 : decode cX4_findEntitled 63 = .ok (.iload_n 1, 1) := by decide +kernel
theorem dX4_findEntitled_64 : decode cX4_findEntitled 64 = .ok (.i2l, 1) := by decide +kernel
theorem dX4_findEntitled_65 : decode cX4_findEntitled 65 = .ok (.invokevirtual 78, 3) := by decide +kernel
theorem dX4_findEntitled_68 : decode cX4_findEntitled 68 = .ok (.return_, 1) := by decide +kernel
theorem dX4_findCredit_0 : decode cX4_findCredit 0 = .ok (.aload_n 0, 1) := by decide +kernel
theorem dX4_findCredit_1 : decode cX4_findCredit 1 = .ok (.invokevirtual 106, 3) := by decide +kernel
theorem dX4_findCredit_4 : decode cX4_findCredit 4 = .ok (.istore_n 2, 1) := by decide +kernel
theorem dX4_findCredit_5 : decode cX4_findCredit 5 = .ok (.aload_n 0, 1) := by decide +kernel
theorem dX4_findCredit_6 : decode cX4_findCredit 6 = .ok (.getfield 30, 3) := by decide +kernel
theorem dX4_findCredit_9 : decode cX4_findCredit 9 = .ok (.iload_n 1, 1) := by decide +kernel
theorem dX4_findCredit_10 : decode cX4_findCredit 10 = .ok (.iaload, 1) := by decide +kernel
theorem dX4_findCredit_11 : decode cX4_findCredit 11 = .ok (.bipush (-9), 2) := by decide +kernel
theorem dX4_findCredit_13 : decode cX4_findCredit 13 = .ok (.if_icmp .ne 7, 3) := by decide +kernel
theorem dX4_findCredit_16 : decode cX4_findCredit 16 = .ok (.lconst 0, 1) := by decide +kernel
theorem dX4_findCredit_17 : decode cX4_findCredit 17 = .ok (.goto 10, 3) := by decide +kernel
theorem dX4_findCredit_20 : decode cX4_findCredit 20 = .ok (.aload_n 0, 1) := by decide +kernel
theorem dX4_findCredit_21 : decode cX4_findCredit 21 = .ok (.getfield 30, 3) := by decide +kernel
theorem dX4_findCredit_24 : decode cX4_findCredit 24 = .ok (.iload_n 1, 1) := by decide +kernel
theorem dX4_findCredit_25 : decode cX4_findCredit 25 = .ok (.iaload, 1) := by decide +kernel
theorem dX4_findCredit_26 : decode cX4_findCredit 26 = .ok (.i2l, 1) := by decide +kernel
theorem dX4_findCredit_27 : decode cX4_findCredit 27 = .ok (.lstore_n 3, 1) := by decide +kernel
theorem dX4_findCredit_28 : decode cX4_findCredit 28 = .ok (.aload_n 0, 1) := by decide +kernel
theorem dX4_findCredit_29 : decode cX4_findCredit 29 = .ok (.getfield 30, 3) := by decide +kernel
theorem dX4_findCredit_32 : decode cX4_findCredit 32 = .ok (.iload_n 1, 1) := by decide +kernel
theorem dX4_findCredit_33 : decode cX4_findCredit 33 = .ok (.iaload, 1) := by decide +kernel
theorem dX4_findCredit_34 : decode cX4_findCredit 34 = .ok (.bipush (-9), 2) := by decide +kernel
theorem dX4_findCredit_36 : decode cX4_findCredit 36 = .ok (.if_icmp .eq 11, 3) := by decide +kernel
theorem dX4_findCredit_39 : decode cX4_findCredit 39 = .ok (.iload_n 2, 1) := by decide +kernel
theorem dX4_findCredit_40 : decode cX4_findCredit 40 = .ok (.ifCond .le 7, 3) := by decide +kernel
theorem dX4_findCredit_43 : decode cX4_findCredit 43 = .ok (.iconst 1, 1) := by decide +kernel
theorem dX4_findCredit_44 : decode cX4_findCredit 44 = .ok (.goto 4, 3) := by decide +kernel
theorem dX4_findCredit_47 : decode cX4_findCredit 47 = .ok (.iconst 0, 1) := by decide +kernel
theorem dX4_findCredit_48 : decode cX4_findCredit 48 = .ok (.istore 5, 2) := by decide +kernel
theorem dX4_findCredit_50 : decode cX4_findCredit 50 = .ok (.aload_n 0, 1) := by decide +kernel
theorem dX4_findCredit_51 : decode cX4_findCredit 51 = .ok (.iload 5, 2) := by decide +kernel
theorem dX4_findCredit_53 : decode cX4_findCredit 53 = .ok (.ifCond .eq 18, 3) := by decide +kernel
theorem dX4_findCredit_56 : decode cX4_findCredit 56 = .ok (.aload_n 0, 1) := by decide +kernel
theorem dX4_findCredit_57 : decode cX4_findCredit 57 = .ok (.getfield 87, 3) := by decide +kernel
theorem dX4_findCredit_60 : decode cX4_findCredit 60 = .ok (.i2l, 1) := by decide +kernel
theorem dX4_findCredit_61 : decode cX4_findCredit 61 = .ok (.aload_n 0, 1) := by decide +kernel
theorem dX4_findCredit_62 : decode cX4_findCredit 62 = .ok (.iload_n 1, 1) := by decide +kernel
theorem dX4_findCredit_63 : decode cX4_findCredit 63 = .ok (.invokevirtual 109, 3) := by decide +kernel
theorem dX4_findCredit_66 : decode cX4_findCredit 66 = .ok (.i2l, 1) := by decide +kernel
theorem dX4_findCredit_67 : decode cX4_findCredit 67 = .ok (.lmul, 1) := by decide +kernel
theorem dX4_findCredit_68 : decode cX4_findCredit 68 = .ok (.goto 4, 3) := by decide +kernel
theorem dX4_findCredit_71 : decode cX4_findCredit 71 = .ok (.lconst 0, 1) := by decide +kernel
theorem dX4_findCredit_72 : decode cX4_findCredit 72 = .ok (.iload 5, 2) := by decide +kernel
theorem dX4_findCredit_74 : decode cX4_findCredit 74 = .ok (.ifCond .eq 8, 3) := by decide +kernel
theorem dX4_findCredit_77 : decode cX4_findCredit 77 = .ok (.iload_n 2, 1) := by decide +kernel
theorem dX4_findCredit_78 : decode cX4_findCredit 78 = .ok (.i2l, 1) := by decide +kernel
theorem dX4_findCredit_79 : decode cX4_findCredit 79 = .ok (.goto 4, 3) := by decide +kernel
theorem dX4_findCredit_82 : decode cX4_findCredit 82 = .ok (.lconst 1, 1) := by decide +kernel
theorem dX4_findCredit_83 : decode cX4_findCredit 83 = .ok (.invokevirtual 78, 3) := by decide +kernel
theorem dX4_findCredit_86 : decode cX4_findCredit 86 = .ok (.aload_n 0, 1) := by decide +kernel
theorem dX4_findCredit_87 : decode cX4_findCredit 87 = .ok (.getfield 13, 3) := by decide +kernel
theorem dX4_findCredit_90 : decode cX4_findCredit 90 = .ok (.iconst 0, 1) := by decide +kernel
theorem dX4_findCredit_91 : decode cX4_findCredit 91 = .ok (.iaload, 1) := by decide +kernel
theorem dX4_findCredit_92 : decode cX4_findCredit 92 = .ok (.ifCond .eq 27, 3) := by decide +kernel
theorem dX4_findCredit_95 : decode cX4_findCredit 95 = .ok (.aload_n 0, 1) := by decide +kernel
theorem dX4_findCredit_96 : decode cX4_findCredit 96 = .ok (.getfield 13, 3) := by decide +kernel
theorem dX4_findCredit_99 : decode cX4_findCredit 99 = .ok (.iconst 0, 1) := by decide +kernel
theorem dX4_findCredit_100 : decode cX4_findCredit 100 = .ok (.iaload, 1) := by decide +kernel
theorem dX4_findCredit_101 : decode cX4_findCredit 101 = .ok (.iconst 2, 1) := by decide +kernel
theorem dX4_findCredit_102 : decode cX4_findCredit 102 = .ok (.if_icmp .ne 23, 3) := by decide +kernel
theorem dX4_findCredit_105 : decode cX4_findCredit 105 = .ok (.lload_n 3, 1) := by decide +kernel
theorem dX4_findCredit_106 : decode cX4_findCredit 106 = .ok (.aload_n 0, 1) := by decide +kernel
theorem dX4_findCredit_107 : decode cX4_findCredit 107 = .ok (.getfield 7, 3) := by decide +kernel
theorem dX4_findCredit_110 : decode cX4_findCredit 110 = .ok (.lmul, 1) := by decide +kernel
theorem dX4_findCredit_111 : decode cX4_findCredit 111 = .ok (.aload_n 0, 1) := by decide +kernel
theorem dX4_findCredit_112 : decode cX4_findCredit 112 = .ok (.getfield 75, 3) := by decide +kernel
theorem dX4_findCredit_115 : decode cX4_findCredit 115 = .ok (.lcmp, 1) := by decide +kernel
theorem dX4_findCredit_116 : decode cX4_findCredit 116 = .ok (.ifCond .le 9, 3) := by decide +kernel
theorem dX4_findCredit_119 : decode cX4_findCredit 119 = .ok (.aload_n 0, 1) := by decide +kernel
theorem dX4_findCredit_120 : decode cX4_findCredit 120 = .ok (.lload_n 3, 1) := by decide +kernel
theorem dX4_findCredit_121 : decode cX4_findCredit 121 = .ok (.lconst 1, 1) := by decide +kernel
theorem dX4_findCredit_122 : decode cX4_findCredit 122 = .ok (.invokevirtual 78, 3) := by decide +kernel
theorem dX4_findCredit_125 : decode cX4_findCredit 125 = .ok (.return_, 1) := by decide +kernel
theorem dX4_keeps_0 : decode cX4_keeps 0 = .ok (.aload_n 0, 1) := by decide +kernel
theorem dX4_keeps_1 : decode cX4_keeps 1 = .ok (.getfield 36, 3) := by decide +kernel
theorem dX4_keeps_4 : decode cX4_keeps 4 = .ok (.iload_n 1, 1) := by decide +kernel
theorem dX4_keeps_5 : decode cX4_keeps 5 = .ok (.aload_n 0, 1) := by decide +kernel
theorem dX4_keeps_6 : decode cX4_keeps 6 = .ok (.getfield 75, 3) := by decide +kernel
theorem dX4_keeps_9 : decode cX4_keeps 9 = .ok (.lastore, 1) := by decide +kernel
theorem dX4_keeps_10 : decode cX4_keeps 10 = .ok (.aload_n 0, 1) := by decide +kernel
theorem dX4_keeps_11 : decode cX4_keeps 11 = .ok (.getfield 40, 3) := by decide +kernel
theorem dX4_keeps_14 : decode cX4_keeps 14 = .ok (.iload_n 1, 1) := by decide +kernel
theorem dX4_keeps_15 : decode cX4_keeps 15 = .ok (.aload_n 0, 1) := by decide +kernel
theorem dX4_keeps_16 : decode cX4_keeps 16 = .ok (.getfield 7, 3) := by decide +kernel
theorem dX4_keeps_19 : decode cX4_keeps 19 = .ok (.lastore, 1) := by decide +kernel
theorem dX4_keeps_20 : decode cX4_keeps 20 = .ok (.return_, 1) := by decide +kernel
theorem dX4_openWeight_0 : decode cX4_openWeight 0 = .ok (.iconst 0, 1) := by decide +kernel
theorem dX4_openWeight_1 : decode cX4_openWeight 1 = .ok (.istore_n 2, 1) := by decide +kernel
theorem dX4_openWeight_2 : decode cX4_openWeight 2 = .ok (.iconst 0, 1) := by decide +kernel
theorem dX4_openWeight_3 : decode cX4_openWeight 3 = .ok (.istore_n 3, 1) := by decide +kernel
theorem dX4_openWeight_4 : decode cX4_openWeight 4 = .ok (.iload_n 3, 1) := by decide +kernel
theorem dX4_openWeight_5 : decode cX4_openWeight 5 = .ok (.bipush 6, 2) := by decide +kernel
theorem dX4_openWeight_7 : decode cX4_openWeight 7 = .ok (.if_icmp .ge 52, 3) := by decide +kernel
theorem dX4_openWeight_10 : decode cX4_openWeight 10 = .ok (.iload_n 2, 1) := by decide +kernel
theorem dX4_openWeight_11 : decode cX4_openWeight 11 = .ok (.aload_n 0, 1) := by decide +kernel
theorem dX4_openWeight_12 : decode cX4_openWeight 12 = .ok (.iload_n 3, 1) := by decide +kernel
theorem dX4_openWeight_13 : decode cX4_openWeight 13 = .ok (.invokevirtual 113, 3) := by decide +kernel
theorem dX4_openWeight_16 : decode cX4_openWeight 16 = .ok (.ifCond .eq 34, 3) := by decide +kernel
theorem dX4_openWeight_19 : decode cX4_openWeight 19 = .ok (.aload_n 0, 1) := by decide +kernel
theorem dX4_openWeight_20 : decode cX4_openWeight 20 = .ok (.getfield 30, 3) := by decide +kernel
theorem dX4_openWeight_23 : decode cX4_openWeight 23 = .ok (.iload_n 3, 1) := by decide +kernel
theorem dX4_openWeight_24 : decode cX4_openWeight 24 = .ok (.iaload, 1) := by decide +kernel
theorem dX4_openWeight_25 : decode cX4_openWeight 25 = .ok (.bipush (-9), 2) := by decide +kernel
theorem dX4_openWeight_27 : decode cX4_openWeight 27 = .ok (.if_icmp .ne 23, 3) := by decide +kernel
theorem dX4_openWeight_30 : decode cX4_openWeight 30 = .ok (.iload_n 1, 1) := by decide +kernel
theorem dX4_openWeight_31 : decode cX4_openWeight 31 = .ok (.ifCond .ne 11, 3) := by decide +kernel
theorem dX4_openWeight_34 : decode cX4_openWeight 34 = .ok (.aload_n 0, 1) := by decide +kernel
theorem dX4_openWeight_35 : decode cX4_openWeight 35 = .ok (.iload_n 3, 1) := by decide +kernel
theorem dX4_openWeight_36 : decode cX4_openWeight 36 = .ok (.invokevirtual 116, 3) := by decide +kernel
theorem dX4_openWeight_39 : decode cX4_openWeight 39 = .ok (.ifCond .ne 11, 3) := by decide +kernel
theorem dX4_openWeight_42 : decode cX4_openWeight 42 = .ok (.aload_n 0, 1) := by decide +kernel
theorem dX4_openWeight_43 : decode cX4_openWeight 43 = .ok (.iload_n 3, 1) := by decide +kernel
theorem dX4_openWeight_44 : decode cX4_openWeight 44 = .ok (.invokevirtual 109, 3) := by decide +kernel
theorem dX4_openWeight_47 : decode cX4_openWeight 47 = .ok (.goto 4, 3) := by decide +kernel
theorem dX4_openWeight_50 : decode cX4_openWeight 50 = .ok (.iconst 0, 1) := by decide +kernel
theorem dX4_openWeight_51 : decode cX4_openWeight 51 = .ok (.iadd, 1) := by decide +kernel
theorem dX4_openWeight_52 : decode cX4_openWeight 52 = .ok (.istore_n 2, 1) := by decide +kernel
theorem dX4_openWeight_53 : decode cX4_openWeight 53 = .ok (.iinc 3 1, 3) := by decide +kernel
theorem dX4_openWeight_56 : decode cX4_openWeight 56 = .ok (.goto (-52), 3) := by decide +kernel
theorem dX4_openWeight_59 : decode cX4_openWeight 59 = .ok (.iload_n 2, 1) := by decide +kernel
theorem dX4_openWeight_60 : decode cX4_openWeight 60 = .ok (.ireturn, 1) := by decide +kernel
theorem dX4_findRest_0 : decode cX4_findRest 0 = .ok (.aload_n 0, 1) := by decide +kernel
theorem dX4_findRest_1 : decode cX4_findRest 1 = .ok (.invokevirtual 119, 3) := by decide +kernel
theorem dX4_findRest_4 : decode cX4_findRest 4 = .ok (.aload_n 0, 1) := by decide +kernel
theorem dX4_findRest_5 : decode cX4_findRest 5 = .ok (.iconst 0, 1) := by decide +kernel
theorem dX4_findRest_6 : decode cX4_findRest 6 = .ok (.invokevirtual 122, 3) := by decide +kernel
theorem dX4_findRest_9 : decode cX4_findRest 9 = .ok (.aload_n 0, 1) := by decide +kernel
theorem dX4_findRest_10 : decode cX4_findRest 10 = .ok (.getfield 36, 3) := by decide +kernel
theorem dX4_findRest_13 : decode cX4_findRest 13 = .ok (.iconst 1, 1) := by decide +kernel
theorem dX4_findRest_14 : decode cX4_findRest 14 = .ok (.lconst 0, 1) := by decide +kernel
theorem dX4_findRest_15 : decode cX4_findRest 15 = .ok (.lastore, 1) := by decide +kernel
theorem dX4_findRest_16 : decode cX4_findRest 16 = .ok (.aload_n 0, 1) := by decide +kernel
theorem dX4_findRest_17 : decode cX4_findRest 17 = .ok (.getfield 40, 3) := by decide +kernel
theorem dX4_findRest_20 : decode cX4_findRest 20 = .ok (.iconst 1, 1) := by decide +kernel
theorem dX4_findRest_21 : decode cX4_findRest 21 = .ok (.lconst 1, 1) := by decide +kernel
theorem dX4_findRest_22 : decode cX4_findRest 22 = .ok (.lastore, 1) := by decide +kernel
theorem dX4_findRest_23 : decode cX4_findRest 23 = .ok (.iconst 0, 1) := by decide +kernel
theorem dX4_findRest_24 : decode cX4_findRest 24 = .ok (.istore_n 1, 1) := by decide +kernel
theorem dX4_findRest_25 : decode cX4_findRest 25 = .ok (.iload_n 1, 1) := by decide +kernel
theorem dX4_findRest_26 : decode cX4_findRest 26 = .ok (.bipush 6, 2) := by decide +kernel
theorem dX4_findRest_28 : decode cX4_findRest 28 = .ok (.if_icmp .ge 52, 3) := by decide +kernel
theorem dX4_findRest_31 : decode cX4_findRest 31 = .ok (.aload_n 0, 1) := by decide +kernel
theorem dX4_findRest_32 : decode cX4_findRest 32 = .ok (.iload_n 1, 1) := by decide +kernel
theorem dX4_findRest_33 : decode cX4_findRest 33 = .ok (.invokevirtual 113, 3) := by decide +kernel
theorem dX4_findRest_36 : decode cX4_findRest 36 = .ok (.ifCond .eq 38, 3) := by decide +kernel
theorem dX4_findRest_39 : decode cX4_findRest 39 = .ok (.aload_n 0, 1) := by decide +kernel
theorem dX4_findRest_40 : decode cX4_findRest 40 = .ok (.iload_n 1, 1) := by decide +kernel
theorem dX4_findRest_41 : decode cX4_findRest 41 = .ok (.invokevirtual 125, 3) := by decide +kernel
theorem dX4_findRest_44 : decode cX4_findRest 44 = .ok (.aload_n 0, 1) := by decide +kernel
theorem dX4_findRest_45 : decode cX4_findRest 45 = .ok (.aload_n 0, 1) := by decide +kernel
theorem dX4_findRest_46 : decode cX4_findRest 46 = .ok (.getfield 36, 3) := by decide +kernel
theorem dX4_findRest_49 : decode cX4_findRest 49 = .ok (.iconst 1, 1) := by decide +kernel
theorem dX4_findRest_50 : decode cX4_findRest 50 = .ok (.laload, 1) := by decide +kernel
theorem dX4_findRest_51 : decode cX4_findRest 51 = .ok (.aload_n 0, 1) := by decide +kernel
theorem dX4_findRest_52 : decode cX4_findRest 52 = .ok (.getfield 40, 3) := by decide +kernel
theorem dX4_findRest_55 : decode cX4_findRest 55 = .ok (.iconst 1, 1) := by decide +kernel
theorem dX4_findRest_56 : decode cX4_findRest 56 = .ok (.laload, 1) := by decide +kernel
theorem dX4_findRest_57 : decode cX4_findRest 57 = .ok (.aload_n 0, 1) := by decide +kernel
theorem dX4_findRest_58 : decode cX4_findRest 58 = .ok (.getfield 75, 3) := by decide +kernel
theorem dX4_findRest_61 : decode cX4_findRest 61 = .ok (.aload_n 0, 1) := by decide +kernel
theorem dX4_findRest_62 : decode cX4_findRest 62 = .ok (.getfield 7, 3) := by decide +kernel
theorem dX4_findRest_65 : decode cX4_findRest 65 = .ok (.lconst 1, 1) := by decide +kernel
theorem dX4_findRest_66 : decode cX4_findRest 66 = .ok (.invokevirtual 128, 3) := by decide +kernel
theorem dX4_findRest_69 : decode cX4_findRest 69 = .ok (.aload_n 0, 1) := by decide +kernel
theorem dX4_findRest_70 : decode cX4_findRest 70 = .ok (.iconst 1, 1) := by decide +kernel
theorem dX4_findRest_71 : decode cX4_findRest 71 = .ok (.invokevirtual 122, 3) := by decide +kernel
theorem dX4_findRest_74 : decode cX4_findRest 74 = .ok (.iinc 1 1, 3) := by decide +kernel
theorem dX4_findRest_77 : decode cX4_findRest 77 = .ok (.goto (-52), 3) := by decide +kernel
theorem dX4_findRest_80 : decode cX4_findRest 80 = .ok (.aload_n 0, 1) := by decide +kernel
theorem dX4_findRest_81 : decode cX4_findRest 81 = .ok (.aload_n 0, 1) := by decide +kernel
theorem dX4_findRest_82 : decode cX4_findRest 82 = .ok (.getfield 36, 3) := by decide +kernel
theorem dX4_findRest_85 : decode cX4_findRest 85 = .ok (.iconst 0, 1) := by decide +kernel
theorem dX4_findRest_86 : decode cX4_findRest 86 = .ok (.laload, 1) := by decide +kernel
theorem dX4_findRest_87 : decode cX4_findRest 87 = .ok (.aload_n 0, 1) := by decide +kernel
theorem dX4_findRest_88 : decode cX4_findRest 88 = .ok (.getfield 40, 3) := by decide +kernel
theorem dX4_findRest_91 : decode cX4_findRest 91 = .ok (.iconst 0, 1) := by decide +kernel
theorem dX4_findRest_92 : decode cX4_findRest 92 = .ok (.laload, 1) := by decide +kernel
theorem dX4_findRest_93 : decode cX4_findRest 93 = .ok (.aload_n 0, 1) := by decide +kernel
theorem dX4_findRest_94 : decode cX4_findRest 94 = .ok (.getfield 36, 3) := by decide +kernel
theorem dX4_findRest_97 : decode cX4_findRest 97 = .ok (.iconst 1, 1) := by decide +kernel
theorem dX4_findRest_98 : decode cX4_findRest 98 = .ok (.laload, 1) := by decide +kernel
theorem dX4_findRest_99 : decode cX4_findRest 99 = .ok (.aload_n 0, 1) := by decide +kernel
theorem dX4_findRest_100 : decode cX4_findRest 100 = .ok (.getfield 40, 3) := by decide +kernel
theorem dX4_findRest_103 : decode cX4_findRest 103 = .ok (.iconst 1, 1) := by decide +kernel
theorem dX4_findRest_104 : decode cX4_findRest 104 = .ok (.laload, 1) := by decide +kernel
theorem dX4_findRest_105 : decode cX4_findRest 105 = .ok (.ldc2_w 132, 3) := by decide +kernel
theorem dX4_findRest_108 : decode cX4_findRest 108 = .ok (.invokevirtual 128, 3) := by decide +kernel
theorem dX4_findRest_111 : decode cX4_findRest 111 = .ok (.aload_n 0, 1) := by decide +kernel
theorem dX4_findRest_112 : decode cX4_findRest 112 = .ok (.aload_n 0, 1) := by decide +kernel
theorem dX4_findRest_113 : decode cX4_findRest 113 = .ok (.getfield 75, 3) := by decide +kernel
theorem dX4_findRest_116 : decode cX4_findRest 116 = .ok (.lconst 0, 1) := by decide +kernel
theorem dX4_findRest_117 : decode cX4_findRest 117 = .ok (.lcmp, 1) := by decide +kernel
theorem dX4_findRest_118 : decode cX4_findRest 118 = .ok (.ifCond .ge 7, 3) := by decide +kernel
theorem dX4_findRest_121 : decode cX4_findRest 121 = .ok (.lconst 0, 1) := by decide +kernel
theorem dX4_findRest_122 : decode cX4_findRest 122 = .ok (.goto 7, 3) := by decide +kernel
theorem dX4_findRest_125 : decode cX4_findRest 125 = .ok (.aload_n 0, 1) := by decide +kernel
theorem dX4_findRest_126 : decode cX4_findRest 126 = .ok (.getfield 75, 3) := by decide +kernel
theorem dX4_findRest_129 : decode cX4_findRest 129 = .ok (.aload_n 0, 1) := by decide +kernel
theorem dX4_findRest_130 : decode cX4_findRest 130 = .ok (.getfield 75, 3) := by decide +kernel
theorem dX4_findRest_133 : decode cX4_findRest 133 = .ok (.lconst 0, 1) := by decide +kernel
theorem dX4_findRest_134 : decode cX4_findRest 134 = .ok (.lcmp, 1) := by decide +kernel
theorem dX4_findRest_135 : decode cX4_findRest 135 = .ok (.ifCond .ge 7, 3) := by decide +kernel
theorem dX4_findRest_138 : decode cX4_findRest 138 = .ok (.lconst 1, 1) := by decide +kernel
theorem dX4_findRest_139 : decode cX4_findRest 139 = .ok (.goto 7, 3) := by decide +kernel
theorem dX4_findRest_142 : decode cX4_findRest 142 = .ok (.aload_n 0, 1) := by decide +kernel
theorem dX4_findRest_143 : decode cX4_findRest 143 = .ok (.getfield 7, 3) := by decide +kernel
theorem dX4_findRest_146 : decode cX4_findRest 146 = .ok (.invokevirtual 78, 3) := by decide +kernel
theorem dX4_findRest_149 : decode cX4_findRest 149 = .ok (.aload_n 0, 1) := by decide +kernel
theorem dX4_findRest_150 : decode cX4_findRest 150 = .ok (.iconst 2, 1) := by decide +kernel
theorem dX4_findRest_151 : decode cX4_findRest 151 = .ok (.invokevirtual 122, 3) := by decide +kernel
theorem dX4_findRest_154 : decode cX4_findRest 154 = .ok (.return_, 1) := by decide +kernel
theorem dX4_findDues_0 : decode cX4_findDues 0 = .ok (.aload_n 0, 1) := by decide +kernel
theorem dX4_findDues_1 : decode cX4_findDues 1 = .ok (.invokevirtual 134, 3) := by decide +kernel
theorem dX4_findDues_4 : decode cX4_findDues 4 = .ok (.aload_n 0, 1) := by decide +kernel
theorem dX4_findDues_5 : decode cX4_findDues 5 = .ok (.iconst 1, 1) := by decide +kernel
theorem dX4_findDues_6 : decode cX4_findDues 6 = .ok (.invokevirtual 137, 3) := by decide +kernel
theorem dX4_findDues_9 : decode cX4_findDues 9 = .ok (.istore_n 1, 1) := by decide +kernel
theorem dX4_findDues_10 : decode cX4_findDues 10 = .ok (.aload_n 0, 1) := by decide +kernel
theorem dX4_findDues_11 : decode cX4_findDues 11 = .ok (.iconst 0, 1) := by decide +kernel
theorem dX4_findDues_12 : decode cX4_findDues 12 = .ok (.invokevirtual 137, 3) := by decide +kernel
theorem dX4_findDues_15 : decode cX4_findDues 15 = .ok (.istore_n 2, 1) := by decide +kernel
theorem dX4_findDues_16 : decode cX4_findDues 16 = .ok (.aload_n 0, 1) := by decide +kernel
theorem dX4_findDues_17 : decode cX4_findDues 17 = .ok (.getfield 13, 3) := by decide +kernel
theorem dX4_findDues_20 : decode cX4_findDues 20 = .ok (.iconst 1, 1) := by decide +kernel
theorem dX4_findDues_21 : decode cX4_findDues 21 = .ok (.iaload, 1) := by decide +kernel
theorem dX4_findDues_22 : decode cX4_findDues 22 = .ok (.ifCond .ne 7, 3) := by decide +kernel
theorem dX4_findDues_25 : decode cX4_findDues 25 = .ok (.iload_n 2, 1) := by decide +kernel
theorem dX4_findDues_26 : decode cX4_findDues 26 = .ok (.goto 23, 3) := by decide +kernel
theorem dX4_findDues_29 : decode cX4_findDues 29 = .ok (.aload_n 0, 1) := by decide +kernel
theorem dX4_findDues_30 : decode cX4_findDues 30 = .ok (.getfield 13, 3) := by decide +kernel
theorem dX4_findDues_33 : decode cX4_findDues 33 = .ok (.iconst 1, 1) := by decide +kernel
theorem dX4_findDues_34 : decode cX4_findDues 34 = .ok (.iaload, 1) := by decide +kernel
theorem dX4_findDues_35 : decode cX4_findDues 35 = .ok (.iconst 1, 1) := by decide +kernel
theorem dX4_findDues_36 : decode cX4_findDues 36 = .ok (.if_icmp .ne 12, 3) := by decide +kernel
theorem dX4_findDues_39 : decode cX4_findDues 39 = .ok (.iload_n 2, 1) := by decide +kernel
theorem dX4_findDues_40 : decode cX4_findDues 40 = .ok (.aload_n 0, 1) := by decide +kernel
theorem dX4_findDues_41 : decode cX4_findDues 41 = .ok (.getfield 91, 3) := by decide +kernel
theorem dX4_findDues_44 : decode cX4_findDues 44 = .ok (.iadd, 1) := by decide +kernel
theorem dX4_findDues_45 : decode cX4_findDues 45 = .ok (.goto 4, 3) := by decide +kernel
theorem dX4_findDues_48 : decode cX4_findDues 48 = .ok (.iconst 0, 1) := by decide +kernel
theorem dX4_findDues_49 : decode cX4_findDues 49 = .ok (.istore_n 3, 1) := by decide +kernel
theorem dX4_findDues_50 : decode cX4_findDues 50 = .ok (.aload_n 0, 1) := by decide +kernel
theorem dX4_findDues_51 : decode cX4_findDues 51 = .ok (.getfield 36, 3) := by decide +kernel
theorem dX4_findDues_54 : decode cX4_findDues 54 = .ok (.iconst 4, 1) := by decide +kernel
theorem dX4_findDues_55 : decode cX4_findDues 55 = .ok (.lconst 0, 1) := by decide +kernel
theorem dX4_findDues_56 : decode cX4_findDues 56 = .ok (.lastore, 1) := by decide +kernel
theorem dX4_findDues_57 : decode cX4_findDues 57 = .ok (.aload_n 0, 1) := by decide +kernel
theorem dX4_findDues_58 : decode cX4_findDues 58 = .ok (.getfield 40, 3) := by decide +kernel
theorem dX4_findDues_61 : decode cX4_findDues 61 = .ok (.iconst 4, 1) := by decide +kernel
theorem dX4_findDues_62 : decode cX4_findDues 62 = .ok (.lconst 1, 1) := by decide +kernel
theorem dX4_findDues_63 : decode cX4_findDues 63 = .ok (.lastore, 1) := by decide +kernel
theorem dX4_findDues_64 : decode cX4_findDues 64 = .ok (.iconst 0, 1) := by decide +kernel
theorem dX4_findDues_65 : decode cX4_findDues 65 = .ok (.istore 4, 2) := by decide +kernel
theorem dX4_findDues_67 : decode cX4_findDues 67 = .ok (.iload 4, 2) := by decide +kernel
theorem dX4_findDues_69 : decode cX4_findDues 69 = .ok (.bipush 6, 2) := by decide +kernel
theorem dX4_findDues_71 : decode cX4_findDues 71 = .ok (.if_icmp .ge 138, 3) := by decide +kernel
theorem dX4_findDues_74 : decode cX4_findDues 74 = .ok (.aload_n 0, 1) := by decide +kernel
theorem dX4_findDues_75 : decode cX4_findDues 75 = .ok (.iload 4, 2) := by decide +kernel
theorem dX4_findDues_77 : decode cX4_findDues 77 = .ok (.invokevirtual 113, 3) := by decide +kernel
theorem dX4_findDues_80 : decode cX4_findDues 80 = .ok (.ifCond .eq 32, 3) := by decide +kernel
theorem dX4_findDues_83 : decode cX4_findDues 83 = .ok (.aload_n 0, 1) := by decide +kernel
theorem dX4_findDues_84 : decode cX4_findDues 84 = .ok (.getfield 30, 3) := by decide +kernel
theorem dX4_findDues_87 : decode cX4_findDues 87 = .ok (.iload 4, 2) := by decide +kernel
theorem dX4_findDues_89 : decode cX4_findDues 89 = .ok (.iaload, 1) := by decide +kernel
theorem dX4_findDues_90 : decode cX4_findDues 90 = .ok (.bipush (-9), 2) := by decide +kernel
theorem dX4_findDues_92 : decode cX4_findDues 92 = .ok (.if_icmp .ne 20, 3) := by decide +kernel
theorem dX4_findDues_95 : decode cX4_findDues 95 = .ok (.aload_n 0, 1) := by decide +kernel
theorem dX4_findDues_96 : decode cX4_findDues 96 = .ok (.iload 4, 2) := by decide +kernel
theorem dX4_findDues_98 : decode cX4_findDues 98 = .ok (.invokevirtual 116, 3) := by decide +kernel
theorem dX4_findDues_101 : decode cX4_findDues 101 = .ok (.ifCond .ne 11, 3) := by decide +kernel
theorem dX4_findDues_104 : decode cX4_findDues 104 = .ok (.iload_n 1, 1) := by decide +kernel
theorem dX4_findDues_105 : decode cX4_findDues 105 = .ok (.ifCond .le 7, 3) := by decide +kernel
theorem dX4_findDues_108 : decode cX4_findDues 108 = .ok (.iconst 1, 1) := by decide +kernel
theorem dX4_findDues_109 : decode cX4_findDues 109 = .ok (.goto 4, 3) := by decide +kernel
theorem dX4_findDues_112 : decode cX4_findDues 112 = .ok (.iconst 0, 1) := by decide +kernel
theorem dX4_findDues_113 : decode cX4_findDues 113 = .ok (.istore 5, 2) := by decide +kernel
theorem dX4_findDues_115 : decode cX4_findDues 115 = .ok (.aload_n 0, 1) := by decide +kernel
theorem dX4_findDues_116 : decode cX4_findDues 116 = .ok (.getfield 43, 3) := by decide +kernel
theorem dX4_findDues_119 : decode cX4_findDues 119 = .ok (.iload 4, 2) := by decide +kernel
theorem dX4_findDues_121 : decode cX4_findDues 121 = .ok (.lconst 0, 1) := by decide +kernel
theorem dX4_findDues_122 : decode cX4_findDues 122 = .ok (.lastore, 1) := by decide +kernel
theorem dX4_findDues_123 : decode cX4_findDues 123 = .ok (.aload_n 0, 1) := by decide +kernel
theorem dX4_findDues_124 : decode cX4_findDues 124 = .ok (.getfield 46, 3) := by decide +kernel
theorem dX4_findDues_127 : decode cX4_findDues 127 = .ok (.iload 4, 2) := by decide +kernel
theorem dX4_findDues_129 : decode cX4_findDues 129 = .ok (.lconst 1, 1) := by decide +kernel
theorem dX4_findDues_130 : decode cX4_findDues 130 = .ok (.lastore, 1) := by decide +kernel
theorem dX4_findDues_131 : decode cX4_findDues 131 = .ok (.iload 5, 2) := by decide +kernel
theorem dX4_findDues_133 : decode cX4_findDues 133 = .ok (.ifCond .eq 70, 3) := by decide +kernel
theorem dX4_findDues_136 : decode cX4_findDues 136 = .ok (.aload_n 0, 1) := by decide +kernel
theorem dX4_findDues_137 : decode cX4_findDues 137 = .ok (.aload_n 0, 1) := by decide +kernel
theorem dX4_findDues_138 : decode cX4_findDues 138 = .ok (.iload 4, 2) := by decide +kernel
theorem dX4_findDues_140 : decode cX4_findDues 140 = .ok (.invokevirtual 109, 3) := by decide +kernel
theorem dX4_findDues_143 : decode cX4_findDues 143 = .ok (.iload_n 1, 1) := by decide +kernel
theorem dX4_findDues_144 : decode cX4_findDues 144 = .ok (.iload_n 1, 1) := by decide +kernel
theorem dX4_findDues_145 : decode cX4_findDues 145 = .ok (.iload_n 2, 1) := by decide +kernel
theorem dX4_findDues_146 : decode cX4_findDues 146 = .ok (.isub, 1) := by decide +kernel
theorem dX4_findDues_147 : decode cX4_findDues 147 = .ok (.iload_n 3, 1) := by decide +kernel
theorem dX4_findDues_148 : decode cX4_findDues 148 = .ok (.invokevirtual 141, 3) := by decide +kernel
theorem dX4_findDues_151 : decode cX4_findDues 151 = .ok (.aload_n 0, 1) := by decide +kernel
theorem dX4_findDues_152 : decode cX4_findDues 152 = .ok (.getfield 43, 3) := by decide +kernel
theorem dX4_findDues_155 : decode cX4_findDues 155 = .ok (.iload 4, 2) := by decide +kernel
theorem dX4_findDues_157 : decode cX4_findDues 157 = .ok (.aload_n 0, 1) := by decide +kernel
theorem dX4_findDues_158 : decode cX4_findDues 158 = .ok (.getfield 75, 3) := by decide +kernel
theorem dX4_findDues_161 : decode cX4_findDues 161 = .ok (.lastore, 1) := by decide +kernel
theorem dX4_findDues_162 : decode cX4_findDues 162 = .ok (.aload_n 0, 1) := by decide +kernel
theorem dX4_findDues_163 : decode cX4_findDues 163 = .ok (.getfield 46, 3) := by decide +kernel
theorem dX4_findDues_166 : decode cX4_findDues 166 = .ok (.iload 4, 2) := by decide +kernel
theorem dX4_findDues_168 : decode cX4_findDues 168 = .ok (.aload_n 0, 1) := by decide +kernel
theorem dX4_findDues_169 : decode cX4_findDues 169 = .ok (.getfield 7, 3) := by decide +kernel
theorem dX4_findDues_172 : decode cX4_findDues 172 = .ok (.lastore, 1) := by decide +kernel
theorem dX4_findDues_173 : decode cX4_findDues 173 = .ok (.aload_n 0, 1) := by decide +kernel
theorem dX4_findDues_174 : decode cX4_findDues 174 = .ok (.aload_n 0, 1) := by decide +kernel
theorem dX4_findDues_175 : decode cX4_findDues 175 = .ok (.getfield 36, 3) := by decide +kernel
theorem dX4_findDues_178 : decode cX4_findDues 178 = .ok (.iconst 4, 1) := by decide +kernel
theorem dX4_findDues_179 : decode cX4_findDues 179 = .ok (.laload, 1) := by decide +kernel
theorem dX4_findDues_180 : decode cX4_findDues 180 = .ok (.aload_n 0, 1) := by decide +kernel
theorem dX4_findDues_181 : decode cX4_findDues 181 = .ok (.getfield 40, 3) := by decide +kernel
theorem dX4_findDues_184 : decode cX4_findDues 184 = .ok (.iconst 4, 1) := by decide +kernel
theorem dX4_findDues_185 : decode cX4_findDues 185 = .ok (.laload, 1) := by decide +kernel
theorem dX4_findDues_186 : decode cX4_findDues 186 = .ok (.aload_n 0, 1) := by decide +kernel
theorem dX4_findDues_187 : decode cX4_findDues 187 = .ok (.getfield 75, 3) := by decide +kernel
theorem dX4_findDues_190 : decode cX4_findDues 190 = .ok (.aload_n 0, 1) := by decide +kernel
theorem dX4_findDues_191 : decode cX4_findDues 191 = .ok (.getfield 7, 3) := by decide +kernel
theorem dX4_findDues_194 : decode cX4_findDues 194 = .ok (.lconst 1, 1) := by decide +kernel
theorem dX4_findDues_195 : decode cX4_findDues 195 = .ok (.invokevirtual 128, 3) := by decide +kernel
theorem dX4_findDues_198 : decode cX4_findDues 198 = .ok (.aload_n 0, 1) := by decide +kernel
theorem dX4_findDues_199 : decode cX4_findDues 199 = .ok (.iconst 4, 1) := by decide +kernel
theorem dX4_findDues_200 : decode cX4_findDues 200 = .ok (.invokevirtual 122, 3) := by decide +kernel
theorem dX4_findDues_203 : decode cX4_findDues 203 = .ok (.iinc 4 1, 3) := by decide +kernel
theorem dX4_findDues_206 : decode cX4_findDues 206 = .ok (.goto (-139), 3) := by decide +kernel
theorem dX4_findDues_209 : decode cX4_findDues 209 = .ok (.aload_n 0, 1) := by decide +kernel
theorem dX4_findDues_210 : decode cX4_findDues 210 = .ok (.aload_n 0, 1) := by decide +kernel
theorem dX4_findDues_211 : decode cX4_findDues 211 = .ok (.getfield 36, 3) := by decide +kernel
theorem dX4_findDues_214 : decode cX4_findDues 214 = .ok (.iconst 2, 1) := by decide +kernel
theorem dX4_findDues_215 : decode cX4_findDues 215 = .ok (.laload, 1) := by decide +kernel
theorem dX4_findDues_216 : decode cX4_findDues 216 = .ok (.aload_n 0, 1) := by decide +kernel
theorem dX4_findDues_217 : decode cX4_findDues 217 = .ok (.getfield 40, 3) := by decide +kernel
theorem dX4_findDues_220 : decode cX4_findDues 220 = .ok (.iconst 2, 1) := by decide +kernel
theorem dX4_findDues_221 : decode cX4_findDues 221 = .ok (.laload, 1) := by decide +kernel
theorem dX4_findDues_222 : decode cX4_findDues 222 = .ok (.aload_n 0, 1) := by decide +kernel
theorem dX4_findDues_223 : decode cX4_findDues 223 = .ok (.getfield 36, 3) := by decide +kernel
theorem dX4_findDues_226 : decode cX4_findDues 226 = .ok (.iconst 4, 1) := by decide +kernel
theorem dX4_findDues_227 : decode cX4_findDues 227 = .ok (.laload, 1) := by decide +kernel
theorem dX4_findDues_228 : decode cX4_findDues 228 = .ok (.aload_n 0, 1) := by decide +kernel
theorem dX4_findDues_229 : decode cX4_findDues 229 = .ok (.getfield 40, 3) := by decide +kernel
theorem dX4_findDues_232 : decode cX4_findDues 232 = .ok (.iconst 4, 1) := by decide +kernel
theorem dX4_findDues_233 : decode cX4_findDues 233 = .ok (.laload, 1) := by decide +kernel
theorem dX4_findDues_234 : decode cX4_findDues 234 = .ok (.ldc2_w 132, 3) := by decide +kernel
theorem dX4_findDues_237 : decode cX4_findDues 237 = .ok (.invokevirtual 128, 3) := by decide +kernel
theorem dX4_findDues_240 : decode cX4_findDues 240 = .ok (.aload_n 0, 1) := by decide +kernel
theorem dX4_findDues_241 : decode cX4_findDues 241 = .ok (.iconst 3, 1) := by decide +kernel
theorem dX4_findDues_242 : decode cX4_findDues 242 = .ok (.invokevirtual 122, 3) := by decide +kernel
theorem dX4_findDues_245 : decode cX4_findDues 245 = .ok (.return_, 1) := by decide +kernel
theorem dX4_findUnit_0 : decode cX4_findUnit 0 = .ok (.aload_n 0, 1) := by decide +kernel
theorem dX4_findUnit_1 : decode cX4_findUnit 1 = .ok (.iload_n 1, 1) := by decide +kernel
theorem dX4_findUnit_2 : decode cX4_findUnit 2 = .ok (.i2l, 1) := by decide +kernel
theorem dX4_findUnit_3 : decode cX4_findUnit 3 = .ok (.iload_n 2, 1) := by decide +kernel
theorem dX4_findUnit_4 : decode cX4_findUnit 4 = .ok (.i2l, 1) := by decide +kernel
theorem dX4_findUnit_5 : decode cX4_findUnit 5 = .ok (.invokevirtual 78, 3) := by decide +kernel
theorem dX4_findUnit_8 : decode cX4_findUnit 8 = .ok (.iload 4, 2) := by decide +kernel
theorem dX4_findUnit_10 : decode cX4_findUnit 10 = .ok (.ifCond .le 27, 3) := by decide +kernel
theorem dX4_findUnit_13 : decode cX4_findUnit 13 = .ok (.aload_n 0, 1) := by decide +kernel
theorem dX4_findUnit_14 : decode cX4_findUnit 14 = .ok (.aload_n 0, 1) := by decide +kernel
theorem dX4_findUnit_15 : decode cX4_findUnit 15 = .ok (.getfield 75, 3) := by decide +kernel
theorem dX4_findUnit_18 : decode cX4_findUnit 18 = .ok (.aload_n 0, 1) := by decide +kernel
theorem dX4_findUnit_19 : decode cX4_findUnit 19 = .ok (.getfield 7, 3) := by decide +kernel
theorem dX4_findUnit_22 : decode cX4_findUnit 22 = .ok (.iload_n 3, 1) := by decide +kernel
theorem dX4_findUnit_23 : decode cX4_findUnit 23 = .ok (.i2l, 1) := by decide +kernel
theorem dX4_findUnit_24 : decode cX4_findUnit 24 = .ok (.iload_n 1, 1) := by decide +kernel
theorem dX4_findUnit_25 : decode cX4_findUnit 25 = .ok (.i2l, 1) := by decide +kernel
theorem dX4_findUnit_26 : decode cX4_findUnit 26 = .ok (.lmul, 1) := by decide +kernel
theorem dX4_findUnit_27 : decode cX4_findUnit 27 = .ok (.iload_n 2, 1) := by decide +kernel
theorem dX4_findUnit_28 : decode cX4_findUnit 28 = .ok (.i2l, 1) := by decide +kernel
theorem dX4_findUnit_29 : decode cX4_findUnit 29 = .ok (.iload 4, 2) := by decide +kernel
theorem dX4_findUnit_31 : decode cX4_findUnit 31 = .ok (.i2l, 1) := by decide +kernel
theorem dX4_findUnit_32 : decode cX4_findUnit 32 = .ok (.lmul, 1) := by decide +kernel
theorem dX4_findUnit_33 : decode cX4_findUnit 33 = .ok (.lconst 1, 1) := by decide +kernel
theorem dX4_findUnit_34 : decode cX4_findUnit 34 = .ok (.invokevirtual 128, 3) := by decide +kernel
theorem dX4_findUnit_37 : decode cX4_findUnit 37 = .ok (.aload_n 0, 1) := by decide +kernel
theorem dX4_findUnit_38 : decode cX4_findUnit 38 = .ok (.aload_n 0, 1) := by decide +kernel
theorem dX4_findUnit_39 : decode cX4_findUnit 39 = .ok (.getfield 36, 3) := by decide +kernel
theorem dX4_findUnit_42 : decode cX4_findUnit 42 = .ok (.iconst 2, 1) := by decide +kernel
theorem dX4_findUnit_43 : decode cX4_findUnit 43 = .ok (.laload, 1) := by decide +kernel
theorem dX4_findUnit_44 : decode cX4_findUnit 44 = .ok (.aload_n 0, 1) := by decide +kernel
theorem dX4_findUnit_45 : decode cX4_findUnit 45 = .ok (.getfield 40, 3) := by decide +kernel
theorem dX4_findUnit_48 : decode cX4_findUnit 48 = .ok (.iconst 2, 1) := by decide +kernel
theorem dX4_findUnit_49 : decode cX4_findUnit 49 = .ok (.laload, 1) := by decide +kernel
theorem dX4_findUnit_50 : decode cX4_findUnit 50 = .ok (.aload_n 0, 1) := by decide +kernel
theorem dX4_findUnit_51 : decode cX4_findUnit 51 = .ok (.getfield 75, 3) := by decide +kernel
theorem dX4_findUnit_54 : decode cX4_findUnit 54 = .ok (.aload_n 0, 1) := by decide +kernel
theorem dX4_findUnit_55 : decode cX4_findUnit 55 = .ok (.getfield 7, 3) := by decide +kernel
theorem dX4_findUnit_58 : decode cX4_findUnit 58 = .ok (.invokevirtual 145, 3) := by decide +kernel
theorem dX4_findUnit_61 : decode cX4_findUnit 61 = .ok (.return_, 1) := by decide +kernel
theorem dX4_amount_0 : decode cX4_amount 0 = .ok (.iload_n 1, 1) := by decide +kernel
theorem dX4_amount_1 : decode cX4_amount 1 = .ok (.iconst 0, 1) := by decide +kernel
theorem dX4_amount_2 : decode cX4_amount 2 = .ok (.iconst 4, 1) := by decide +kernel
theorem dX4_amount_3 : decode cX4_amount 3 = .ok (.invokestatic 82, 3) := by decide +kernel
theorem dX4_amount_6 : decode cX4_amount 6 = .ok (.ifCond .eq 10, 3) := by decide +kernel
theorem dX4_amount_9 : decode cX4_amount 9 = .ok (.iload_n 2, 1) := by decide +kernel
theorem dX4_amount_10 : decode cX4_amount 10 = .ok (.invokestatic 149, 3) := by decide +kernel
theorem dX4_amount_13 : decode cX4_amount 13 = .ok (.ifCond .ne 7, 3) := by decide +kernel
theorem dX4_amount_16 : decode cX4_amount 16 = .ok (.ldc2_w 152, 3) := by decide +kernel
theorem dX4_amount_19 : decode cX4_amount 19 = .ok (.lreturn, 1) := by decide +kernel
theorem dX4_amount_20 : decode cX4_amount 20 = .ok (.aload_n 0, 1) := by decide +kernel
theorem dX4_amount_21 : decode cX4_amount 21 = .ok (.invokevirtual 154, 3) := by decide +kernel
theorem dX4_amount_24 : decode cX4_amount 24 = .ok (.iload_n 2, 1) := by decide +kernel
theorem dX4_amount_25 : decode cX4_amount 25 = .ok (.ifCond .ne 12, 3) := by decide +kernel
theorem dX4_amount_28 : decode cX4_amount 28 = .ok (.aload_n 0, 1) := by decide +kernel
theorem dX4_amount_29 : decode cX4_amount 29 = .ok (.getfield 36, 3) := by decide +kernel
theorem dX4_amount_32 : decode cX4_amount 32 = .ok (.iload_n 1, 1) := by decide +kernel
theorem dX4_amount_33 : decode cX4_amount 33 = .ok (.laload, 1) := by decide +kernel
theorem dX4_amount_34 : decode cX4_amount 34 = .ok (.goto 9, 3) := by decide +kernel
theorem dX4_amount_37 : decode cX4_amount 37 = .ok (.aload_n 0, 1) := by decide +kernel
theorem dX4_amount_38 : decode cX4_amount 38 = .ok (.getfield 40, 3) := by decide +kernel
theorem dX4_amount_41 : decode cX4_amount 41 = .ok (.iload_n 1, 1) := by decide +kernel
theorem dX4_amount_42 : decode cX4_amount 42 = .ok (.laload, 1) := by decide +kernel
theorem dX4_amount_43 : decode cX4_amount 43 = .ok (.lreturn, 1) := by decide +kernel
theorem dX4_credit_0 : decode cX4_credit 0 = .ok (.aload_n 0, 1) := by decide +kernel
theorem dX4_credit_1 : decode cX4_credit 1 = .ok (.iload_n 1, 1) := by decide +kernel
end
section
theorem dX4_credit_2 : decode cX4_credit 2 = .ok (.invokevirtual 98, 3) := by decide +kernel
theorem dX4_credit_5 : decode cX4_credit 5 = .ok (.ifCond .eq 10, 3) := by decide +kernel
theorem dX4_credit_8 : decode cX4_credit 8 = .ok (.iload_n 2, 1) := by decide +kernel
theorem dX4_credit_9 : decode cX4_credit 9 = .ok (.invokestatic 149, 3) := by decide +kernel
theorem dX4_credit_12 : decode cX4_credit 12 = .ok (.ifCond .ne 7, 3) := by decide +kernel
theorem dX4_credit_15 : decode cX4_credit 15 = .ok (.ldc2_w 152, 3) := by decide +kernel
theorem dX4_credit_18 : decode cX4_credit 18 = .ok (.lreturn, 1) := by decide +kernel
theorem dX4_credit_19 : decode cX4_credit 19 = .ok (.aload_n 0, 1) := by decide +kernel
theorem dX4_credit_20 : decode cX4_credit 20 = .ok (.aload_n 0, 1) := by decide +kernel
theorem dX4_credit_21 : decode cX4_credit 21 = .ok (.iload_n 1, 1) := by decide +kernel
theorem dX4_credit_22 : decode cX4_credit 22 = .ok (.invokevirtual 157, 3) := by decide +kernel
theorem dX4_credit_25 : decode cX4_credit 25 = .ok (.invokevirtual 125, 3) := by decide +kernel
theorem dX4_credit_28 : decode cX4_credit 28 = .ok (.aload_n 0, 1) := by decide +kernel
theorem dX4_credit_29 : decode cX4_credit 29 = .ok (.iload_n 2, 1) := by decide +kernel
theorem dX4_credit_30 : decode cX4_credit 30 = .ok (.invokevirtual 160, 3) := by decide +kernel
theorem dX4_credit_33 : decode cX4_credit 33 = .ok (.lreturn, 1) := by decide +kernel
theorem dX4_unitDue_0 : decode cX4_unitDue 0 = .ok (.aload_n 0, 1) := by decide +kernel
theorem dX4_unitDue_1 : decode cX4_unitDue 1 = .ok (.iload_n 1, 1) := by decide +kernel
theorem dX4_unitDue_2 : decode cX4_unitDue 2 = .ok (.invokevirtual 98, 3) := by decide +kernel
theorem dX4_unitDue_5 : decode cX4_unitDue 5 = .ok (.ifCond .eq 10, 3) := by decide +kernel
theorem dX4_unitDue_8 : decode cX4_unitDue 8 = .ok (.iload_n 2, 1) := by decide +kernel
theorem dX4_unitDue_9 : decode cX4_unitDue 9 = .ok (.invokestatic 149, 3) := by decide +kernel
theorem dX4_unitDue_12 : decode cX4_unitDue 12 = .ok (.ifCond .ne 7, 3) := by decide +kernel
theorem dX4_unitDue_15 : decode cX4_unitDue 15 = .ok (.ldc2_w 152, 3) := by decide +kernel
theorem dX4_unitDue_18 : decode cX4_unitDue 18 = .ok (.lreturn, 1) := by decide +kernel
theorem dX4_unitDue_19 : decode cX4_unitDue 19 = .ok (.aload_n 0, 1) := by decide +kernel
theorem dX4_unitDue_20 : decode cX4_unitDue 20 = .ok (.invokevirtual 154, 3) := by decide +kernel
theorem dX4_unitDue_23 : decode cX4_unitDue 23 = .ok (.iload_n 2, 1) := by decide +kernel
theorem dX4_unitDue_24 : decode cX4_unitDue 24 = .ok (.ifCond .ne 16, 3) := by decide +kernel
theorem dX4_unitDue_27 : decode cX4_unitDue 27 = .ok (.aload_n 0, 1) := by decide +kernel
theorem dX4_unitDue_28 : decode cX4_unitDue 28 = .ok (.getfield 43, 3) := by decide +kernel
theorem dX4_unitDue_31 : decode cX4_unitDue 31 = .ok (.aload_n 0, 1) := by decide +kernel
theorem dX4_unitDue_32 : decode cX4_unitDue 32 = .ok (.iload_n 1, 1) := by decide +kernel
theorem dX4_unitDue_33 : decode cX4_unitDue 33 = .ok (.invokevirtual 157, 3) := by decide +kernel
theorem dX4_unitDue_36 : decode cX4_unitDue 36 = .ok (.laload, 1) := by decide +kernel
theorem dX4_unitDue_37 : decode cX4_unitDue 37 = .ok (.goto 13, 3) := by decide +kernel
theorem dX4_unitDue_40 : decode cX4_unitDue 40 = .ok (.aload_n 0, 1) := by decide +kernel
theorem dX4_unitDue_41 : decode cX4_unitDue 41 = .ok (.getfield 46, 3) := by decide +kernel
theorem dX4_unitDue_44 : decode cX4_unitDue 44 = .ok (.aload_n 0, 1) := by decide +kernel
theorem dX4_unitDue_45 : decode cX4_unitDue 45 = .ok (.iload_n 1, 1) := by decide +kernel
theorem dX4_unitDue_46 : decode cX4_unitDue 46 = .ok (.invokevirtual 157, 3) := by decide +kernel
theorem dX4_unitDue_49 : decode cX4_unitDue 49 = .ok (.laload, 1) := by decide +kernel
theorem dX4_unitDue_50 : decode cX4_unitDue 50 = .ok (.lreturn, 1) := by decide +kernel
theorem dX4_findDue_0 : decode cX4_findDue 0 = .ok (.aload_n 0, 1) := by decide +kernel
theorem dX4_findDue_1 : decode cX4_findDue 1 = .ok (.getfield 27, 3) := by decide +kernel
theorem dX4_findDue_4 : decode cX4_findDue 4 = .ok (.iload_n 1, 1) := by decide +kernel
theorem dX4_findDue_5 : decode cX4_findDue 5 = .ok (.iaload, 1) := by decide +kernel
theorem dX4_findDue_6 : decode cX4_findDue 6 = .ok (.istore_n 2, 1) := by decide +kernel
theorem dX4_findDue_7 : decode cX4_findDue 7 = .ok (.aload_n 0, 1) := by decide +kernel
theorem dX4_findDue_8 : decode cX4_findDue 8 = .ok (.aload_n 0, 1) := by decide +kernel
theorem dX4_findDue_9 : decode cX4_findDue 9 = .ok (.getfield 43, 3) := by decide +kernel
theorem dX4_findDue_12 : decode cX4_findDue 12 = .ok (.aload_n 0, 1) := by decide +kernel
theorem dX4_findDue_13 : decode cX4_findDue 13 = .ok (.iload_n 1, 1) := by decide +kernel
theorem dX4_findDue_14 : decode cX4_findDue 14 = .ok (.invokevirtual 157, 3) := by decide +kernel
theorem dX4_findDue_17 : decode cX4_findDue 17 = .ok (.laload, 1) := by decide +kernel
theorem dX4_findDue_18 : decode cX4_findDue 18 = .ok (.aload_n 0, 1) := by decide +kernel
theorem dX4_findDue_19 : decode cX4_findDue 19 = .ok (.getfield 46, 3) := by decide +kernel
theorem dX4_findDue_22 : decode cX4_findDue 22 = .ok (.aload_n 0, 1) := by decide +kernel
theorem dX4_findDue_23 : decode cX4_findDue 23 = .ok (.iload_n 1, 1) := by decide +kernel
theorem dX4_findDue_24 : decode cX4_findDue 24 = .ok (.invokevirtual 157, 3) := by decide +kernel
theorem dX4_findDue_27 : decode cX4_findDue 27 = .ok (.laload, 1) := by decide +kernel
theorem dX4_findDue_28 : decode cX4_findDue 28 = .ok (.invokevirtual 78, 3) := by decide +kernel
theorem dX4_findDue_31 : decode cX4_findDue 31 = .ok (.aload_n 0, 1) := by decide +kernel
theorem dX4_findDue_32 : decode cX4_findDue 32 = .ok (.getfield 24, 3) := by decide +kernel
theorem dX4_findDue_35 : decode cX4_findDue 35 = .ok (.iload_n 1, 1) := by decide +kernel
theorem dX4_findDue_36 : decode cX4_findDue 36 = .ok (.baload, 1) := by decide +kernel
theorem dX4_findDue_37 : decode cX4_findDue 37 = .ok (.ifCond .eq 12, 3) := by decide +kernel
theorem dX4_findDue_40 : decode cX4_findDue 40 = .ok (.aload_n 0, 1) := by decide +kernel
theorem dX4_findDue_41 : decode cX4_findDue 41 = .ok (.lconst 0, 1) := by decide +kernel
theorem dX4_findDue_42 : decode cX4_findDue 42 = .ok (.lconst 1, 1) := by decide +kernel
theorem dX4_findDue_43 : decode cX4_findDue 43 = .ok (.invokevirtual 78, 3) := by decide +kernel
theorem dX4_findDue_46 : decode cX4_findDue 46 = .ok (.goto 71, 3) := by decide +kernel
theorem dX4_findDue_49 : decode cX4_findDue 49 = .ok (.iload_n 2, 1) := by decide +kernel
theorem dX4_findDue_50 : decode cX4_findDue 50 = .ok (.bipush (-9), 2) := by decide +kernel
theorem dX4_findDue_52 : decode cX4_findDue 52 = .ok (.if_icmp .eq 65, 3) := by decide +kernel
theorem dX4_findDue_55 : decode cX4_findDue 55 = .ok (.aload_n 0, 1) := by decide +kernel
theorem dX4_findDue_56 : decode cX4_findDue 56 = .ok (.getfield 24, 3) := by decide +kernel
theorem dX4_findDue_59 : decode cX4_findDue 59 = .ok (.iload_n 2, 1) := by decide +kernel
theorem dX4_findDue_60 : decode cX4_findDue 60 = .ok (.baload, 1) := by decide +kernel
theorem dX4_findDue_61 : decode cX4_findDue 61 = .ok (.ifCond .ne 56, 3) := by decide +kernel
theorem dX4_findDue_64 : decode cX4_findDue 64 = .ok (.aload_n 0, 1) := by decide +kernel
theorem dX4_findDue_65 : decode cX4_findDue 65 = .ok (.getfield 21, 3) := by decide +kernel
theorem dX4_findDue_68 : decode cX4_findDue 68 = .ok (.iload_n 1, 1) := by decide +kernel
theorem dX4_findDue_69 : decode cX4_findDue 69 = .ok (.iaload, 1) := by decide +kernel
theorem dX4_findDue_70 : decode cX4_findDue 70 = .ok (.aload_n 0, 1) := by decide +kernel
theorem dX4_findDue_71 : decode cX4_findDue 71 = .ok (.getfield 21, 3) := by decide +kernel
theorem dX4_findDue_74 : decode cX4_findDue 74 = .ok (.iload_n 2, 1) := by decide +kernel
theorem dX4_findDue_75 : decode cX4_findDue 75 = .ok (.iaload, 1) := by decide +kernel
theorem dX4_findDue_76 : decode cX4_findDue 76 = .ok (.iadd, 1) := by decide +kernel
theorem dX4_findDue_77 : decode cX4_findDue 77 = .ok (.istore_n 3, 1) := by decide +kernel
theorem dX4_findDue_78 : decode cX4_findDue 78 = .ok (.aload_n 0, 1) := by decide +kernel
theorem dX4_findDue_79 : decode cX4_findDue 79 = .ok (.aload_n 0, 1) := by decide +kernel
theorem dX4_findDue_80 : decode cX4_findDue 80 = .ok (.getfield 75, 3) := by decide +kernel
theorem dX4_findDue_83 : decode cX4_findDue 83 = .ok (.aload_n 0, 1) := by decide +kernel
theorem dX4_findDue_84 : decode cX4_findDue 84 = .ok (.getfield 7, 3) := by decide +kernel
theorem dX4_findDue_87 : decode cX4_findDue 87 = .ok (.iload_n 3, 1) := by decide +kernel
theorem dX4_findDue_88 : decode cX4_findDue 88 = .ok (.ifCond .ne 7, 3) := by decide +kernel
theorem dX4_findDue_91 : decode cX4_findDue 91 = .ok (.lconst 1, 1) := by decide +kernel
theorem dX4_findDue_92 : decode cX4_findDue 92 = .ok (.goto 10, 3) := by decide +kernel
theorem dX4_findDue_95 : decode cX4_findDue 95 = .ok (.aload_n 0, 1) := by decide +kernel
theorem dX4_findDue_96 : decode cX4_findDue 96 = .ok (.getfield 21, 3) := by decide +kernel
theorem dX4_findDue_99 : decode cX4_findDue 99 = .ok (.iload_n 1, 1) := by decide +kernel
theorem dX4_findDue_100 : decode cX4_findDue 100 = .ok (.iaload, 1) := by decide +kernel
theorem dX4_findDue_101 : decode cX4_findDue 101 = .ok (.i2l, 1) := by decide +kernel
theorem dX4_findDue_102 : decode cX4_findDue 102 = .ok (.iload_n 3, 1) := by decide +kernel
theorem dX4_findDue_103 : decode cX4_findDue 103 = .ok (.ifCond .ne 9, 3) := by decide +kernel
theorem dX4_findDue_106 : decode cX4_findDue 106 = .ok (.ldc2_w 164, 3) := by decide +kernel
theorem dX4_findDue_109 : decode cX4_findDue 109 = .ok (.goto 5, 3) := by decide +kernel
theorem dX4_findDue_112 : decode cX4_findDue 112 = .ok (.iload_n 3, 1) := by decide +kernel
theorem dX4_findDue_113 : decode cX4_findDue 113 = .ok (.i2l, 1) := by decide +kernel
theorem dX4_findDue_114 : decode cX4_findDue 114 = .ok (.invokevirtual 145, 3) := by decide +kernel
theorem dX4_findDue_117 : decode cX4_findDue 117 = .ok (.return_, 1) := by decide +kernel
theorem dX4_due_0 : decode cX4_due 0 = .ok (.aload_n 0, 1) := by decide +kernel
theorem dX4_due_1 : decode cX4_due 1 = .ok (.iload_n 1, 1) := by decide +kernel
theorem dX4_due_2 : decode cX4_due 2 = .ok (.invokevirtual 98, 3) := by decide +kernel
theorem dX4_due_5 : decode cX4_due 5 = .ok (.ifCond .eq 10, 3) := by decide +kernel
theorem dX4_due_8 : decode cX4_due 8 = .ok (.iload_n 2, 1) := by decide +kernel
theorem dX4_due_9 : decode cX4_due 9 = .ok (.invokestatic 149, 3) := by decide +kernel
theorem dX4_due_12 : decode cX4_due 12 = .ok (.ifCond .ne 7, 3) := by decide +kernel
theorem dX4_due_15 : decode cX4_due 15 = .ok (.ldc2_w 152, 3) := by decide +kernel
theorem dX4_due_18 : decode cX4_due 18 = .ok (.lreturn, 1) := by decide +kernel
theorem dX4_due_19 : decode cX4_due 19 = .ok (.aload_n 0, 1) := by decide +kernel
theorem dX4_due_20 : decode cX4_due 20 = .ok (.invokevirtual 154, 3) := by decide +kernel
theorem dX4_due_23 : decode cX4_due 23 = .ok (.aload_n 0, 1) := by decide +kernel
theorem dX4_due_24 : decode cX4_due 24 = .ok (.iload_n 1, 1) := by decide +kernel
theorem dX4_due_25 : decode cX4_due 25 = .ok (.invokevirtual 166, 3) := by decide +kernel
theorem dX4_due_28 : decode cX4_due 28 = .ok (.aload_n 0, 1) := by decide +kernel
theorem dX4_due_29 : decode cX4_due 29 = .ok (.iload_n 2, 1) := by decide +kernel
theorem dX4_due_30 : decode cX4_due 30 = .ok (.invokevirtual 160, 3) := by decide +kernel
theorem dX4_due_33 : decode cX4_due 33 = .ok (.lreturn, 1) := by decide +kernel
theorem dX4_findGets_0 : decode cX4_findGets 0 = .ok (.aload_n 0, 1) := by decide +kernel
theorem dX4_findGets_1 : decode cX4_findGets 1 = .ok (.invokevirtual 154, 3) := by decide +kernel
theorem dX4_findGets_4 : decode cX4_findGets 4 = .ok (.lconst 0, 1) := by decide +kernel
theorem dX4_findGets_5 : decode cX4_findGets 5 = .ok (.lstore_n 1, 1) := by decide +kernel
theorem dX4_findGets_6 : decode cX4_findGets 6 = .ok (.iconst 0, 1) := by decide +kernel
theorem dX4_findGets_7 : decode cX4_findGets 7 = .ok (.istore_n 3, 1) := by decide +kernel
theorem dX4_findGets_8 : decode cX4_findGets 8 = .ok (.iload_n 3, 1) := by decide +kernel
theorem dX4_findGets_9 : decode cX4_findGets 9 = .ok (.bipush 6, 2) := by decide +kernel
theorem dX4_findGets_11 : decode cX4_findGets 11 = .ok (.if_icmp .ge 42, 3) := by decide +kernel
theorem dX4_findGets_14 : decode cX4_findGets 14 = .ok (.lload_n 1, 1) := by decide +kernel
theorem dX4_findGets_15 : decode cX4_findGets 15 = .ok (.aload_n 0, 1) := by decide +kernel
theorem dX4_findGets_16 : decode cX4_findGets 16 = .ok (.iload_n 3, 1) := by decide +kernel
theorem dX4_findGets_17 : decode cX4_findGets 17 = .ok (.invokevirtual 113, 3) := by decide +kernel
theorem dX4_findGets_20 : decode cX4_findGets 20 = .ok (.ifCond .eq 24, 3) := by decide +kernel
theorem dX4_findGets_23 : decode cX4_findGets 23 = .ok (.aload_n 0, 1) := by decide +kernel
theorem dX4_findGets_24 : decode cX4_findGets 24 = .ok (.getfield 30, 3) := by decide +kernel
theorem dX4_findGets_27 : decode cX4_findGets 27 = .ok (.iload_n 3, 1) := by decide +kernel
theorem dX4_findGets_28 : decode cX4_findGets 28 = .ok (.iaload, 1) := by decide +kernel
theorem dX4_findGets_29 : decode cX4_findGets 29 = .ok (.bipush (-9), 2) := by decide +kernel
theorem dX4_findGets_31 : decode cX4_findGets 31 = .ok (.if_icmp .eq 13, 3) := by decide +kernel
theorem dX4_findGets_34 : decode cX4_findGets 34 = .ok (.aload_n 0, 1) := by decide +kernel
theorem dX4_findGets_35 : decode cX4_findGets 35 = .ok (.getfield 30, 3) := by decide +kernel
theorem dX4_findGets_38 : decode cX4_findGets 38 = .ok (.iload_n 3, 1) := by decide +kernel
theorem dX4_findGets_39 : decode cX4_findGets 39 = .ok (.iaload, 1) := by decide +kernel
theorem dX4_findGets_40 : decode cX4_findGets 40 = .ok (.i2l, 1) := by decide +kernel
theorem dX4_findGets_41 : decode cX4_findGets 41 = .ok (.goto 4, 3) := by decide +kernel
theorem dX4_findGets_44 : decode cX4_findGets 44 = .ok (.lconst 0, 1) := by decide +kernel
theorem dX4_findGets_45 : decode cX4_findGets 45 = .ok (.ladd, 1) := by decide +kernel
theorem dX4_findGets_46 : decode cX4_findGets 46 = .ok (.lstore_n 1, 1) := by decide +kernel
theorem dX4_findGets_47 : decode cX4_findGets 47 = .ok (.iinc 3 1, 3) := by decide +kernel
theorem dX4_findGets_50 : decode cX4_findGets 50 = .ok (.goto (-42), 3) := by decide +kernel
theorem dX4_findGets_53 : decode cX4_findGets 53 = .ok (.aload_n 0, 1) := by decide +kernel
theorem dX4_findGets_54 : decode cX4_findGets 54 = .ok (.aload_n 0, 1) := by decide +kernel
theorem dX4_findGets_55 : decode cX4_findGets 55 = .ok (.getfield 36, 3) := by decide +kernel
theorem dX4_findGets_58 : decode cX4_findGets 58 = .ok (.iconst 4, 1) := by decide +kernel
theorem dX4_findGets_59 : decode cX4_findGets 59 = .ok (.laload, 1) := by decide +kernel
theorem dX4_findGets_60 : decode cX4_findGets 60 = .ok (.aload_n 0, 1) := by decide +kernel
theorem dX4_findGets_61 : decode cX4_findGets 61 = .ok (.getfield 40, 3) := by decide +kernel
theorem dX4_findGets_64 : decode cX4_findGets 64 = .ok (.iconst 4, 1) := by decide +kernel
theorem dX4_findGets_65 : decode cX4_findGets 65 = .ok (.laload, 1) := by decide +kernel
theorem dX4_findGets_66 : decode cX4_findGets 66 = .ok (.lload_n 1, 1) := by decide +kernel
theorem dX4_findGets_67 : decode cX4_findGets 67 = .ok (.lconst 1, 1) := by decide +kernel
theorem dX4_findGets_68 : decode cX4_findGets 68 = .ok (.lconst 1, 1) := by decide +kernel
theorem dX4_findGets_69 : decode cX4_findGets 69 = .ok (.invokevirtual 128, 3) := by decide +kernel
theorem dX4_findGets_72 : decode cX4_findGets 72 = .ok (.return_, 1) := by decide +kernel
theorem dX4_findGetsBy_0 : decode cX4_findGetsBy 0 = .ok (.aload_n 0, 1) := by decide +kernel
theorem dX4_findGetsBy_1 : decode cX4_findGetsBy 1 = .ok (.getfield 13, 3) := by decide +kernel
theorem dX4_findGetsBy_4 : decode cX4_findGetsBy 4 = .ok (.iconst 0, 1) := by decide +kernel
theorem dX4_findGetsBy_5 : decode cX4_findGetsBy 5 = .ok (.iaload, 1) := by decide +kernel
theorem dX4_findGetsBy_6 : decode cX4_findGetsBy 6 = .ok (.istore_n 3, 1) := by decide +kernel
theorem dX4_findGetsBy_7 : decode cX4_findGetsBy 7 = .ok (.aload_n 0, 1) := by decide +kernel
theorem dX4_findGetsBy_8 : decode cX4_findGetsBy 8 = .ok (.getfield 13, 3) := by decide +kernel
theorem dX4_findGetsBy_11 : decode cX4_findGetsBy 11 = .ok (.iconst 1, 1) := by decide +kernel
theorem dX4_findGetsBy_12 : decode cX4_findGetsBy 12 = .ok (.iaload, 1) := by decide +kernel
theorem dX4_findGetsBy_13 : decode cX4_findGetsBy 13 = .ok (.istore 4, 2) := by decide +kernel
theorem dX4_findGetsBy_15 : decode cX4_findGetsBy 15 = .ok (.aload_n 0, 1) := by decide +kernel
theorem dX4_findGetsBy_16 : decode cX4_findGetsBy 16 = .ok (.getfield 13, 3) := by decide +kernel
theorem dX4_findGetsBy_19 : decode cX4_findGetsBy 19 = .ok (.iconst 0, 1) := by decide +kernel
theorem dX4_findGetsBy_20 : decode cX4_findGetsBy 20 = .ok (.iload_n 1, 1) := by decide +kernel
theorem dX4_findGetsBy_21 : decode cX4_findGetsBy 21 = .ok (.iastore, 1) := by decide +kernel
theorem dX4_findGetsBy_22 : decode cX4_findGetsBy 22 = .ok (.aload_n 0, 1) := by decide +kernel
theorem dX4_findGetsBy_23 : decode cX4_findGetsBy 23 = .ok (.getfield 13, 3) := by decide +kernel
theorem dX4_findGetsBy_26 : decode cX4_findGetsBy 26 = .ok (.iconst 1, 1) := by decide +kernel
theorem dX4_findGetsBy_27 : decode cX4_findGetsBy 27 = .ok (.iload_n 2, 1) := by decide +kernel
theorem dX4_findGetsBy_28 : decode cX4_findGetsBy 28 = .ok (.iastore, 1) := by decide +kernel
theorem dX4_findGetsBy_29 : decode cX4_findGetsBy 29 = .ok (.aload_n 0, 1) := by decide +kernel
theorem dX4_findGetsBy_30 : decode cX4_findGetsBy 30 = .ok (.invokevirtual 169, 3) := by decide +kernel
theorem dX4_findGetsBy_33 : decode cX4_findGetsBy 33 = .ok (.aload_n 0, 1) := by decide +kernel
theorem dX4_findGetsBy_34 : decode cX4_findGetsBy 34 = .ok (.getfield 13, 3) := by decide +kernel
theorem dX4_findGetsBy_37 : decode cX4_findGetsBy 37 = .ok (.iconst 0, 1) := by decide +kernel
theorem dX4_findGetsBy_38 : decode cX4_findGetsBy 38 = .ok (.iload_n 3, 1) := by decide +kernel
theorem dX4_findGetsBy_39 : decode cX4_findGetsBy 39 = .ok (.iastore, 1) := by decide +kernel
theorem dX4_findGetsBy_40 : decode cX4_findGetsBy 40 = .ok (.aload_n 0, 1) := by decide +kernel
theorem dX4_findGetsBy_41 : decode cX4_findGetsBy 41 = .ok (.getfield 13, 3) := by decide +kernel
theorem dX4_findGetsBy_44 : decode cX4_findGetsBy 44 = .ok (.iconst 1, 1) := by decide +kernel
theorem dX4_findGetsBy_45 : decode cX4_findGetsBy 45 = .ok (.iload 4, 2) := by decide +kernel
theorem dX4_findGetsBy_47 : decode cX4_findGetsBy 47 = .ok (.iastore, 1) := by decide +kernel
theorem dX4_findGetsBy_48 : decode cX4_findGetsBy 48 = .ok (.return_, 1) := by decide +kernel
theorem dX4_gets_0 : decode cX4_gets 0 = .ok (.iload_n 1, 1) := by decide +kernel
theorem dX4_gets_1 : decode cX4_gets 1 = .ok (.iconst 0, 1) := by decide +kernel
theorem dX4_gets_2 : decode cX4_gets 2 = .ok (.iconst 2, 1) := by decide +kernel
theorem dX4_gets_3 : decode cX4_gets 3 = .ok (.invokestatic 82, 3) := by decide +kernel
theorem dX4_gets_6 : decode cX4_gets 6 = .ok (.ifCond .eq 19, 3) := by decide +kernel
theorem dX4_gets_9 : decode cX4_gets 9 = .ok (.iload_n 2, 1) := by decide +kernel
theorem dX4_gets_10 : decode cX4_gets 10 = .ok (.iconst 0, 1) := by decide +kernel
theorem dX4_gets_11 : decode cX4_gets 11 = .ok (.iconst 2, 1) := by decide +kernel
theorem dX4_gets_12 : decode cX4_gets 12 = .ok (.invokestatic 82, 3) := by decide +kernel
theorem dX4_gets_15 : decode cX4_gets 15 = .ok (.ifCond .eq 10, 3) := by decide +kernel
theorem dX4_gets_18 : decode cX4_gets 18 = .ok (.iload_n 3, 1) := by decide +kernel
theorem dX4_gets_19 : decode cX4_gets 19 = .ok (.invokestatic 149, 3) := by decide +kernel
theorem dX4_gets_22 : decode cX4_gets 22 = .ok (.ifCond .ne 7, 3) := by decide +kernel
theorem dX4_gets_25 : decode cX4_gets 25 = .ok (.ldc2_w 152, 3) := by decide +kernel
theorem dX4_gets_28 : decode cX4_gets 28 = .ok (.lreturn, 1) := by decide +kernel
theorem dX4_gets_29 : decode cX4_gets 29 = .ok (.aload_n 0, 1) := by decide +kernel
theorem dX4_gets_30 : decode cX4_gets 30 = .ok (.iload_n 1, 1) := by decide +kernel
theorem dX4_gets_31 : decode cX4_gets 31 = .ok (.iload_n 2, 1) := by decide +kernel
theorem dX4_gets_32 : decode cX4_gets 32 = .ok (.invokevirtual 172, 3) := by decide +kernel
theorem dX4_gets_35 : decode cX4_gets 35 = .ok (.aload_n 0, 1) := by decide +kernel
theorem dX4_gets_36 : decode cX4_gets 36 = .ok (.iload_n 3, 1) := by decide +kernel
theorem dX4_gets_37 : decode cX4_gets 37 = .ok (.invokevirtual 160, 3) := by decide +kernel
theorem dX4_gets_40 : decode cX4_gets 40 = .ok (.lreturn, 1) := by decide +kernel
theorem dX4_bestManner_0 : decode cX4_bestManner 0 = .ok (.iconst 0, 1) := by decide +kernel
theorem dX4_bestManner_1 : decode cX4_bestManner 1 = .ok (.istore_n 1, 1) := by decide +kernel
theorem dX4_bestManner_2 : decode cX4_bestManner 2 = .ok (.iconst 1, 1) := by decide +kernel
theorem dX4_bestManner_3 : decode cX4_bestManner 3 = .ok (.istore_n 2, 1) := by decide +kernel
theorem dX4_bestManner_4 : decode cX4_bestManner 4 = .ok (.iload_n 2, 1) := by decide +kernel
theorem dX4_bestManner_5 : decode cX4_bestManner 5 = .ok (.iconst 3, 1) := by decide +kernel
theorem dX4_bestManner_6 : decode cX4_bestManner 6 = .ok (.if_icmp .ge 75, 3) := by decide +kernel
theorem dX4_bestManner_9 : decode cX4_bestManner 9 = .ok (.aload_n 0, 1) := by decide +kernel
theorem dX4_bestManner_10 : decode cX4_bestManner 10 = .ok (.iload_n 1, 1) := by decide +kernel
theorem dX4_bestManner_11 : decode cX4_bestManner 11 = .ok (.aload_n 0, 1) := by decide +kernel
theorem dX4_bestManner_12 : decode cX4_bestManner 12 = .ok (.getfield 13, 3) := by decide +kernel
theorem dX4_bestManner_15 : decode cX4_bestManner 15 = .ok (.iconst 1, 1) := by decide +kernel
theorem dX4_bestManner_16 : decode cX4_bestManner 16 = .ok (.iaload, 1) := by decide +kernel
theorem dX4_bestManner_17 : decode cX4_bestManner 17 = .ok (.invokevirtual 172, 3) := by decide +kernel
theorem dX4_bestManner_20 : decode cX4_bestManner 20 = .ok (.aload_n 0, 1) := by decide +kernel
theorem dX4_bestManner_21 : decode cX4_bestManner 21 = .ok (.getfield 75, 3) := by decide +kernel
theorem dX4_bestManner_24 : decode cX4_bestManner 24 = .ok (.lstore_n 3, 1) := by decide +kernel
theorem dX4_bestManner_25 : decode cX4_bestManner 25 = .ok (.aload_n 0, 1) := by decide +kernel
theorem dX4_bestManner_26 : decode cX4_bestManner 26 = .ok (.getfield 7, 3) := by decide +kernel
theorem dX4_bestManner_29 : decode cX4_bestManner 29 = .ok (.lstore 5, 2) := by decide +kernel
theorem dX4_bestManner_31 : decode cX4_bestManner 31 = .ok (.aload_n 0, 1) := by decide +kernel
theorem dX4_bestManner_32 : decode cX4_bestManner 32 = .ok (.iload_n 2, 1) := by decide +kernel
theorem dX4_bestManner_33 : decode cX4_bestManner 33 = .ok (.aload_n 0, 1) := by decide +kernel
theorem dX4_bestManner_34 : decode cX4_bestManner 34 = .ok (.getfield 13, 3) := by decide +kernel
theorem dX4_bestManner_37 : decode cX4_bestManner 37 = .ok (.iconst 1, 1) := by decide +kernel
theorem dX4_bestManner_38 : decode cX4_bestManner 38 = .ok (.iaload, 1) := by decide +kernel
theorem dX4_bestManner_39 : decode cX4_bestManner 39 = .ok (.invokevirtual 172, 3) := by decide +kernel
theorem dX4_bestManner_42 : decode cX4_bestManner 42 = .ok (.aload_n 0, 1) := by decide +kernel
theorem dX4_bestManner_43 : decode cX4_bestManner 43 = .ok (.aload_n 0, 1) := by decide +kernel
theorem dX4_bestManner_44 : decode cX4_bestManner 44 = .ok (.getfield 75, 3) := by decide +kernel
theorem dX4_bestManner_47 : decode cX4_bestManner 47 = .ok (.aload_n 0, 1) := by decide +kernel
theorem dX4_bestManner_48 : decode cX4_bestManner 48 = .ok (.getfield 7, 3) := by decide +kernel
theorem dX4_bestManner_51 : decode cX4_bestManner 51 = .ok (.lload_n 3, 1) := by decide +kernel
theorem dX4_bestManner_52 : decode cX4_bestManner 52 = .ok (.lload 5, 2) := by decide +kernel
theorem dX4_bestManner_54 : decode cX4_bestManner 54 = .ok (.ldc2_w 132, 3) := by decide +kernel
theorem dX4_bestManner_57 : decode cX4_bestManner 57 = .ok (.invokevirtual 128, 3) := by decide +kernel
theorem dX4_bestManner_60 : decode cX4_bestManner 60 = .ok (.aload_n 0, 1) := by decide +kernel
theorem dX4_bestManner_61 : decode cX4_bestManner 61 = .ok (.getfield 75, 3) := by decide +kernel
theorem dX4_bestManner_64 : decode cX4_bestManner 64 = .ok (.lconst 0, 1) := by decide +kernel
theorem dX4_bestManner_65 : decode cX4_bestManner 65 = .ok (.lcmp, 1) := by decide +kernel
theorem dX4_bestManner_66 : decode cX4_bestManner 66 = .ok (.ifCond .le 7, 3) := by decide +kernel
theorem dX4_bestManner_69 : decode cX4_bestManner 69 = .ok (.iload_n 2, 1) := by decide +kernel
theorem dX4_bestManner_70 : decode cX4_bestManner 70 = .ok (.goto 4, 3) := by decide +kernel
theorem dX4_bestManner_73 : decode cX4_bestManner 73 = .ok (.iload_n 1, 1) := by decide +kernel
theorem dX4_bestManner_74 : decode cX4_bestManner 74 = .ok (.istore_n 1, 1) := by decide +kernel
theorem dX4_bestManner_75 : decode cX4_bestManner 75 = .ok (.iinc 2 1, 3) := by decide +kernel
theorem dX4_bestManner_78 : decode cX4_bestManner 78 = .ok (.goto (-74), 3) := by decide +kernel
theorem dX4_bestManner_81 : decode cX4_bestManner 81 = .ok (.iload_n 1, 1) := by decide +kernel
theorem dX4_bestManner_82 : decode cX4_bestManner 82 = .ok (.ireturn, 1) := by decide +kernel
theorem dX4_saves_0 : decode cX4_saves 0 = .ok (.aload_n 0, 1) := by decide +kernel
theorem dX4_saves_1 : decode cX4_saves 1 = .ok (.iload_n 1, 1) := by decide +kernel
theorem dX4_saves_2 : decode cX4_saves 2 = .ok (.invokevirtual 98, 3) := by decide +kernel
theorem dX4_saves_5 : decode cX4_saves 5 = .ok (.ifCond .eq 20, 3) := by decide +kernel
theorem dX4_saves_8 : decode cX4_saves 8 = .ok (.iload_n 2, 1) := by decide +kernel
theorem dX4_saves_9 : decode cX4_saves 9 = .ok (.iconst 0, 1) := by decide +kernel
theorem dX4_saves_10 : decode cX4_saves 10 = .ok (.ldc 86, 2) := by decide +kernel
theorem dX4_saves_12 : decode cX4_saves 12 = .ok (.invokestatic 82, 3) := by decide +kernel
theorem dX4_saves_15 : decode cX4_saves 15 = .ok (.ifCond .eq 10, 3) := by decide +kernel
theorem dX4_saves_18 : decode cX4_saves 18 = .ok (.iload_n 3, 1) := by decide +kernel
theorem dX4_saves_19 : decode cX4_saves 19 = .ok (.invokestatic 149, 3) := by decide +kernel
theorem dX4_saves_22 : decode cX4_saves 22 = .ok (.ifCond .ne 7, 3) := by decide +kernel
theorem dX4_saves_25 : decode cX4_saves 25 = .ok (.ldc2_w 152, 3) := by decide +kernel
theorem dX4_saves_28 : decode cX4_saves 28 = .ok (.lreturn, 1) := by decide +kernel
theorem dX4_saves_29 : decode cX4_saves 29 = .ok (.aload_n 0, 1) := by decide +kernel
theorem dX4_saves_30 : decode cX4_saves 30 = .ok (.getfield 30, 3) := by decide +kernel
theorem dX4_saves_33 : decode cX4_saves 33 = .ok (.iload_n 1, 1) := by decide +kernel
theorem dX4_saves_34 : decode cX4_saves 34 = .ok (.iaload, 1) := by decide +kernel
theorem dX4_saves_35 : decode cX4_saves 35 = .ok (.istore 4, 2) := by decide +kernel
theorem dX4_saves_37 : decode cX4_saves 37 = .ok (.aload_n 0, 1) := by decide +kernel
theorem dX4_saves_38 : decode cX4_saves 38 = .ok (.iload_n 1, 1) := by decide +kernel
theorem dX4_saves_39 : decode cX4_saves 39 = .ok (.bipush (-9), 2) := by decide +kernel
theorem dX4_saves_41 : decode cX4_saves 41 = .ok (.invokevirtual 102, 3) := by decide +kernel
theorem dX4_saves_44 : decode cX4_saves 44 = .ok (.aload_n 0, 1) := by decide +kernel
theorem dX4_saves_45 : decode cX4_saves 45 = .ok (.invokevirtual 154, 3) := by decide +kernel
theorem dX4_saves_48 : decode cX4_saves 48 = .ok (.aload_n 0, 1) := by decide +kernel
theorem dX4_saves_49 : decode cX4_saves 49 = .ok (.iload_n 1, 1) := by decide +kernel
theorem dX4_saves_50 : decode cX4_saves 50 = .ok (.iload 4, 2) := by decide +kernel
theorem dX4_saves_52 : decode cX4_saves 52 = .ok (.invokevirtual 102, 3) := by decide +kernel
theorem dX4_saves_55 : decode cX4_saves 55 = .ok (.aload_n 0, 1) := by decide +kernel
theorem dX4_saves_56 : decode cX4_saves 56 = .ok (.aload_n 0, 1) := by decide +kernel
theorem dX4_saves_57 : decode cX4_saves 57 = .ok (.getfield 43, 3) := by decide +kernel
theorem dX4_saves_60 : decode cX4_saves 60 = .ok (.aload_n 0, 1) := by decide +kernel
theorem dX4_saves_61 : decode cX4_saves 61 = .ok (.iload_n 1, 1) := by decide +kernel
theorem dX4_saves_62 : decode cX4_saves 62 = .ok (.invokevirtual 157, 3) := by decide +kernel
theorem dX4_saves_65 : decode cX4_saves 65 = .ok (.laload, 1) := by decide +kernel
theorem dX4_saves_66 : decode cX4_saves 66 = .ok (.aload_n 0, 1) := by decide +kernel
theorem dX4_saves_67 : decode cX4_saves 67 = .ok (.getfield 46, 3) := by decide +kernel
theorem dX4_saves_70 : decode cX4_saves 70 = .ok (.aload_n 0, 1) := by decide +kernel
theorem dX4_saves_71 : decode cX4_saves 71 = .ok (.iload_n 1, 1) := by decide +kernel
theorem dX4_saves_72 : decode cX4_saves 72 = .ok (.invokevirtual 157, 3) := by decide +kernel
theorem dX4_saves_75 : decode cX4_saves 75 = .ok (.laload, 1) := by decide +kernel
theorem dX4_saves_76 : decode cX4_saves 76 = .ok (.iload_n 2, 1) := by decide +kernel
theorem dX4_saves_77 : decode cX4_saves 77 = .ok (.i2l, 1) := by decide +kernel
theorem dX4_saves_78 : decode cX4_saves 78 = .ok (.lconst 1, 1) := by decide +kernel
theorem dX4_saves_79 : decode cX4_saves 79 = .ok (.ldc2_w 132, 3) := by decide +kernel
theorem dX4_saves_82 : decode cX4_saves 82 = .ok (.invokevirtual 128, 3) := by decide +kernel
theorem dX4_saves_85 : decode cX4_saves 85 = .ok (.aload_n 0, 1) := by decide +kernel
theorem dX4_saves_86 : decode cX4_saves 86 = .ok (.iload_n 3, 1) := by decide +kernel
theorem dX4_saves_87 : decode cX4_saves 87 = .ok (.invokevirtual 160, 3) := by decide +kernel
theorem dX4_saves_90 : decode cX4_saves 90 = .ok (.lreturn, 1) := by decide +kernel
theorem dX4_misses_0 : decode cX4_misses 0 = .ok (.aload_n 0, 1) := by decide +kernel
theorem dX4_misses_1 : decode cX4_misses 1 = .ok (.iload_n 1, 1) := by decide +kernel
theorem dX4_misses_2 : decode cX4_misses 2 = .ok (.invokevirtual 98, 3) := by decide +kernel
theorem dX4_misses_5 : decode cX4_misses 5 = .ok (.ifCond .eq 10, 3) := by decide +kernel
theorem dX4_misses_8 : decode cX4_misses 8 = .ok (.iload_n 2, 1) := by decide +kernel
theorem dX4_misses_9 : decode cX4_misses 9 = .ok (.invokestatic 149, 3) := by decide +kernel
theorem dX4_misses_12 : decode cX4_misses 12 = .ok (.ifCond .ne 7, 3) := by decide +kernel
theorem dX4_misses_15 : decode cX4_misses 15 = .ok (.ldc2_w 152, 3) := by decide +kernel
theorem dX4_misses_18 : decode cX4_misses 18 = .ok (.lreturn, 1) := by decide +kernel
theorem dX4_misses_19 : decode cX4_misses 19 = .ok (.aload_n 0, 1) := by decide +kernel
theorem dX4_misses_20 : decode cX4_misses 20 = .ok (.getfield 24, 3) := by decide +kernel
theorem dX4_misses_23 : decode cX4_misses 23 = .ok (.iload_n 1, 1) := by decide +kernel
theorem dX4_misses_24 : decode cX4_misses 24 = .ok (.baload, 1) := by decide +kernel
theorem dX4_misses_25 : decode cX4_misses 25 = .ok (.istore_n 3, 1) := by decide +kernel
theorem dX4_misses_26 : decode cX4_misses 26 = .ok (.aload_n 0, 1) := by decide +kernel
theorem dX4_misses_27 : decode cX4_misses 27 = .ok (.getfield 24, 3) := by decide +kernel
theorem dX4_misses_30 : decode cX4_misses 30 = .ok (.iload_n 1, 1) := by decide +kernel
theorem dX4_misses_31 : decode cX4_misses 31 = .ok (.iconst 0, 1) := by decide +kernel
theorem dX4_misses_32 : decode cX4_misses 32 = .ok (.bastore, 1) := by decide +kernel
theorem dX4_misses_33 : decode cX4_misses 33 = .ok (.aload_n 0, 1) := by decide +kernel
theorem dX4_misses_34 : decode cX4_misses 34 = .ok (.invokevirtual 154, 3) := by decide +kernel
theorem dX4_misses_37 : decode cX4_misses 37 = .ok (.aload_n 0, 1) := by decide +kernel
theorem dX4_misses_38 : decode cX4_misses 38 = .ok (.getfield 36, 3) := by decide +kernel
theorem dX4_misses_41 : decode cX4_misses 41 = .ok (.iconst 3, 1) := by decide +kernel
theorem dX4_misses_42 : decode cX4_misses 42 = .ok (.laload, 1) := by decide +kernel
theorem dX4_misses_43 : decode cX4_misses 43 = .ok (.lstore 4, 2) := by decide +kernel
theorem dX4_misses_45 : decode cX4_misses 45 = .ok (.aload_n 0, 1) := by decide +kernel
theorem dX4_misses_46 : decode cX4_misses 46 = .ok (.getfield 40, 3) := by decide +kernel
theorem dX4_misses_49 : decode cX4_misses 49 = .ok (.iconst 3, 1) := by decide +kernel
theorem dX4_misses_50 : decode cX4_misses 50 = .ok (.laload, 1) := by decide +kernel
theorem dX4_misses_51 : decode cX4_misses 51 = .ok (.lstore 6, 2) := by decide +kernel
theorem dX4_misses_53 : decode cX4_misses 53 = .ok (.aload_n 0, 1) := by decide +kernel
theorem dX4_misses_54 : decode cX4_misses 54 = .ok (.getfield 24, 3) := by decide +kernel
theorem dX4_misses_57 : decode cX4_misses 57 = .ok (.iload_n 1, 1) := by decide +kernel
theorem dX4_misses_58 : decode cX4_misses 58 = .ok (.iconst 1, 1) := by decide +kernel
theorem dX4_misses_59 : decode cX4_misses 59 = .ok (.bastore, 1) := by decide +kernel
theorem dX4_misses_60 : decode cX4_misses 60 = .ok (.aload_n 0, 1) := by decide +kernel
theorem dX4_misses_61 : decode cX4_misses 61 = .ok (.invokevirtual 154, 3) := by decide +kernel
theorem dX4_misses_64 : decode cX4_misses 64 = .ok (.aload_n 0, 1) := by decide +kernel
theorem dX4_misses_65 : decode cX4_misses 65 = .ok (.getfield 24, 3) := by decide +kernel
theorem dX4_misses_68 : decode cX4_misses 68 = .ok (.iload_n 1, 1) := by decide +kernel
theorem dX4_misses_69 : decode cX4_misses 69 = .ok (.iload_n 3, 1) := by decide +kernel
theorem dX4_misses_70 : decode cX4_misses 70 = .ok (.bastore, 1) := by decide +kernel
theorem dX4_misses_71 : decode cX4_misses 71 = .ok (.aload_n 0, 1) := by decide +kernel
theorem dX4_misses_72 : decode cX4_misses 72 = .ok (.aload_n 0, 1) := by decide +kernel
theorem dX4_misses_73 : decode cX4_misses 73 = .ok (.getfield 36, 3) := by decide +kernel
theorem dX4_misses_76 : decode cX4_misses 76 = .ok (.iconst 3, 1) := by decide +kernel
theorem dX4_misses_77 : decode cX4_misses 77 = .ok (.laload, 1) := by decide +kernel
theorem dX4_misses_78 : decode cX4_misses 78 = .ok (.aload_n 0, 1) := by decide +kernel
theorem dX4_misses_79 : decode cX4_misses 79 = .ok (.getfield 40, 3) := by decide +kernel
theorem dX4_misses_82 : decode cX4_misses 82 = .ok (.iconst 3, 1) := by decide +kernel
theorem dX4_misses_83 : decode cX4_misses 83 = .ok (.laload, 1) := by decide +kernel
theorem dX4_misses_84 : decode cX4_misses 84 = .ok (.lload 4, 2) := by decide +kernel
theorem dX4_misses_86 : decode cX4_misses 86 = .ok (.lload 6, 2) := by decide +kernel
theorem dX4_misses_88 : decode cX4_misses 88 = .ok (.ldc2_w 132, 3) := by decide +kernel
theorem dX4_misses_91 : decode cX4_misses 91 = .ok (.invokevirtual 128, 3) := by decide +kernel
theorem dX4_misses_94 : decode cX4_misses 94 = .ok (.aload_n 0, 1) := by decide +kernel
theorem dX4_misses_95 : decode cX4_misses 95 = .ok (.iload_n 2, 1) := by decide +kernel
theorem dX4_misses_96 : decode cX4_misses 96 = .ok (.invokevirtual 160, 3) := by decide +kernel
theorem dX4_misses_99 : decode cX4_misses 99 = .ok (.lreturn, 1) := by decide +kernel
theorem dX4_owe_0 : decode cX4_owe 0 = .ok (.aload_n 0, 1) := by decide +kernel
theorem dX4_owe_1 : decode cX4_owe 1 = .ok (.invokevirtual 154, 3) := by decide +kernel
theorem dX4_owe_4 : decode cX4_owe 4 = .ok (.iconst 0, 1) := by decide +kernel
theorem dX4_owe_5 : decode cX4_owe 5 = .ok (.istore_n 1, 1) := by decide +kernel
theorem dX4_owe_6 : decode cX4_owe 6 = .ok (.iconst 0, 1) := by decide +kernel
theorem dX4_owe_7 : decode cX4_owe 7 = .ok (.istore_n 2, 1) := by decide +kernel
theorem dX4_owe_8 : decode cX4_owe 8 = .ok (.iload_n 2, 1) := by decide +kernel
theorem dX4_owe_9 : decode cX4_owe 9 = .ok (.bipush 6, 2) := by decide +kernel
theorem dX4_owe_11 : decode cX4_owe 11 = .ok (.if_icmp .ge 42, 3) := by decide +kernel
theorem dX4_owe_14 : decode cX4_owe 14 = .ok (.aload_n 0, 1) := by decide +kernel
theorem dX4_owe_15 : decode cX4_owe 15 = .ok (.getfield 17, 3) := by decide +kernel
theorem dX4_owe_18 : decode cX4_owe 18 = .ok (.iload_n 2, 1) := by decide +kernel
theorem dX4_owe_19 : decode cX4_owe 19 = .ok (.baload, 1) := by decide +kernel
theorem dX4_owe_20 : decode cX4_owe 20 = .ok (.ifCond .eq 27, 3) := by decide +kernel
theorem dX4_owe_23 : decode cX4_owe 23 = .ok (.aload_n 0, 1) := by decide +kernel
theorem dX4_owe_24 : decode cX4_owe 24 = .ok (.iload_n 2, 1) := by decide +kernel
theorem dX4_owe_25 : decode cX4_owe 25 = .ok (.invokevirtual 166, 3) := by decide +kernel
theorem dX4_owe_28 : decode cX4_owe 28 = .ok (.iload_n 1, 1) := by decide +kernel
theorem dX4_owe_29 : decode cX4_owe 29 = .ok (.aload_n 0, 1) := by decide +kernel
theorem dX4_owe_30 : decode cX4_owe 30 = .ok (.getfield 75, 3) := by decide +kernel
theorem dX4_owe_33 : decode cX4_owe 33 = .ok (.lconst 0, 1) := by decide +kernel
theorem dX4_owe_34 : decode cX4_owe 34 = .ok (.lcmp, 1) := by decide +kernel
theorem dX4_owe_35 : decode cX4_owe 35 = .ok (.ifCond .le 9, 3) := by decide +kernel
theorem dX4_owe_38 : decode cX4_owe 38 = .ok (.iconst 1, 1) := by decide +kernel
theorem dX4_owe_39 : decode cX4_owe 39 = .ok (.iload_n 2, 1) := by decide +kernel
theorem dX4_owe_40 : decode cX4_owe 40 = .ok (.ishl, 1) := by decide +kernel
theorem dX4_owe_41 : decode cX4_owe 41 = .ok (.goto 4, 3) := by decide +kernel
theorem dX4_owe_44 : decode cX4_owe 44 = .ok (.iconst 0, 1) := by decide +kernel
theorem dX4_owe_45 : decode cX4_owe 45 = .ok (.ior, 1) := by decide +kernel
theorem dX4_owe_46 : decode cX4_owe 46 = .ok (.istore_n 1, 1) := by decide +kernel
theorem dX4_owe_47 : decode cX4_owe 47 = .ok (.iinc 2 1, 3) := by decide +kernel
theorem dX4_owe_50 : decode cX4_owe 50 = .ok (.goto (-42), 3) := by decide +kernel
theorem dX4_owe_53 : decode cX4_owe 53 = .ok (.iload_n 1, 1) := by decide +kernel
theorem dX4_owe_54 : decode cX4_owe 54 = .ok (.ireturn, 1) := by decide +kernel
theorem dX4_paidAll_0 : decode cX4_paidAll 0 = .ok (.lconst 0, 1) := by decide +kernel
theorem dX4_paidAll_1 : decode cX4_paidAll 1 = .ok (.lstore_n 1, 1) := by decide +kernel
theorem dX4_paidAll_2 : decode cX4_paidAll 2 = .ok (.iconst 0, 1) := by decide +kernel
theorem dX4_paidAll_3 : decode cX4_paidAll 3 = .ok (.istore_n 3, 1) := by decide +kernel
theorem dX4_paidAll_4 : decode cX4_paidAll 4 = .ok (.iload_n 3, 1) := by decide +kernel
theorem dX4_paidAll_5 : decode cX4_paidAll 5 = .ok (.bipush 6, 2) := by decide +kernel
theorem dX4_paidAll_7 : decode cX4_paidAll 7 = .ok (.if_icmp .ge 19, 3) := by decide +kernel
theorem dX4_paidAll_10 : decode cX4_paidAll 10 = .ok (.lload_n 1, 1) := by decide +kernel
theorem dX4_paidAll_11 : decode cX4_paidAll 11 = .ok (.aload_n 0, 1) := by decide +kernel
theorem dX4_paidAll_12 : decode cX4_paidAll 12 = .ok (.getfield 33, 3) := by decide +kernel
theorem dX4_paidAll_15 : decode cX4_paidAll 15 = .ok (.iload_n 3, 1) := by decide +kernel
theorem dX4_paidAll_16 : decode cX4_paidAll 16 = .ok (.iaload, 1) := by decide +kernel
theorem dX4_paidAll_17 : decode cX4_paidAll 17 = .ok (.i2l, 1) := by decide +kernel
theorem dX4_paidAll_18 : decode cX4_paidAll 18 = .ok (.ladd, 1) := by decide +kernel
theorem dX4_paidAll_19 : decode cX4_paidAll 19 = .ok (.lstore_n 1, 1) := by decide +kernel
theorem dX4_paidAll_20 : decode cX4_paidAll 20 = .ok (.iinc 3 1, 3) := by decide +kernel
theorem dX4_paidAll_23 : decode cX4_paidAll 23 = .ok (.goto (-19), 3) := by decide +kernel
theorem dX4_paidAll_26 : decode cX4_paidAll 26 = .ok (.lload_n 1, 1) := by decide +kernel
theorem dX4_paidAll_27 : decode cX4_paidAll 27 = .ok (.lreturn, 1) := by decide +kernel
theorem dX4_pay_0 : decode cX4_pay 0 = .ok (.aload_n 0, 1) := by decide +kernel
theorem dX4_pay_1 : decode cX4_pay 1 = .ok (.iload_n 1, 1) := by decide +kernel
theorem dX4_pay_2 : decode cX4_pay 2 = .ok (.invokevirtual 98, 3) := by decide +kernel
theorem dX4_pay_5 : decode cX4_pay 5 = .ok (.ifCond .ne 5, 3) := by decide +kernel
theorem dX4_pay_8 : decode cX4_pay 8 = .ok (.iconst (-1), 1) := by decide +kernel
theorem dX4_pay_9 : decode cX4_pay 9 = .ok (.ireturn, 1) := by decide +kernel
theorem dX4_pay_10 : decode cX4_pay 10 = .ok (.iload_n 2, 1) := by decide +kernel
theorem dX4_pay_11 : decode cX4_pay 11 = .ok (.iconst 1, 1) := by decide +kernel
theorem dX4_pay_12 : decode cX4_pay 12 = .ok (.ldc 86, 2) := by decide +kernel
theorem dX4_pay_14 : decode cX4_pay 14 = .ok (.invokestatic 82, 3) := by decide +kernel
theorem dX4_pay_17 : decode cX4_pay 17 = .ok (.ifCond .ne 6, 3) := by decide +kernel
theorem dX4_pay_20 : decode cX4_pay 20 = .ok (.bipush (-2), 2) := by decide +kernel
theorem dX4_pay_22 : decode cX4_pay 22 = .ok (.ireturn, 1) := by decide +kernel
theorem dX4_pay_23 : decode cX4_pay 23 = .ok (.aload_n 0, 1) := by decide +kernel
theorem dX4_pay_24 : decode cX4_pay 24 = .ok (.invokevirtual 154, 3) := by decide +kernel
theorem dX4_pay_27 : decode cX4_pay 27 = .ok (.aload_n 0, 1) := by decide +kernel
theorem dX4_pay_28 : decode cX4_pay 28 = .ok (.getfield 24, 3) := by decide +kernel
theorem dX4_pay_31 : decode cX4_pay 31 = .ok (.iload_n 1, 1) := by decide +kernel
theorem dX4_pay_32 : decode cX4_pay 32 = .ok (.baload, 1) := by decide +kernel
theorem dX4_pay_33 : decode cX4_pay 33 = .ok (.ifCond .ne 38, 3) := by decide +kernel
theorem dX4_pay_36 : decode cX4_pay 36 = .ok (.aload_n 0, 1) := by decide +kernel
theorem dX4_pay_37 : decode cX4_pay 37 = .ok (.getfield 30, 3) := by decide +kernel
theorem dX4_pay_40 : decode cX4_pay 40 = .ok (.iload_n 1, 1) := by decide +kernel
theorem dX4_pay_41 : decode cX4_pay 41 = .ok (.iaload, 1) := by decide +kernel
theorem dX4_pay_42 : decode cX4_pay 42 = .ok (.bipush (-9), 2) := by decide +kernel
theorem dX4_pay_44 : decode cX4_pay 44 = .ok (.if_icmp .ne 27, 3) := by decide +kernel
theorem dX4_pay_47 : decode cX4_pay 47 = .ok (.aload_n 0, 1) := by decide +kernel
theorem dX4_pay_48 : decode cX4_pay 48 = .ok (.invokevirtual 175, 3) := by decide +kernel
theorem dX4_pay_51 : decode cX4_pay 51 = .ok (.iload_n 2, 1) := by decide +kernel
theorem dX4_pay_52 : decode cX4_pay 52 = .ok (.i2l, 1) := by decide +kernel
theorem dX4_pay_53 : decode cX4_pay 53 = .ok (.ladd, 1) := by decide +kernel
theorem dX4_pay_54 : decode cX4_pay 54 = .ok (.aload_n 0, 1) := by decide +kernel
theorem dX4_pay_55 : decode cX4_pay 55 = .ok (.getfield 40, 3) := by decide +kernel
theorem dX4_pay_58 : decode cX4_pay 58 = .ok (.iconst 4, 1) := by decide +kernel
theorem dX4_pay_59 : decode cX4_pay 59 = .ok (.laload, 1) := by decide +kernel
theorem dX4_pay_60 : decode cX4_pay 60 = .ok (.lmul, 1) := by decide +kernel
theorem dX4_pay_61 : decode cX4_pay 61 = .ok (.aload_n 0, 1) := by decide +kernel
theorem dX4_pay_62 : decode cX4_pay 62 = .ok (.getfield 36, 3) := by decide +kernel
theorem dX4_pay_65 : decode cX4_pay 65 = .ok (.iconst 4, 1) := by decide +kernel
theorem dX4_pay_66 : decode cX4_pay 66 = .ok (.laload, 1) := by decide +kernel
theorem dX4_pay_67 : decode cX4_pay 67 = .ok (.lcmp, 1) := by decide +kernel
theorem dX4_pay_68 : decode cX4_pay 68 = .ok (.ifCond .le 6, 3) := by decide +kernel
theorem dX4_pay_71 : decode cX4_pay 71 = .ok (.bipush (-3), 2) := by decide +kernel
theorem dX4_pay_73 : decode cX4_pay 73 = .ok (.ireturn, 1) := by decide +kernel
theorem dX4_pay_74 : decode cX4_pay 74 = .ok (.aload_n 0, 1) := by decide +kernel
theorem dX4_pay_75 : decode cX4_pay 75 = .ok (.getfield 33, 3) := by decide +kernel
theorem dX4_pay_78 : decode cX4_pay 78 = .ok (.iload_n 1, 1) := by decide +kernel
theorem dX4_pay_79 : decode cX4_pay 79 = .ok (.dup2, 1) := by decide +kernel
theorem dX4_pay_80 : decode cX4_pay 80 = .ok (.iaload, 1) := by decide +kernel
theorem dX4_pay_81 : decode cX4_pay 81 = .ok (.iload_n 2, 1) := by decide +kernel
theorem dX4_pay_82 : decode cX4_pay 82 = .ok (.iadd, 1) := by decide +kernel
theorem dX4_pay_83 : decode cX4_pay 83 = .ok (.iastore, 1) := by decide +kernel
theorem dX4_pay_84 : decode cX4_pay 84 = .ok (.aload_n 0, 1) := by decide +kernel
theorem dX4_pay_85 : decode cX4_pay 85 = .ok (.getfield 33, 3) := by decide +kernel
theorem dX4_pay_88 : decode cX4_pay 88 = .ok (.iload_n 1, 1) := by decide +kernel
theorem dX4_pay_89 : decode cX4_pay 89 = .ok (.iaload, 1) := by decide +kernel
theorem dX4_pay_90 : decode cX4_pay 90 = .ok (.ireturn, 1) := by decide +kernel
theorem dX4_refund_0 : decode cX4_refund 0 = .ok (.aload_n 0, 1) := by decide +kernel
theorem dX4_refund_1 : decode cX4_refund 1 = .ok (.iload_n 1, 1) := by decide +kernel
theorem dX4_refund_2 : decode cX4_refund 2 = .ok (.invokevirtual 98, 3) := by decide +kernel
theorem dX4_refund_5 : decode cX4_refund 5 = .ok (.ifCond .ne 5, 3) := by decide +kernel
theorem dX4_refund_8 : decode cX4_refund 8 = .ok (.iconst (-1), 1) := by decide +kernel
theorem dX4_refund_9 : decode cX4_refund 9 = .ok (.ireturn, 1) := by decide +kernel
theorem dX4_refund_10 : decode cX4_refund 10 = .ok (.aload_n 0, 1) := by decide +kernel
theorem dX4_refund_11 : decode cX4_refund 11 = .ok (.getfield 33, 3) := by decide +kernel
theorem dX4_refund_14 : decode cX4_refund 14 = .ok (.iload_n 1, 1) := by decide +kernel
theorem dX4_refund_15 : decode cX4_refund 15 = .ok (.iaload, 1) := by decide +kernel
theorem dX4_refund_16 : decode cX4_refund 16 = .ok (.ifCond .ne 6, 3) := by decide +kernel
theorem dX4_refund_19 : decode cX4_refund 19 = .ok (.bipush (-3), 2) := by decide +kernel
theorem dX4_refund_21 : decode cX4_refund 21 = .ok (.ireturn, 1) := by decide +kernel
theorem dX4_refund_22 : decode cX4_refund 22 = .ok (.aload_n 0, 1) := by decide +kernel
theorem dX4_refund_23 : decode cX4_refund 23 = .ok (.getfield 33, 3) := by decide +kernel
theorem dX4_refund_26 : decode cX4_refund 26 = .ok (.iload_n 1, 1) := by decide +kernel
theorem dX4_refund_27 : decode cX4_refund 27 = .ok (.iaload, 1) := by decide +kernel
theorem dX4_refund_28 : decode cX4_refund 28 = .ok (.istore_n 2, 1) := by decide +kernel
theorem dX4_refund_29 : decode cX4_refund 29 = .ok (.aload_n 0, 1) := by decide +kernel
theorem dX4_refund_30 : decode cX4_refund 30 = .ok (.getfield 33, 3) := by decide +kernel
theorem dX4_refund_33 : decode cX4_refund 33 = .ok (.iload_n 1, 1) := by decide +kernel
theorem dX4_refund_34 : decode cX4_refund 34 = .ok (.iconst 0, 1) := by decide +kernel
theorem dX4_refund_35 : decode cX4_refund 35 = .ok (.iastore, 1) := by decide +kernel
theorem dX4_refund_36 : decode cX4_refund 36 = .ok (.iload_n 2, 1) := by decide +kernel
theorem dX4_refund_37 : decode cX4_refund 37 = .ok (.ireturn, 1) := by decide +kernel
theorem dX4_findFair_0 : decode cX4_findFair 0 = .ok (.aload_n 0, 1) := by decide +kernel
theorem dX4_findFair_1 : decode cX4_findFair 1 = .ok (.getfield 36, 3) := by decide +kernel
theorem dX4_findFair_4 : decode cX4_findFair 4 = .ok (.iconst 4, 1) := by decide +kernel
theorem dX4_findFair_5 : decode cX4_findFair 5 = .ok (.laload, 1) := by decide +kernel
theorem dX4_findFair_6 : decode cX4_findFair 6 = .ok (.lconst 0, 1) := by decide +kernel
theorem dX4_findFair_7 : decode cX4_findFair 7 = .ok (.lcmp, 1) := by decide +kernel
theorem dX4_findFair_8 : decode cX4_findFair 8 = .ok (.ifCond .ne 10, 3) := by decide +kernel
theorem dX4_findFair_11 : decode cX4_findFair 11 = .ok (.aload_n 0, 1) := by decide +kernel
theorem dX4_findFair_12 : decode cX4_findFair 12 = .ok (.lconst 0, 1) := by decide +kernel
theorem dX4_findFair_13 : decode cX4_findFair 13 = .ok (.lconst 1, 1) := by decide +kernel
theorem dX4_findFair_14 : decode cX4_findFair 14 = .ok (.invokevirtual 78, 3) := by decide +kernel
theorem dX4_findFair_17 : decode cX4_findFair 17 = .ok (.return_, 1) := by decide +kernel
theorem dX4_findFair_18 : decode cX4_findFair 18 = .ok (.aload_n 0, 1) := by decide +kernel
theorem dX4_findFair_19 : decode cX4_findFair 19 = .ok (.iload_n 1, 1) := by decide +kernel
theorem dX4_findFair_20 : decode cX4_findFair 20 = .ok (.invokevirtual 166, 3) := by decide +kernel
theorem dX4_findFair_23 : decode cX4_findFair 23 = .ok (.aload_n 0, 1) := by decide +kernel
theorem dX4_findFair_24 : decode cX4_findFair 24 = .ok (.aload_n 0, 1) := by decide +kernel
theorem dX4_findFair_25 : decode cX4_findFair 25 = .ok (.getfield 75, 3) := by decide +kernel
theorem dX4_findFair_28 : decode cX4_findFair 28 = .ok (.aload_n 0, 1) := by decide +kernel
theorem dX4_findFair_29 : decode cX4_findFair 29 = .ok (.getfield 7, 3) := by decide +kernel
theorem dX4_findFair_32 : decode cX4_findFair 32 = .ok (.aload_n 0, 1) := by decide +kernel
theorem dX4_findFair_33 : decode cX4_findFair 33 = .ok (.getfield 40, 3) := by decide +kernel
theorem dX4_findFair_36 : decode cX4_findFair 36 = .ok (.iconst 4, 1) := by decide +kernel
theorem dX4_findFair_37 : decode cX4_findFair 37 = .ok (.laload, 1) := by decide +kernel
theorem dX4_findFair_38 : decode cX4_findFair 38 = .ok (.aload_n 0, 1) := by decide +kernel
theorem dX4_findFair_39 : decode cX4_findFair 39 = .ok (.getfield 36, 3) := by decide +kernel
theorem dX4_findFair_42 : decode cX4_findFair 42 = .ok (.iconst 4, 1) := by decide +kernel
theorem dX4_findFair_43 : decode cX4_findFair 43 = .ok (.laload, 1) := by decide +kernel
theorem dX4_findFair_44 : decode cX4_findFair 44 = .ok (.invokevirtual 145, 3) := by decide +kernel
theorem dX4_findFair_47 : decode cX4_findFair 47 = .ok (.aload_n 0, 1) := by decide +kernel
theorem dX4_findFair_48 : decode cX4_findFair 48 = .ok (.aload_n 0, 1) := by decide +kernel
theorem dX4_findFair_49 : decode cX4_findFair 49 = .ok (.getfield 75, 3) := by decide +kernel
theorem dX4_findFair_52 : decode cX4_findFair 52 = .ok (.aload_n 0, 1) := by decide +kernel
theorem dX4_findFair_53 : decode cX4_findFair 53 = .ok (.getfield 7, 3) := by decide +kernel
theorem dX4_findFair_56 : decode cX4_findFair 56 = .ok (.aload_n 0, 1) := by decide +kernel
theorem dX4_findFair_57 : decode cX4_findFair 57 = .ok (.invokevirtual 175, 3) := by decide +kernel
theorem dX4_findFair_60 : decode cX4_findFair 60 = .ok (.lconst 1, 1) := by decide +kernel
theorem dX4_findFair_61 : decode cX4_findFair 61 = .ok (.invokevirtual 145, 3) := by decide +kernel
theorem dX4_findFair_64 : decode cX4_findFair 64 = .ok (.return_, 1) := by decide +kernel
theorem dX4_findOver_0 : decode cX4_findOver 0 = .ok (.aload_n 0, 1) := by decide +kernel
theorem dX4_findOver_1 : decode cX4_findOver 1 = .ok (.iload_n 1, 1) := by decide +kernel
theorem dX4_findOver_2 : decode cX4_findOver 2 = .ok (.invokevirtual 179, 3) := by decide +kernel
theorem dX4_findOver_5 : decode cX4_findOver 5 = .ok (.aload_n 0, 1) := by decide +kernel
theorem dX4_findOver_6 : decode cX4_findOver 6 = .ok (.aload_n 0, 1) := by decide +kernel
theorem dX4_findOver_7 : decode cX4_findOver 7 = .ok (.getfield 33, 3) := by decide +kernel
theorem dX4_findOver_10 : decode cX4_findOver 10 = .ok (.iload_n 1, 1) := by decide +kernel
theorem dX4_findOver_11 : decode cX4_findOver 11 = .ok (.iaload, 1) := by decide +kernel
theorem dX4_findOver_12 : decode cX4_findOver 12 = .ok (.i2l, 1) := by decide +kernel
theorem dX4_findOver_13 : decode cX4_findOver 13 = .ok (.lconst 1, 1) := by decide +kernel
theorem dX4_findOver_14 : decode cX4_findOver 14 = .ok (.aload_n 0, 1) := by decide +kernel
theorem dX4_findOver_15 : decode cX4_findOver 15 = .ok (.getfield 75, 3) := by decide +kernel
theorem dX4_findOver_18 : decode cX4_findOver 18 = .ok (.aload_n 0, 1) := by decide +kernel
theorem dX4_findOver_19 : decode cX4_findOver 19 = .ok (.getfield 7, 3) := by decide +kernel
theorem dX4_findOver_22 : decode cX4_findOver 22 = .ok (.ldc2_w 132, 3) := by decide +kernel
theorem dX4_findOver_25 : decode cX4_findOver 25 = .ok (.invokevirtual 128, 3) := by decide +kernel
theorem dX4_findOver_28 : decode cX4_findOver 28 = .ok (.return_, 1) := by decide +kernel
theorem dX4_fair_0 : decode cX4_fair 0 = .ok (.aload_n 0, 1) := by decide +kernel
theorem dX4_fair_1 : decode cX4_fair 1 = .ok (.iload_n 1, 1) := by decide +kernel
theorem dX4_fair_2 : decode cX4_fair 2 = .ok (.invokevirtual 98, 3) := by decide +kernel
theorem dX4_fair_5 : decode cX4_fair 5 = .ok (.ifCond .eq 10, 3) := by decide +kernel
theorem dX4_fair_8 : decode cX4_fair 8 = .ok (.iload_n 2, 1) := by decide +kernel
theorem dX4_fair_9 : decode cX4_fair 9 = .ok (.invokestatic 149, 3) := by decide +kernel
theorem dX4_fair_12 : decode cX4_fair 12 = .ok (.ifCond .ne 7, 3) := by decide +kernel
theorem dX4_fair_15 : decode cX4_fair 15 = .ok (.ldc2_w 152, 3) := by decide +kernel
theorem dX4_fair_18 : decode cX4_fair 18 = .ok (.lreturn, 1) := by decide +kernel
theorem dX4_fair_19 : decode cX4_fair 19 = .ok (.aload_n 0, 1) := by decide +kernel
theorem dX4_fair_20 : decode cX4_fair 20 = .ok (.invokevirtual 154, 3) := by decide +kernel
theorem dX4_fair_23 : decode cX4_fair 23 = .ok (.aload_n 0, 1) := by decide +kernel
theorem dX4_fair_24 : decode cX4_fair 24 = .ok (.iload_n 1, 1) := by decide +kernel
theorem dX4_fair_25 : decode cX4_fair 25 = .ok (.invokevirtual 179, 3) := by decide +kernel
theorem dX4_fair_28 : decode cX4_fair 28 = .ok (.aload_n 0, 1) := by decide +kernel
theorem dX4_fair_29 : decode cX4_fair 29 = .ok (.iload_n 2, 1) := by decide +kernel
theorem dX4_fair_30 : decode cX4_fair 30 = .ok (.invokevirtual 160, 3) := by decide +kernel
theorem dX4_fair_33 : decode cX4_fair 33 = .ok (.lreturn, 1) := by decide +kernel
theorem dX4_over_0 : decode cX4_over 0 = .ok (.aload_n 0, 1) := by decide +kernel
theorem dX4_over_1 : decode cX4_over 1 = .ok (.iload_n 1, 1) := by decide +kernel
theorem dX4_over_2 : decode cX4_over 2 = .ok (.invokevirtual 98, 3) := by decide +kernel
theorem dX4_over_5 : decode cX4_over 5 = .ok (.ifCond .eq 10, 3) := by decide +kernel
theorem dX4_over_8 : decode cX4_over 8 = .ok (.iload_n 2, 1) := by decide +kernel
theorem dX4_over_9 : decode cX4_over 9 = .ok (.invokestatic 149, 3) := by decide +kernel
theorem dX4_over_12 : decode cX4_over 12 = .ok (.ifCond .ne 7, 3) := by decide +kernel
theorem dX4_over_15 : decode cX4_over 15 = .ok (.ldc2_w 152, 3) := by decide +kernel
theorem dX4_over_18 : decode cX4_over 18 = .ok (.lreturn, 1) := by decide +kernel
theorem dX4_over_19 : decode cX4_over 19 = .ok (.aload_n 0, 1) := by decide +kernel
theorem dX4_over_20 : decode cX4_over 20 = .ok (.invokevirtual 154, 3) := by decide +kernel
theorem dX4_over_23 : decode cX4_over 23 = .ok (.aload_n 0, 1) := by decide +kernel
theorem dX4_over_24 : decode cX4_over 24 = .ok (.iload_n 1, 1) := by decide +kernel
theorem dX4_over_25 : decode cX4_over 25 = .ok (.invokevirtual 182, 3) := by decide +kernel
theorem dX4_over_28 : decode cX4_over 28 = .ok (.aload_n 0, 1) := by decide +kernel
theorem dX4_over_29 : decode cX4_over 29 = .ok (.iload_n 2, 1) := by decide +kernel
theorem dX4_over_30 : decode cX4_over 30 = .ok (.invokevirtual 160, 3) := by decide +kernel
theorem dX4_over_33 : decode cX4_over 33 = .ok (.lreturn, 1) := by decide +kernel
theorem dX4_firstWith_0 : decode cX4_firstWith 0 = .ok (.iconst 0, 1) := by decide +kernel
theorem dX4_firstWith_1 : decode cX4_firstWith 1 = .ok (.istore_n 2, 1) := by decide +kernel
theorem dX4_firstWith_2 : decode cX4_firstWith 2 = .ok (.iload_n 2, 1) := by decide +kernel
theorem dX4_firstWith_3 : decode cX4_firstWith 3 = .ok (.bipush 6, 2) := by decide +kernel
theorem dX4_firstWith_5 : decode cX4_firstWith 5 = .ok (.if_icmp .ge 25, 3) := by decide +kernel
theorem dX4_firstWith_8 : decode cX4_firstWith 8 = .ok (.aload_n 0, 1) := by decide +kernel
theorem dX4_firstWith_9 : decode cX4_firstWith 9 = .ok (.getfield 49, 3) := by decide +kernel
theorem dX4_firstWith_12 : decode cX4_firstWith 12 = .ok (.iload_n 2, 1) := by decide +kernel
theorem dX4_firstWith_13 : decode cX4_firstWith 13 = .ok (.laload, 1) := by decide +kernel
theorem dX4_firstWith_14 : decode cX4_firstWith 14 = .ok (.iload_n 1, 1) := by decide +kernel
theorem dX4_firstWith_15 : decode cX4_firstWith 15 = .ok (.i2l, 1) := by decide +kernel
theorem dX4_firstWith_16 : decode cX4_firstWith 16 = .ok (.lmul, 1) := by decide +kernel
theorem dX4_firstWith_17 : decode cX4_firstWith 17 = .ok (.lconst 0, 1) := by decide +kernel
theorem dX4_firstWith_18 : decode cX4_firstWith 18 = .ok (.lcmp, 1) := by decide +kernel
theorem dX4_firstWith_19 : decode cX4_firstWith 19 = .ok (.ifCond .le 5, 3) := by decide +kernel
theorem dX4_firstWith_22 : decode cX4_firstWith 22 = .ok (.iload_n 2, 1) := by decide +kernel
theorem dX4_firstWith_23 : decode cX4_firstWith 23 = .ok (.ireturn, 1) := by decide +kernel
theorem dX4_firstWith_24 : decode cX4_firstWith 24 = .ok (.iinc 2 1, 3) := by decide +kernel
theorem dX4_firstWith_27 : decode cX4_firstWith 27 = .ok (.goto (-25), 3) := by decide +kernel
theorem dX4_firstWith_30 : decode cX4_firstWith 30 = .ok (.bipush (-9), 2) := by decide +kernel
theorem dX4_firstWith_32 : decode cX4_firstWith 32 = .ok (.ireturn, 1) := by decide +kernel
theorem dX4_findTransfers_0 : decode cX4_findTransfers 0 = .ok (.aload_n 0, 1) := by decide +kernel
theorem dX4_findTransfers_1 : decode cX4_findTransfers 1 = .ok (.invokevirtual 154, 3) := by decide +kernel
theorem dX4_findTransfers_4 : decode cX4_findTransfers 4 = .ok (.iconst 0, 1) := by decide +kernel
theorem dX4_findTransfers_5 : decode cX4_findTransfers 5 = .ok (.istore_n 1, 1) := by decide +kernel
theorem dX4_findTransfers_6 : decode cX4_findTransfers 6 = .ok (.iload_n 1, 1) := by decide +kernel
theorem dX4_findTransfers_7 : decode cX4_findTransfers 7 = .ok (.bipush 6, 2) := by decide +kernel
theorem dX4_findTransfers_9 : decode cX4_findTransfers 9 = .ok (.if_icmp .ge 57, 3) := by decide +kernel
theorem dX4_findTransfers_12 : decode cX4_findTransfers 12 = .ok (.aload_n 0, 1) := by decide +kernel
theorem dX4_findTransfers_13 : decode cX4_findTransfers 13 = .ok (.getfield 49, 3) := by decide +kernel
theorem dX4_findTransfers_16 : decode cX4_findTransfers 16 = .ok (.iload_n 1, 1) := by decide +kernel
theorem dX4_findTransfers_17 : decode cX4_findTransfers 17 = .ok (.lconst 0, 1) := by decide +kernel
theorem dX4_findTransfers_18 : decode cX4_findTransfers 18 = .ok (.lastore, 1) := by decide +kernel
theorem dX4_findTransfers_19 : decode cX4_findTransfers 19 = .ok (.aload_n 0, 1) := by decide +kernel
theorem dX4_findTransfers_20 : decode cX4_findTransfers 20 = .ok (.getfield 52, 3) := by decide +kernel
theorem dX4_findTransfers_23 : decode cX4_findTransfers 23 = .ok (.iload_n 1, 1) := by decide +kernel
theorem dX4_findTransfers_24 : decode cX4_findTransfers 24 = .ok (.lconst 1, 1) := by decide +kernel
theorem dX4_findTransfers_25 : decode cX4_findTransfers 25 = .ok (.lastore, 1) := by decide +kernel
theorem dX4_findTransfers_26 : decode cX4_findTransfers 26 = .ok (.aload_n 0, 1) := by decide +kernel
theorem dX4_findTransfers_27 : decode cX4_findTransfers 27 = .ok (.getfield 17, 3) := by decide +kernel
theorem dX4_findTransfers_30 : decode cX4_findTransfers 30 = .ok (.iload_n 1, 1) := by decide +kernel
theorem dX4_findTransfers_31 : decode cX4_findTransfers 31 = .ok (.baload, 1) := by decide +kernel
theorem dX4_findTransfers_32 : decode cX4_findTransfers 32 = .ok (.ifCond .eq 28, 3) := by decide +kernel
theorem dX4_findTransfers_35 : decode cX4_findTransfers 35 = .ok (.aload_n 0, 1) := by decide +kernel
theorem dX4_findTransfers_36 : decode cX4_findTransfers 36 = .ok (.iload_n 1, 1) := by decide +kernel
theorem dX4_findTransfers_37 : decode cX4_findTransfers 37 = .ok (.invokevirtual 182, 3) := by decide +kernel
theorem dX4_findTransfers_40 : decode cX4_findTransfers 40 = .ok (.aload_n 0, 1) := by decide +kernel
theorem dX4_findTransfers_41 : decode cX4_findTransfers 41 = .ok (.getfield 49, 3) := by decide +kernel
theorem dX4_findTransfers_44 : decode cX4_findTransfers 44 = .ok (.iload_n 1, 1) := by decide +kernel
theorem dX4_findTransfers_45 : decode cX4_findTransfers 45 = .ok (.aload_n 0, 1) := by decide +kernel
theorem dX4_findTransfers_46 : decode cX4_findTransfers 46 = .ok (.getfield 75, 3) := by decide +kernel
theorem dX4_findTransfers_49 : decode cX4_findTransfers 49 = .ok (.lastore, 1) := by decide +kernel
theorem dX4_findTransfers_50 : decode cX4_findTransfers 50 = .ok (.aload_n 0, 1) := by decide +kernel
theorem dX4_findTransfers_51 : decode cX4_findTransfers 51 = .ok (.getfield 52, 3) := by decide +kernel
theorem dX4_findTransfers_54 : decode cX4_findTransfers 54 = .ok (.iload_n 1, 1) := by decide +kernel
theorem dX4_findTransfers_55 : decode cX4_findTransfers 55 = .ok (.aload_n 0, 1) := by decide +kernel
theorem dX4_findTransfers_56 : decode cX4_findTransfers 56 = .ok (.getfield 7, 3) := by decide +kernel
theorem dX4_findTransfers_59 : decode cX4_findTransfers 59 = .ok (.lastore, 1) := by decide +kernel
theorem dX4_findTransfers_60 : decode cX4_findTransfers 60 = .ok (.iinc 1 1, 3) := by decide +kernel
theorem dX4_findTransfers_63 : decode cX4_findTransfers 63 = .ok (.goto (-57), 3) := by decide +kernel
theorem dX4_findTransfers_66 : decode cX4_findTransfers 66 = .ok (.aload_n 0, 1) := by decide +kernel
theorem dX4_findTransfers_67 : decode cX4_findTransfers 67 = .ok (.iconst 0, 1) := by decide +kernel
theorem dX4_findTransfers_68 : decode cX4_findTransfers 68 = .ok (.putfield 185, 3) := by decide +kernel
theorem dX4_findTransfers_71 : decode cX4_findTransfers 71 = .ok (.aload_n 0, 1) := by decide +kernel
theorem dX4_findTransfers_72 : decode cX4_findTransfers 72 = .ok (.iconst (-1), 1) := by decide +kernel
theorem dX4_findTransfers_73 : decode cX4_findTransfers 73 = .ok (.invokevirtual 188, 3) := by decide +kernel
theorem dX4_findTransfers_76 : decode cX4_findTransfers 76 = .ok (.istore_n 1, 1) := by decide +kernel
theorem dX4_findTransfers_77 : decode cX4_findTransfers 77 = .ok (.aload_n 0, 1) := by decide +kernel
theorem dX4_findTransfers_78 : decode cX4_findTransfers 78 = .ok (.iconst 1, 1) := by decide +kernel
theorem dX4_findTransfers_79 : decode cX4_findTransfers 79 = .ok (.invokevirtual 188, 3) := by decide +kernel
theorem dX4_findTransfers_82 : decode cX4_findTransfers 82 = .ok (.istore_n 2, 1) := by decide +kernel
theorem dX4_findTransfers_83 : decode cX4_findTransfers 83 = .ok (.iload_n 1, 1) := by decide +kernel
theorem dX4_findTransfers_84 : decode cX4_findTransfers 84 = .ok (.bipush (-9), 2) := by decide +kernel
theorem dX4_findTransfers_86 : decode cX4_findTransfers 86 = .ok (.if_icmp .eq 30, 3) := by decide +kernel
theorem dX4_findTransfers_89 : decode cX4_findTransfers 89 = .ok (.iload_n 2, 1) := by decide +kernel
theorem dX4_findTransfers_90 : decode cX4_findTransfers 90 = .ok (.bipush (-9), 2) := by decide +kernel
theorem dX4_findTransfers_92 : decode cX4_findTransfers 92 = .ok (.if_icmp .eq 24, 3) := by decide +kernel
theorem dX4_findTransfers_95 : decode cX4_findTransfers 95 = .ok (.aload_n 0, 1) := by decide +kernel
theorem dX4_findTransfers_96 : decode cX4_findTransfers 96 = .ok (.iload_n 1, 1) := by decide +kernel
theorem dX4_findTransfers_97 : decode cX4_findTransfers 97 = .ok (.iload_n 2, 1) := by decide +kernel
theorem dX4_findTransfers_98 : decode cX4_findTransfers 98 = .ok (.invokevirtual 191, 3) := by decide +kernel
theorem dX4_findTransfers_101 : decode cX4_findTransfers 101 = .ok (.aload_n 0, 1) := by decide +kernel
theorem dX4_findTransfers_102 : decode cX4_findTransfers 102 = .ok (.iconst (-1), 1) := by decide +kernel
theorem dX4_findTransfers_103 : decode cX4_findTransfers 103 = .ok (.invokevirtual 188, 3) := by decide +kernel
theorem dX4_findTransfers_106 : decode cX4_findTransfers 106 = .ok (.istore_n 1, 1) := by decide +kernel
theorem dX4_findTransfers_107 : decode cX4_findTransfers 107 = .ok (.aload_n 0, 1) := by decide +kernel
theorem dX4_findTransfers_108 : decode cX4_findTransfers 108 = .ok (.iconst 1, 1) := by decide +kernel
theorem dX4_findTransfers_109 : decode cX4_findTransfers 109 = .ok (.invokevirtual 188, 3) := by decide +kernel
theorem dX4_findTransfers_112 : decode cX4_findTransfers 112 = .ok (.istore_n 2, 1) := by decide +kernel
theorem dX4_findTransfers_113 : decode cX4_findTransfers 113 = .ok (.goto (-30), 3) := by decide +kernel
theorem dX4_findTransfers_116 : decode cX4_findTransfers 116 = .ok (.return_, 1) := by decide +kernel
theorem dX4_goesOver_0 : decode cX4_goesOver 0 = .ok (.aload_n 0, 1) := by decide +kernel
theorem dX4_goesOver_1 : decode cX4_goesOver 1 = .ok (.aload_n 0, 1) := by decide +kernel
theorem dX4_goesOver_2 : decode cX4_goesOver 2 = .ok (.getfield 49, 3) := by decide +kernel
theorem dX4_goesOver_5 : decode cX4_goesOver 5 = .ok (.iload_n 1, 1) := by decide +kernel
theorem dX4_goesOver_6 : decode cX4_goesOver 6 = .ok (.laload, 1) := by decide +kernel
theorem dX4_goesOver_7 : decode cX4_goesOver 7 = .ok (.aload_n 0, 1) := by decide +kernel
theorem dX4_goesOver_8 : decode cX4_goesOver 8 = .ok (.getfield 52, 3) := by decide +kernel
theorem dX4_goesOver_11 : decode cX4_goesOver 11 = .ok (.iload_n 1, 1) := by decide +kernel
theorem dX4_goesOver_12 : decode cX4_goesOver 12 = .ok (.laload, 1) := by decide +kernel
theorem dX4_goesOver_13 : decode cX4_goesOver 13 = .ok (.aload_n 0, 1) := by decide +kernel
theorem dX4_goesOver_14 : decode cX4_goesOver 14 = .ok (.getfield 49, 3) := by decide +kernel
theorem dX4_goesOver_17 : decode cX4_goesOver 17 = .ok (.iload_n 2, 1) := by decide +kernel
theorem dX4_goesOver_18 : decode cX4_goesOver 18 = .ok (.laload, 1) := by decide +kernel
theorem dX4_goesOver_19 : decode cX4_goesOver 19 = .ok (.aload_n 0, 1) := by decide +kernel
theorem dX4_goesOver_20 : decode cX4_goesOver 20 = .ok (.getfield 52, 3) := by decide +kernel
theorem dX4_goesOver_23 : decode cX4_goesOver 23 = .ok (.iload_n 2, 1) := by decide +kernel
theorem dX4_goesOver_24 : decode cX4_goesOver 24 = .ok (.laload, 1) := by decide +kernel
theorem dX4_goesOver_25 : decode cX4_goesOver 25 = .ok (.lconst 1, 1) := by decide +kernel
theorem dX4_goesOver_26 : decode cX4_goesOver 26 = .ok (.invokevirtual 128, 3) := by decide +kernel
theorem dX4_goesOver_29 : decode cX4_goesOver 29 = .ok (.aload_n 0, 1) := by decide +kernel
theorem dX4_goesOver_30 : decode cX4_goesOver 30 = .ok (.getfield 75, 3) := by decide +kernel
theorem dX4_goesOver_33 : decode cX4_goesOver 33 = .ok (.lconst 0, 1) := by decide +kernel
theorem dX4_goesOver_34 : decode cX4_goesOver 34 = .ok (.lcmp, 1) := by decide +kernel
theorem dX4_goesOver_35 : decode cX4_goesOver 35 = .ok (.ifCond .le 13, 3) := by decide +kernel
theorem dX4_goesOver_38 : decode cX4_goesOver 38 = .ok (.aload_n 0, 1) := by decide +kernel
theorem dX4_goesOver_39 : decode cX4_goesOver 39 = .ok (.getfield 49, 3) := by decide +kernel
theorem dX4_goesOver_42 : decode cX4_goesOver 42 = .ok (.iload_n 1, 1) := by decide +kernel
theorem dX4_goesOver_43 : decode cX4_goesOver 43 = .ok (.laload, 1) := by decide +kernel
theorem dX4_goesOver_44 : decode cX4_goesOver 44 = .ok (.lneg, 1) := by decide +kernel
theorem dX4_goesOver_45 : decode cX4_goesOver 45 = .ok (.goto 9, 3) := by decide +kernel
theorem dX4_goesOver_48 : decode cX4_goesOver 48 = .ok (.aload_n 0, 1) := by decide +kernel
theorem dX4_goesOver_49 : decode cX4_goesOver 49 = .ok (.getfield 49, 3) := by decide +kernel
theorem dX4_goesOver_52 : decode cX4_goesOver 52 = .ok (.iload_n 2, 1) := by decide +kernel
theorem dX4_goesOver_53 : decode cX4_goesOver 53 = .ok (.laload, 1) := by decide +kernel
theorem dX4_goesOver_54 : decode cX4_goesOver 54 = .ok (.lstore_n 3, 1) := by decide +kernel
theorem dX4_goesOver_55 : decode cX4_goesOver 55 = .ok (.aload_n 0, 1) := by decide +kernel
theorem dX4_goesOver_56 : decode cX4_goesOver 56 = .ok (.getfield 75, 3) := by decide +kernel
theorem dX4_goesOver_59 : decode cX4_goesOver 59 = .ok (.lconst 0, 1) := by decide +kernel
theorem dX4_goesOver_60 : decode cX4_goesOver 60 = .ok (.lcmp, 1) := by decide +kernel
theorem dX4_goesOver_61 : decode cX4_goesOver 61 = .ok (.ifCond .le 12, 3) := by decide +kernel
theorem dX4_goesOver_64 : decode cX4_goesOver 64 = .ok (.aload_n 0, 1) := by decide +kernel
theorem dX4_goesOver_65 : decode cX4_goesOver 65 = .ok (.getfield 52, 3) := by decide +kernel
theorem dX4_goesOver_68 : decode cX4_goesOver 68 = .ok (.iload_n 1, 1) := by decide +kernel
theorem dX4_goesOver_69 : decode cX4_goesOver 69 = .ok (.laload, 1) := by decide +kernel
theorem dX4_goesOver_70 : decode cX4_goesOver 70 = .ok (.goto 9, 3) := by decide +kernel
theorem dX4_goesOver_73 : decode cX4_goesOver 73 = .ok (.aload_n 0, 1) := by decide +kernel
theorem dX4_goesOver_74 : decode cX4_goesOver 74 = .ok (.getfield 52, 3) := by decide +kernel
theorem dX4_goesOver_77 : decode cX4_goesOver 77 = .ok (.iload_n 2, 1) := by decide +kernel
theorem dX4_goesOver_78 : decode cX4_goesOver 78 = .ok (.laload, 1) := by decide +kernel
theorem dX4_goesOver_79 : decode cX4_goesOver 79 = .ok (.lstore 5, 2) := by decide +kernel
theorem dX4_goesOver_81 : decode cX4_goesOver 81 = .ok (.aload_n 0, 1) := by decide +kernel
theorem dX4_goesOver_82 : decode cX4_goesOver 82 = .ok (.getfield 55, 3) := by decide +kernel
theorem dX4_goesOver_85 : decode cX4_goesOver 85 = .ok (.aload_n 0, 1) := by decide +kernel
theorem dX4_goesOver_86 : decode cX4_goesOver 86 = .ok (.getfield 185, 3) := by decide +kernel
theorem dX4_goesOver_89 : decode cX4_goesOver 89 = .ok (.iload_n 1, 1) := by decide +kernel
theorem dX4_goesOver_90 : decode cX4_goesOver 90 = .ok (.iastore, 1) := by decide +kernel
theorem dX4_goesOver_91 : decode cX4_goesOver 91 = .ok (.aload_n 0, 1) := by decide +kernel
theorem dX4_goesOver_92 : decode cX4_goesOver 92 = .ok (.getfield 58, 3) := by decide +kernel
theorem dX4_goesOver_95 : decode cX4_goesOver 95 = .ok (.aload_n 0, 1) := by decide +kernel
theorem dX4_goesOver_96 : decode cX4_goesOver 96 = .ok (.getfield 185, 3) := by decide +kernel
theorem dX4_goesOver_99 : decode cX4_goesOver 99 = .ok (.iload_n 2, 1) := by decide +kernel
theorem dX4_goesOver_100 : decode cX4_goesOver 100 = .ok (.iastore, 1) := by decide +kernel
theorem dX4_goesOver_101 : decode cX4_goesOver 101 = .ok (.aload_n 0, 1) := by decide +kernel
theorem dX4_goesOver_102 : decode cX4_goesOver 102 = .ok (.getfield 61, 3) := by decide +kernel
theorem dX4_goesOver_105 : decode cX4_goesOver 105 = .ok (.aload_n 0, 1) := by decide +kernel
theorem dX4_goesOver_106 : decode cX4_goesOver 106 = .ok (.getfield 185, 3) := by decide +kernel
theorem dX4_goesOver_109 : decode cX4_goesOver 109 = .ok (.lload_n 3, 1) := by decide +kernel
theorem dX4_goesOver_110 : decode cX4_goesOver 110 = .ok (.lastore, 1) := by decide +kernel
theorem dX4_goesOver_111 : decode cX4_goesOver 111 = .ok (.aload_n 0, 1) := by decide +kernel
theorem dX4_goesOver_112 : decode cX4_goesOver 112 = .ok (.getfield 64, 3) := by decide +kernel
theorem dX4_goesOver_115 : decode cX4_goesOver 115 = .ok (.aload_n 0, 1) := by decide +kernel
theorem dX4_goesOver_116 : decode cX4_goesOver 116 = .ok (.getfield 185, 3) := by decide +kernel
theorem dX4_goesOver_119 : decode cX4_goesOver 119 = .ok (.lload 5, 2) := by decide +kernel
theorem dX4_goesOver_121 : decode cX4_goesOver 121 = .ok (.lastore, 1) := by decide +kernel
theorem dX4_goesOver_122 : decode cX4_goesOver 122 = .ok (.aload_n 0, 1) := by decide +kernel
theorem dX4_goesOver_123 : decode cX4_goesOver 123 = .ok (.dup, 1) := by decide +kernel
theorem dX4_goesOver_124 : decode cX4_goesOver 124 = .ok (.getfield 185, 3) := by decide +kernel
theorem dX4_goesOver_127 : decode cX4_goesOver 127 = .ok (.iconst 1, 1) := by decide +kernel
theorem dX4_goesOver_128 : decode cX4_goesOver 128 = .ok (.iadd, 1) := by decide +kernel
theorem dX4_goesOver_129 : decode cX4_goesOver 129 = .ok (.putfield 185, 3) := by decide +kernel
theorem dX4_goesOver_132 : decode cX4_goesOver 132 = .ok (.aload_n 0, 1) := by decide +kernel
theorem dX4_goesOver_133 : decode cX4_goesOver 133 = .ok (.aload_n 0, 1) := by decide +kernel
theorem dX4_goesOver_134 : decode cX4_goesOver 134 = .ok (.getfield 49, 3) := by decide +kernel
theorem dX4_goesOver_137 : decode cX4_goesOver 137 = .ok (.iload_n 1, 1) := by decide +kernel
theorem dX4_goesOver_138 : decode cX4_goesOver 138 = .ok (.laload, 1) := by decide +kernel
theorem dX4_goesOver_139 : decode cX4_goesOver 139 = .ok (.aload_n 0, 1) := by decide +kernel
theorem dX4_goesOver_140 : decode cX4_goesOver 140 = .ok (.getfield 52, 3) := by decide +kernel
theorem dX4_goesOver_143 : decode cX4_goesOver 143 = .ok (.iload_n 1, 1) := by decide +kernel
theorem dX4_goesOver_144 : decode cX4_goesOver 144 = .ok (.laload, 1) := by decide +kernel
theorem dX4_goesOver_145 : decode cX4_goesOver 145 = .ok (.lload_n 3, 1) := by decide +kernel
theorem dX4_goesOver_146 : decode cX4_goesOver 146 = .ok (.lload 5, 2) := by decide +kernel
theorem dX4_goesOver_148 : decode cX4_goesOver 148 = .ok (.lconst 1, 1) := by decide +kernel
theorem dX4_goesOver_149 : decode cX4_goesOver 149 = .ok (.invokevirtual 128, 3) := by decide +kernel
theorem dX4_goesOver_152 : decode cX4_goesOver 152 = .ok (.aload_n 0, 1) := by decide +kernel
theorem dX4_goesOver_153 : decode cX4_goesOver 153 = .ok (.getfield 49, 3) := by decide +kernel
theorem dX4_goesOver_156 : decode cX4_goesOver 156 = .ok (.iload_n 1, 1) := by decide +kernel
theorem dX4_goesOver_157 : decode cX4_goesOver 157 = .ok (.aload_n 0, 1) := by decide +kernel
theorem dX4_goesOver_158 : decode cX4_goesOver 158 = .ok (.getfield 75, 3) := by decide +kernel
theorem dX4_goesOver_161 : decode cX4_goesOver 161 = .ok (.lastore, 1) := by decide +kernel
theorem dX4_goesOver_162 : decode cX4_goesOver 162 = .ok (.aload_n 0, 1) := by decide +kernel
theorem dX4_goesOver_163 : decode cX4_goesOver 163 = .ok (.getfield 52, 3) := by decide +kernel
theorem dX4_goesOver_166 : decode cX4_goesOver 166 = .ok (.iload_n 1, 1) := by decide +kernel
theorem dX4_goesOver_167 : decode cX4_goesOver 167 = .ok (.aload_n 0, 1) := by decide +kernel
theorem dX4_goesOver_168 : decode cX4_goesOver 168 = .ok (.getfield 7, 3) := by decide +kernel
theorem dX4_goesOver_171 : decode cX4_goesOver 171 = .ok (.lastore, 1) := by decide +kernel
theorem dX4_goesOver_172 : decode cX4_goesOver 172 = .ok (.aload_n 0, 1) := by decide +kernel
theorem dX4_goesOver_173 : decode cX4_goesOver 173 = .ok (.aload_n 0, 1) := by decide +kernel
theorem dX4_goesOver_174 : decode cX4_goesOver 174 = .ok (.getfield 49, 3) := by decide +kernel
theorem dX4_goesOver_177 : decode cX4_goesOver 177 = .ok (.iload_n 2, 1) := by decide +kernel
theorem dX4_goesOver_178 : decode cX4_goesOver 178 = .ok (.laload, 1) := by decide +kernel
theorem dX4_goesOver_179 : decode cX4_goesOver 179 = .ok (.aload_n 0, 1) := by decide +kernel
theorem dX4_goesOver_180 : decode cX4_goesOver 180 = .ok (.getfield 52, 3) := by decide +kernel
theorem dX4_goesOver_183 : decode cX4_goesOver 183 = .ok (.iload_n 2, 1) := by decide +kernel
theorem dX4_goesOver_184 : decode cX4_goesOver 184 = .ok (.laload, 1) := by decide +kernel
theorem dX4_goesOver_185 : decode cX4_goesOver 185 = .ok (.lload_n 3, 1) := by decide +kernel
theorem dX4_goesOver_186 : decode cX4_goesOver 186 = .ok (.lload 5, 2) := by decide +kernel
theorem dX4_goesOver_188 : decode cX4_goesOver 188 = .ok (.ldc2_w 132, 3) := by decide +kernel
theorem dX4_goesOver_191 : decode cX4_goesOver 191 = .ok (.invokevirtual 128, 3) := by decide +kernel
theorem dX4_goesOver_194 : decode cX4_goesOver 194 = .ok (.aload_n 0, 1) := by decide +kernel
theorem dX4_goesOver_195 : decode cX4_goesOver 195 = .ok (.getfield 49, 3) := by decide +kernel
theorem dX4_goesOver_198 : decode cX4_goesOver 198 = .ok (.iload_n 2, 1) := by decide +kernel
theorem dX4_goesOver_199 : decode cX4_goesOver 199 = .ok (.aload_n 0, 1) := by decide +kernel
theorem dX4_goesOver_200 : decode cX4_goesOver 200 = .ok (.getfield 75, 3) := by decide +kernel
theorem dX4_goesOver_203 : decode cX4_goesOver 203 = .ok (.lastore, 1) := by decide +kernel
theorem dX4_goesOver_204 : decode cX4_goesOver 204 = .ok (.aload_n 0, 1) := by decide +kernel
theorem dX4_goesOver_205 : decode cX4_goesOver 205 = .ok (.getfield 52, 3) := by decide +kernel
theorem dX4_goesOver_208 : decode cX4_goesOver 208 = .ok (.iload_n 2, 1) := by decide +kernel
theorem dX4_goesOver_209 : decode cX4_goesOver 209 = .ok (.aload_n 0, 1) := by decide +kernel
theorem dX4_goesOver_210 : decode cX4_goesOver 210 = .ok (.getfield 7, 3) := by decide +kernel
theorem dX4_goesOver_213 : decode cX4_goesOver 213 = .ok (.lastore, 1) := by decide +kernel
theorem dX4_goesOver_214 : decode cX4_goesOver 214 = .ok (.return_, 1) := by decide +kernel
theorem dX4_transfers_0 : decode cX4_transfers 0 = .ok (.aload_n 0, 1) := by decide +kernel
theorem dX4_transfers_1 : decode cX4_transfers 1 = .ok (.invokevirtual 194, 3) := by decide +kernel
theorem dX4_transfers_4 : decode cX4_transfers 4 = .ok (.aload_n 0, 1) := by decide +kernel
theorem dX4_transfers_5 : decode cX4_transfers 5 = .ok (.getfield 185, 3) := by decide +kernel
theorem dX4_transfers_8 : decode cX4_transfers 8 = .ok (.ireturn, 1) := by decide +kernel
theorem dX4_transfer_0 : decode cX4_transfer 0 = .ok (.iload_n 1, 1) := by decide +kernel
theorem dX4_transfer_1 : decode cX4_transfer 1 = .ok (.ifCond .lt 12, 3) := by decide +kernel
theorem dX4_transfer_4 : decode cX4_transfer 4 = .ok (.iload_n 2, 1) := by decide +kernel
theorem dX4_transfer_5 : decode cX4_transfer 5 = .ok (.iconst 0, 1) := by decide +kernel
theorem dX4_transfer_6 : decode cX4_transfer 6 = .ok (.iconst 1, 1) := by decide +kernel
theorem dX4_transfer_7 : decode cX4_transfer 7 = .ok (.invokestatic 82, 3) := by decide +kernel
theorem dX4_transfer_10 : decode cX4_transfer 10 = .ok (.ifCond .ne 6, 3) := by decide +kernel
theorem dX4_transfer_13 : decode cX4_transfer 13 = .ok (.bipush (-2), 2) := by decide +kernel
theorem dX4_transfer_15 : decode cX4_transfer 15 = .ok (.ireturn, 1) := by decide +kernel
theorem dX4_transfer_16 : decode cX4_transfer 16 = .ok (.aload_n 0, 1) := by decide +kernel
theorem dX4_transfer_17 : decode cX4_transfer 17 = .ok (.invokevirtual 194, 3) := by decide +kernel
theorem dX4_transfer_20 : decode cX4_transfer 20 = .ok (.iload_n 1, 1) := by decide +kernel
theorem dX4_transfer_21 : decode cX4_transfer 21 = .ok (.aload_n 0, 1) := by decide +kernel
theorem dX4_transfer_22 : decode cX4_transfer 22 = .ok (.getfield 185, 3) := by decide +kernel
theorem dX4_transfer_25 : decode cX4_transfer 25 = .ok (.if_icmp .lt 8, 3) := by decide +kernel
theorem dX4_transfer_28 : decode cX4_transfer 28 = .ok (.bipush (-9), 2) := by decide +kernel
theorem dX4_transfer_30 : decode cX4_transfer 30 = .ok (.goto 22, 3) := by decide +kernel
theorem dX4_transfer_33 : decode cX4_transfer 33 = .ok (.iload_n 2, 1) := by decide +kernel
theorem dX4_transfer_34 : decode cX4_transfer 34 = .ok (.ifCond .ne 12, 3) := by decide +kernel
theorem dX4_transfer_37 : decode cX4_transfer 37 = .ok (.aload_n 0, 1) := by decide +kernel
theorem dX4_transfer_38 : decode cX4_transfer 38 = .ok (.getfield 55, 3) := by decide +kernel
theorem dX4_transfer_41 : decode cX4_transfer 41 = .ok (.iload_n 1, 1) := by decide +kernel
theorem dX4_transfer_42 : decode cX4_transfer 42 = .ok (.iaload, 1) := by decide +kernel
theorem dX4_transfer_43 : decode cX4_transfer 43 = .ok (.goto 9, 3) := by decide +kernel
theorem dX4_transfer_46 : decode cX4_transfer 46 = .ok (.aload_n 0, 1) := by decide +kernel
theorem dX4_transfer_47 : decode cX4_transfer 47 = .ok (.getfield 58, 3) := by decide +kernel
theorem dX4_transfer_50 : decode cX4_transfer 50 = .ok (.iload_n 1, 1) := by decide +kernel
theorem dX4_transfer_51 : decode cX4_transfer 51 = .ok (.iaload, 1) := by decide +kernel
theorem dX4_transfer_52 : decode cX4_transfer 52 = .ok (.ireturn, 1) := by decide +kernel
theorem dX4_given_0 : decode cX4_given 0 = .ok (.iload_n 1, 1) := by decide +kernel
theorem dX4_given_1 : decode cX4_given 1 = .ok (.ifCond .lt 10, 3) := by decide +kernel
theorem dX4_given_4 : decode cX4_given 4 = .ok (.iload_n 2, 1) := by decide +kernel
theorem dX4_given_5 : decode cX4_given 5 = .ok (.invokestatic 149, 3) := by decide +kernel
theorem dX4_given_8 : decode cX4_given 8 = .ok (.ifCond .ne 7, 3) := by decide +kernel
theorem dX4_given_11 : decode cX4_given 11 = .ok (.ldc2_w 152, 3) := by decide +kernel
theorem dX4_given_14 : decode cX4_given 14 = .ok (.lreturn, 1) := by decide +kernel
theorem dX4_given_15 : decode cX4_given 15 = .ok (.aload_n 0, 1) := by decide +kernel
theorem dX4_given_16 : decode cX4_given 16 = .ok (.invokevirtual 194, 3) := by decide +kernel
theorem dX4_given_19 : decode cX4_given 19 = .ok (.iload_n 1, 1) := by decide +kernel
theorem dX4_given_20 : decode cX4_given 20 = .ok (.aload_n 0, 1) := by decide +kernel
theorem dX4_given_21 : decode cX4_given 21 = .ok (.getfield 185, 3) := by decide +kernel
theorem dX4_given_24 : decode cX4_given 24 = .ok (.if_icmp .lt 9, 3) := by decide +kernel
theorem dX4_given_27 : decode cX4_given 27 = .ok (.ldc2_w 152, 3) := by decide +kernel
theorem dX4_given_30 : decode cX4_given 30 = .ok (.goto 22, 3) := by decide +kernel
theorem dX4_given_33 : decode cX4_given 33 = .ok (.iload_n 2, 1) := by decide +kernel
theorem dX4_given_34 : decode cX4_given 34 = .ok (.ifCond .ne 12, 3) := by decide +kernel
theorem dX4_given_37 : decode cX4_given 37 = .ok (.aload_n 0, 1) := by decide +kernel
theorem dX4_given_38 : decode cX4_given 38 = .ok (.getfield 61, 3) := by decide +kernel
theorem dX4_given_41 : decode cX4_given 41 = .ok (.iload_n 1, 1) := by decide +kernel
theorem dX4_given_42 : decode cX4_given 42 = .ok (.laload, 1) := by decide +kernel
theorem dX4_given_43 : decode cX4_given 43 = .ok (.goto 9, 3) := by decide +kernel
theorem dX4_given_46 : decode cX4_given 46 = .ok (.aload_n 0, 1) := by decide +kernel
theorem dX4_given_47 : decode cX4_given 47 = .ok (.getfield 64, 3) := by decide +kernel
theorem dX4_given_50 : decode cX4_given 50 = .ok (.iload_n 1, 1) := by decide +kernel
theorem dX4_given_51 : decode cX4_given 51 = .ok (.laload, 1) := by decide +kernel
theorem dX4_given_52 : decode cX4_given 52 = .ok (.lreturn, 1) := by decide +kernel
theorem dX4_manyUnits_0 : decode cX4_manyUnits 0 = .ok (.iconst 0, 1) := by decide +kernel
theorem dX4_manyUnits_1 : decode cX4_manyUnits 1 = .ok (.istore_n 3, 1) := by decide +kernel
theorem dX4_manyUnits_2 : decode cX4_manyUnits 2 = .ok (.iconst 0, 1) := by decide +kernel
theorem dX4_manyUnits_3 : decode cX4_manyUnits 3 = .ok (.istore 4, 2) := by decide +kernel
theorem dX4_manyUnits_5 : decode cX4_manyUnits 5 = .ok (.iload 4, 2) := by decide +kernel
theorem dX4_manyUnits_7 : decode cX4_manyUnits 7 = .ok (.bipush 6, 2) := by decide +kernel
theorem dX4_manyUnits_9 : decode cX4_manyUnits 9 = .ok (.if_icmp .ge 79, 3) := by decide +kernel
theorem dX4_manyUnits_12 : decode cX4_manyUnits 12 = .ok (.aload_n 0, 1) := by decide +kernel
theorem dX4_manyUnits_13 : decode cX4_manyUnits 13 = .ok (.iload 4, 2) := by decide +kernel
theorem dX4_manyUnits_15 : decode cX4_manyUnits 15 = .ok (.invokevirtual 113, 3) := by decide +kernel
theorem dX4_manyUnits_18 : decode cX4_manyUnits 18 = .ok (.ifCond .eq 48, 3) := by decide +kernel
theorem dX4_manyUnits_21 : decode cX4_manyUnits 21 = .ok (.iload_n 1, 1) := by decide +kernel
theorem dX4_manyUnits_22 : decode cX4_manyUnits 22 = .ok (.ifCond .eq 15, 3) := by decide +kernel
theorem dX4_manyUnits_25 : decode cX4_manyUnits 25 = .ok (.aload_n 0, 1) := by decide +kernel
theorem dX4_manyUnits_26 : decode cX4_manyUnits 26 = .ok (.getfield 30, 3) := by decide +kernel
theorem dX4_manyUnits_29 : decode cX4_manyUnits 29 = .ok (.iload 4, 2) := by decide +kernel
theorem dX4_manyUnits_31 : decode cX4_manyUnits 31 = .ok (.iaload, 1) := by decide +kernel
theorem dX4_manyUnits_32 : decode cX4_manyUnits 32 = .ok (.bipush (-9), 2) := by decide +kernel
theorem dX4_manyUnits_34 : decode cX4_manyUnits 34 = .ok (.if_icmp .eq 32, 3) := by decide +kernel
theorem dX4_manyUnits_37 : decode cX4_manyUnits 37 = .ok (.iload_n 2, 1) := by decide +kernel
theorem dX4_manyUnits_38 : decode cX4_manyUnits 38 = .ok (.ifCond .eq 24, 3) := by decide +kernel
theorem dX4_manyUnits_41 : decode cX4_manyUnits 41 = .ok (.aload_n 0, 1) := by decide +kernel
theorem dX4_manyUnits_42 : decode cX4_manyUnits 42 = .ok (.getfield 30, 3) := by decide +kernel
theorem dX4_manyUnits_45 : decode cX4_manyUnits 45 = .ok (.iload 4, 2) := by decide +kernel
theorem dX4_manyUnits_47 : decode cX4_manyUnits 47 = .ok (.iaload, 1) := by decide +kernel
theorem dX4_manyUnits_48 : decode cX4_manyUnits 48 = .ok (.bipush (-9), 2) := by decide +kernel
theorem dX4_manyUnits_50 : decode cX4_manyUnits 50 = .ok (.if_icmp .ne 16, 3) := by decide +kernel
theorem dX4_manyUnits_53 : decode cX4_manyUnits 53 = .ok (.aload_n 0, 1) := by decide +kernel
theorem dX4_manyUnits_54 : decode cX4_manyUnits 54 = .ok (.iload 4, 2) := by decide +kernel
theorem dX4_manyUnits_56 : decode cX4_manyUnits 56 = .ok (.invokevirtual 116, 3) := by decide +kernel
theorem dX4_manyUnits_59 : decode cX4_manyUnits 59 = .ok (.ifCond .eq 7, 3) := by decide +kernel
theorem dX4_manyUnits_62 : decode cX4_manyUnits 62 = .ok (.iconst 1, 1) := by decide +kernel
theorem dX4_manyUnits_63 : decode cX4_manyUnits 63 = .ok (.goto 4, 3) := by decide +kernel
theorem dX4_manyUnits_66 : decode cX4_manyUnits 66 = .ok (.iconst 0, 1) := by decide +kernel
theorem dX4_manyUnits_67 : decode cX4_manyUnits 67 = .ok (.istore 5, 2) := by decide +kernel
theorem dX4_manyUnits_69 : decode cX4_manyUnits 69 = .ok (.iload_n 3, 1) := by decide +kernel
theorem dX4_manyUnits_70 : decode cX4_manyUnits 70 = .ok (.iload 5, 2) := by decide +kernel
theorem dX4_manyUnits_72 : decode cX4_manyUnits 72 = .ok (.ifCond .eq 7, 3) := by decide +kernel
theorem dX4_manyUnits_75 : decode cX4_manyUnits 75 = .ok (.iconst 1, 1) := by decide +kernel
theorem dX4_manyUnits_76 : decode cX4_manyUnits 76 = .ok (.goto 4, 3) := by decide +kernel
theorem dX4_manyUnits_79 : decode cX4_manyUnits 79 = .ok (.iconst 0, 1) := by decide +kernel
theorem dX4_manyUnits_80 : decode cX4_manyUnits 80 = .ok (.iadd, 1) := by decide +kernel
theorem dX4_manyUnits_81 : decode cX4_manyUnits 81 = .ok (.istore_n 3, 1) := by decide +kernel
theorem dX4_manyUnits_82 : decode cX4_manyUnits 82 = .ok (.iinc 4 1, 3) := by decide +kernel
theorem dX4_manyUnits_85 : decode cX4_manyUnits 85 = .ok (.goto (-80), 3) := by decide +kernel
theorem dX4_manyUnits_88 : decode cX4_manyUnits 88 = .ok (.iload_n 3, 1) := by decide +kernel
theorem dX4_manyUnits_89 : decode cX4_manyUnits 89 = .ok (.ireturn, 1) := by decide +kernel
theorem dX4_many_0 : decode cX4_many 0 = .ok (.iload_n 1, 1) := by decide +kernel
theorem dX4_many_1 : decode cX4_many 1 = .ok (.tableswitch 76 0 5 #[39, 44, 51, 58, 65, 70], 39) := by decide +kernel
theorem dX4_many_40 : decode cX4_many 40 = .ok (.aload_n 0, 1) := by decide +kernel
theorem dX4_many_41 : decode cX4_many 41 = .ok (.invokevirtual 94, 3) := by decide +kernel
theorem dX4_many_44 : decode cX4_many 44 = .ok (.ireturn, 1) := by decide +kernel
theorem dX4_many_45 : decode cX4_many 45 = .ok (.aload_n 0, 1) := by decide +kernel
theorem dX4_many_46 : decode cX4_many 46 = .ok (.iconst 0, 1) := by decide +kernel
theorem dX4_many_47 : decode cX4_many 47 = .ok (.iconst 0, 1) := by decide +kernel
theorem dX4_many_48 : decode cX4_many 48 = .ok (.invokevirtual 197, 3) := by decide +kernel
theorem dX4_many_51 : decode cX4_many 51 = .ok (.ireturn, 1) := by decide +kernel
theorem dX4_many_52 : decode cX4_many 52 = .ok (.aload_n 0, 1) := by decide +kernel
theorem dX4_many_53 : decode cX4_many 53 = .ok (.iconst 1, 1) := by decide +kernel
theorem dX4_many_54 : decode cX4_many 54 = .ok (.iconst 0, 1) := by decide +kernel
theorem dX4_many_55 : decode cX4_many 55 = .ok (.invokevirtual 197, 3) := by decide +kernel
theorem dX4_many_58 : decode cX4_many 58 = .ok (.ireturn, 1) := by decide +kernel
theorem dX4_many_59 : decode cX4_many 59 = .ok (.aload_n 0, 1) := by decide +kernel
theorem dX4_many_60 : decode cX4_many 60 = .ok (.iconst 0, 1) := by decide +kernel
theorem dX4_many_61 : decode cX4_many 61 = .ok (.iconst 1, 1) := by decide +kernel
theorem dX4_many_62 : decode cX4_many 62 = .ok (.invokevirtual 197, 3) := by decide +kernel
theorem dX4_many_65 : decode cX4_many 65 = .ok (.ireturn, 1) := by decide +kernel
theorem dX4_many_66 : decode cX4_many 66 = .ok (.aload_n 0, 1) := by decide +kernel
theorem dX4_many_67 : decode cX4_many 67 = .ok (.invokevirtual 106, 3) := by decide +kernel
theorem dX4_many_70 : decode cX4_many 70 = .ok (.ireturn, 1) := by decide +kernel
theorem dX4_many_71 : decode cX4_many 71 = .ok (.aload_n 0, 1) := by decide +kernel
theorem dX4_many_72 : decode cX4_many 72 = .ok (.invokevirtual 175, 3) := by decide +kernel
theorem dX4_many_75 : decode cX4_many 75 = .ok (.l2i, 1) := by decide +kernel
theorem dX4_many_76 : decode cX4_many 76 = .ok (.ireturn, 1) := by decide +kernel
theorem dX4_many_77 : decode cX4_many 77 = .ok (.bipush (-2), 2) := by decide +kernel
theorem dX4_many_79 : decode cX4_many 79 = .ok (.ireturn, 1) := by decide +kernel
theorem dJ6_bitCount_0f7a4_0 : decode cJ6_bitCount_0f7a4 0 = .ok (.iload_n 0, 1) := by decide +kernel
theorem dJ6_bitCount_0f7a4_1 : decode cJ6_bitCount_0f7a4 1 = .ok (.iload_n 0, 1) := by decide +kernel
theorem dJ6_bitCount_0f7a4_2 : decode cJ6_bitCount_0f7a4 2 = .ok (.iconst 1, 1) := by decide +kernel
theorem dJ6_bitCount_0f7a4_3 : decode cJ6_bitCount_0f7a4 3 = .ok (.iushr, 1) := by decide +kernel
theorem dJ6_bitCount_0f7a4_4 : decode cJ6_bitCount_0f7a4 4 = .ok (.ldc_w 265, 3) := by decide +kernel
theorem dJ6_bitCount_0f7a4_7 : decode cJ6_bitCount_0f7a4 7 = .ok (.iand, 1) := by decide +kernel
theorem dJ6_bitCount_0f7a4_8 : decode cJ6_bitCount_0f7a4 8 = .ok (.isub, 1) := by decide +kernel
theorem dJ6_bitCount_0f7a4_9 : decode cJ6_bitCount_0f7a4 9 = .ok (.istore_n 0, 1) := by decide +kernel
theorem dJ6_bitCount_0f7a4_10 : decode cJ6_bitCount_0f7a4 10 = .ok (.iload_n 0, 1) := by decide +kernel
theorem dJ6_bitCount_0f7a4_11 : decode cJ6_bitCount_0f7a4 11 = .ok (.ldc_w 266, 3) := by decide +kernel
theorem dJ6_bitCount_0f7a4_14 : decode cJ6_bitCount_0f7a4 14 = .ok (.iand, 1) := by decide +kernel
theorem dJ6_bitCount_0f7a4_15 : decode cJ6_bitCount_0f7a4 15 = .ok (.iload_n 0, 1) := by decide +kernel
theorem dJ6_bitCount_0f7a4_16 : decode cJ6_bitCount_0f7a4 16 = .ok (.iconst 2, 1) := by decide +kernel
theorem dJ6_bitCount_0f7a4_17 : decode cJ6_bitCount_0f7a4 17 = .ok (.iushr, 1) := by decide +kernel
theorem dJ6_bitCount_0f7a4_18 : decode cJ6_bitCount_0f7a4 18 = .ok (.ldc_w 266, 3) := by decide +kernel
theorem dJ6_bitCount_0f7a4_21 : decode cJ6_bitCount_0f7a4 21 = .ok (.iand, 1) := by decide +kernel
theorem dJ6_bitCount_0f7a4_22 : decode cJ6_bitCount_0f7a4 22 = .ok (.iadd, 1) := by decide +kernel
theorem dJ6_bitCount_0f7a4_23 : decode cJ6_bitCount_0f7a4 23 = .ok (.istore_n 0, 1) := by decide +kernel
theorem dJ6_bitCount_0f7a4_24 : decode cJ6_bitCount_0f7a4 24 = .ok (.iload_n 0, 1) := by decide +kernel
theorem dJ6_bitCount_0f7a4_25 : decode cJ6_bitCount_0f7a4 25 = .ok (.iload_n 0, 1) := by decide +kernel
theorem dJ6_bitCount_0f7a4_26 : decode cJ6_bitCount_0f7a4 26 = .ok (.iconst 4, 1) := by decide +kernel
theorem dJ6_bitCount_0f7a4_27 : decode cJ6_bitCount_0f7a4 27 = .ok (.iushr, 1) := by decide +kernel
theorem dJ6_bitCount_0f7a4_28 : decode cJ6_bitCount_0f7a4 28 = .ok (.iadd, 1) := by decide +kernel
theorem dJ6_bitCount_0f7a4_29 : decode cJ6_bitCount_0f7a4 29 = .ok (.ldc_w 267, 3) := by decide +kernel
theorem dJ6_bitCount_0f7a4_32 : decode cJ6_bitCount_0f7a4 32 = .ok (.iand, 1) := by decide +kernel
theorem dJ6_bitCount_0f7a4_33 : decode cJ6_bitCount_0f7a4 33 = .ok (.istore_n 0, 1) := by decide +kernel
theorem dJ6_bitCount_0f7a4_34 : decode cJ6_bitCount_0f7a4 34 = .ok (.iload_n 0, 1) := by decide +kernel
theorem dJ6_bitCount_0f7a4_35 : decode cJ6_bitCount_0f7a4 35 = .ok (.iload_n 0, 1) := by decide +kernel
theorem dJ6_bitCount_0f7a4_36 : decode cJ6_bitCount_0f7a4 36 = .ok (.bipush 8, 2) := by decide +kernel
theorem dJ6_bitCount_0f7a4_38 : decode cJ6_bitCount_0f7a4 38 = .ok (.iushr, 1) := by decide +kernel
theorem dJ6_bitCount_0f7a4_39 : decode cJ6_bitCount_0f7a4 39 = .ok (.iadd, 1) := by decide +kernel
theorem dJ6_bitCount_0f7a4_40 : decode cJ6_bitCount_0f7a4 40 = .ok (.istore_n 0, 1) := by decide +kernel
theorem dJ6_bitCount_0f7a4_41 : decode cJ6_bitCount_0f7a4 41 = .ok (.iload_n 0, 1) := by decide +kernel
theorem dJ6_bitCount_0f7a4_42 : decode cJ6_bitCount_0f7a4 42 = .ok (.iload_n 0, 1) := by decide +kernel
theorem dJ6_bitCount_0f7a4_43 : decode cJ6_bitCount_0f7a4 43 = .ok (.bipush 16, 2) := by decide +kernel
theorem dJ6_bitCount_0f7a4_45 : decode cJ6_bitCount_0f7a4 45 = .ok (.iushr, 1) := by decide +kernel
theorem dJ6_bitCount_0f7a4_46 : decode cJ6_bitCount_0f7a4 46 = .ok (.iadd, 1) := by decide +kernel
theorem dJ6_bitCount_0f7a4_47 : decode cJ6_bitCount_0f7a4 47 = .ok (.istore_n 0, 1) := by decide +kernel
theorem dJ6_bitCount_0f7a4_48 : decode cJ6_bitCount_0f7a4 48 = .ok (.iload_n 0, 1) := by decide +kernel
theorem dJ6_bitCount_0f7a4_49 : decode cJ6_bitCount_0f7a4 49 = .ok (.bipush 63, 2) := by decide +kernel
theorem dJ6_bitCount_0f7a4_51 : decode cJ6_bitCount_0f7a4 51 = .ok (.iand, 1) := by decide +kernel
theorem dJ6_bitCount_0f7a4_52 : decode cJ6_bitCount_0f7a4 52 = .ok (.ireturn, 1) := by decide +kernel
theorem dJ9_abs_067f4_0 : decode cJ9_abs_067f4 0 = .ok (.lload_n 0, 1) := by decide +kernel
theorem dJ9_abs_067f4_1 : decode cJ9_abs_067f4 1 = .ok (.lconst 0, 1) := by decide +kernel
theorem dJ9_abs_067f4_2 : decode cJ9_abs_067f4 2 = .ok (.lcmp, 1) := by decide +kernel
theorem dJ9_abs_067f4_3 : decode cJ9_abs_067f4 3 = .ok (.ifCond .ge 8, 3) := by decide +kernel
theorem dJ9_abs_067f4_6 : decode cJ9_abs_067f4 6 = .ok (.lload_n 0, 1) := by decide +kernel
theorem dJ9_abs_067f4_7 : decode cJ9_abs_067f4 7 = .ok (.lneg, 1) := by decide +kernel
theorem dJ9_abs_067f4_8 : decode cJ9_abs_067f4 8 = .ok (.goto 4, 3) := by decide +kernel
theorem dJ9_abs_067f4_11 : decode cJ9_abs_067f4 11 = .ok (.lload_n 0, 1) := by decide +kernel
theorem dJ9_abs_067f4_12 : decode cJ9_abs_067f4 12 = .ok (.lreturn, 1) := by decide +kernel
theorem dJ9_max_7cf53_0 : decode cJ9_max_7cf53 0 = .ok (.iload_n 0, 1) := by decide +kernel
theorem dJ9_max_7cf53_1 : decode cJ9_max_7cf53 1 = .ok (.iload_n 1, 1) := by decide +kernel
theorem dJ9_max_7cf53_2 : decode cJ9_max_7cf53 2 = .ok (.if_icmp .lt 7, 3) := by decide +kernel
theorem dJ9_max_7cf53_5 : decode cJ9_max_7cf53 5 = .ok (.iload_n 0, 1) := by decide +kernel
theorem dJ9_max_7cf53_6 : decode cJ9_max_7cf53 6 = .ok (.goto 4, 3) := by decide +kernel
theorem dJ9_max_7cf53_9 : decode cJ9_max_7cf53 9 = .ok (.iload_n 1, 1) := by decide +kernel
theorem dJ9_max_7cf53_10 : decode cJ9_max_7cf53 10 = .ok (.ireturn, 1) := by decide +kernel
theorem dJ9_max_f86c9_0 : decode cJ9_max_f86c9 0 = .ok (.lload_n 0, 1) := by decide +kernel
theorem dJ9_max_f86c9_1 : decode cJ9_max_f86c9 1 = .ok (.lload_n 2, 1) := by decide +kernel
theorem dJ9_max_f86c9_2 : decode cJ9_max_f86c9 2 = .ok (.lcmp, 1) := by decide +kernel
theorem dJ9_max_f86c9_3 : decode cJ9_max_f86c9 3 = .ok (.ifCond .lt 7, 3) := by decide +kernel
theorem dJ9_max_f86c9_6 : decode cJ9_max_f86c9 6 = .ok (.lload_n 0, 1) := by decide +kernel
theorem dJ9_max_f86c9_7 : decode cJ9_max_f86c9 7 = .ok (.goto 4, 3) := by decide +kernel
theorem dJ9_max_f86c9_10 : decode cJ9_max_f86c9 10 = .ok (.lload_n 2, 1) := by decide +kernel
theorem dJ9_max_f86c9_11 : decode cJ9_max_f86c9 11 = .ok (.lreturn, 1) := by decide +kernel
theorem dJ9_min_f86c9_0 : decode cJ9_min_f86c9 0 = .ok (.lload_n 0, 1) := by decide +kernel
theorem dJ9_min_f86c9_1 : decode cJ9_min_f86c9 1 = .ok (.lload_n 2, 1) := by decide +kernel
theorem dJ9_min_f86c9_2 : decode cJ9_min_f86c9 2 = .ok (.lcmp, 1) := by decide +kernel
theorem dJ9_min_f86c9_3 : decode cJ9_min_f86c9 3 = .ok (.ifCond .gt 7, 3) := by decide +kernel
theorem dJ9_min_f86c9_6 : decode cJ9_min_f86c9 6 = .ok (.lload_n 0, 1) := by decide +kernel
theorem dJ9_min_f86c9_7 : decode cJ9_min_f86c9 7 = .ok (.goto 4, 3) := by decide +kernel
theorem dJ9_min_f86c9_10 : decode cJ9_min_f86c9 10 = .ok (.lload_n 2, 1) := by decide +kernel
theorem dJ9_min_f86c9_11 : decode cJ9_min_f86c9 11 = .ok (.lreturn, 1) := by decide +kernel
end
section
theorem dL_law_0 : decode cL_law 0 = .ok (.new 7, 3) := by decide +kernel
theorem dL_law_3 : decode cL_law 3 = .ok (.dup, 1) := by decide +kernel
theorem dL_law_4 : decode cL_law 4 = .ok (.invokespecial 9, 3) := by decide +kernel
theorem dL_law_7 : decode cL_law 7 = .ok (.astore_n 1, 1) := by decide +kernel
theorem dL_law_8 : decode cL_law 8 = .ok (.new 10, 3) := by decide +kernel
theorem dL_law_11 : decode cL_law 11 = .ok (.dup, 1) := by decide +kernel
theorem dL_law_12 : decode cL_law 12 = .ok (.invokespecial 12, 3) := by decide +kernel
theorem dL_law_15 : decode cL_law 15 = .ok (.astore_n 2, 1) := by decide +kernel
theorem dL_law_16 : decode cL_law 16 = .ok (.iconst 0, 1) := by decide +kernel
theorem dL_law_17 : decode cL_law 17 = .ok (.istore_n 3, 1) := by decide +kernel
theorem dL_law_18 : decode cL_law 18 = .ok (.iload_n 3, 1) := by decide +kernel
theorem dL_law_19 : decode cL_law 19 = .ok (.aload_n 0, 1) := by decide +kernel
theorem dL_law_20 : decode cL_law 20 = .ok (.arraylength, 1) := by decide +kernel
theorem dL_law_21 : decode cL_law 21 = .ok (.iconst 4, 1) := by decide +kernel
theorem dL_law_22 : decode cL_law 22 = .ok (.isub, 1) := by decide +kernel
theorem dL_law_23 : decode cL_law 23 = .ok (.if_icmp .gt 1010, 3) := by decide +kernel
theorem dL_law_26 : decode cL_law 26 = .ok (.aload_n 0, 1) := by decide +kernel
theorem dL_law_27 : decode cL_law 27 = .ok (.iload_n 3, 1) := by decide +kernel
theorem dL_law_28 : decode cL_law 28 = .ok (.iaload, 1) := by decide +kernel
theorem dL_law_29 : decode cL_law 29 = .ok (.bipush 31, 2) := by decide +kernel
theorem dL_law_31 : decode cL_law 31 = .ok (.iand, 1) := by decide +kernel
theorem dL_law_32 : decode cL_law 32 = .ok (.tableswitch 995 0 28 #[132, 155, 178, 201, 224, 257, 306, 339, 362, 395, 418, 451, 484, 518, 552, 586, 620, 664, 677, 721, 755, 768, 801, 824, 858, 892, 905, 938, 972], 132) := by decide +kernel
theorem dL_law_164 : decode cL_law 164 = .ok (.aload_n 1, 1) := by decide +kernel
theorem dL_law_165 : decode cL_law 165 = .ok (.aload_n 0, 1) := by decide +kernel
theorem dL_law_166 : decode cL_law 166 = .ok (.iload_n 3, 1) := by decide +kernel
theorem dL_law_167 : decode cL_law 167 = .ok (.iconst 1, 1) := by decide +kernel
theorem dL_law_168 : decode cL_law 168 = .ok (.iadd, 1) := by decide +kernel
theorem dL_law_169 : decode cL_law 169 = .ok (.iaload, 1) := by decide +kernel
theorem dL_law_170 : decode cL_law 170 = .ok (.invokevirtual 13, 3) := by decide +kernel
theorem dL_law_173 : decode cL_law 173 = .ok (.aload_n 2, 1) := by decide +kernel
theorem dL_law_174 : decode cL_law 174 = .ok (.aload_n 0, 1) := by decide +kernel
theorem dL_law_175 : decode cL_law 175 = .ok (.iload_n 3, 1) := by decide +kernel
theorem dL_law_176 : decode cL_law 176 = .ok (.iconst 1, 1) := by decide +kernel
theorem dL_law_177 : decode cL_law 177 = .ok (.iadd, 1) := by decide +kernel
theorem dL_law_178 : decode cL_law 178 = .ok (.iaload, 1) := by decide +kernel
theorem dL_law_179 : decode cL_law 179 = .ok (.invokevirtual 17, 3) := by decide +kernel
theorem dL_law_182 : decode cL_law 182 = .ok (.if_icmp .eq 845, 3) := by decide +kernel
theorem dL_law_185 : decode cL_law 185 = .ok (.iconst 0, 1) := by decide +kernel
theorem dL_law_186 : decode cL_law 186 = .ok (.ireturn, 1) := by decide +kernel
theorem dL_law_187 : decode cL_law 187 = .ok (.aload_n 1, 1) := by decide +kernel
theorem dL_law_188 : decode cL_law 188 = .ok (.aload_n 0, 1) := by decide +kernel
theorem dL_law_189 : decode cL_law 189 = .ok (.iload_n 3, 1) := by decide +kernel
theorem dL_law_190 : decode cL_law 190 = .ok (.iconst 1, 1) := by decide +kernel
theorem dL_law_191 : decode cL_law 191 = .ok (.iadd, 1) := by decide +kernel
theorem dL_law_192 : decode cL_law 192 = .ok (.iaload, 1) := by decide +kernel
theorem dL_law_193 : decode cL_law 193 = .ok (.invokevirtual 18, 3) := by decide +kernel
theorem dL_law_196 : decode cL_law 196 = .ok (.aload_n 2, 1) := by decide +kernel
theorem dL_law_197 : decode cL_law 197 = .ok (.aload_n 0, 1) := by decide +kernel
theorem dL_law_198 : decode cL_law 198 = .ok (.iload_n 3, 1) := by decide +kernel
theorem dL_law_199 : decode cL_law 199 = .ok (.iconst 1, 1) := by decide +kernel
theorem dL_law_200 : decode cL_law 200 = .ok (.iadd, 1) := by decide +kernel
theorem dL_law_201 : decode cL_law 201 = .ok (.iaload, 1) := by decide +kernel
theorem dL_law_202 : decode cL_law 202 = .ok (.invokevirtual 21, 3) := by decide +kernel
theorem dL_law_205 : decode cL_law 205 = .ok (.if_icmp .eq 822, 3) := by decide +kernel
theorem dL_law_208 : decode cL_law 208 = .ok (.iconst 0, 1) := by decide +kernel
theorem dL_law_209 : decode cL_law 209 = .ok (.ireturn, 1) := by decide +kernel
theorem dL_law_210 : decode cL_law 210 = .ok (.aload_n 1, 1) := by decide +kernel
theorem dL_law_211 : decode cL_law 211 = .ok (.aload_n 0, 1) := by decide +kernel
theorem dL_law_212 : decode cL_law 212 = .ok (.iload_n 3, 1) := by decide +kernel
theorem dL_law_213 : decode cL_law 213 = .ok (.iconst 1, 1) := by decide +kernel
theorem dL_law_214 : decode cL_law 214 = .ok (.iadd, 1) := by decide +kernel
theorem dL_law_215 : decode cL_law 215 = .ok (.iaload, 1) := by decide +kernel
theorem dL_law_216 : decode cL_law 216 = .ok (.invokevirtual 22, 3) := by decide +kernel
theorem dL_law_219 : decode cL_law 219 = .ok (.aload_n 2, 1) := by decide +kernel
theorem dL_law_220 : decode cL_law 220 = .ok (.aload_n 0, 1) := by decide +kernel
theorem dL_law_221 : decode cL_law 221 = .ok (.iload_n 3, 1) := by decide +kernel
theorem dL_law_222 : decode cL_law 222 = .ok (.iconst 1, 1) := by decide +kernel
theorem dL_law_223 : decode cL_law 223 = .ok (.iadd, 1) := by decide +kernel
theorem dL_law_224 : decode cL_law 224 = .ok (.iaload, 1) := by decide +kernel
theorem dL_law_225 : decode cL_law 225 = .ok (.invokevirtual 25, 3) := by decide +kernel
theorem dL_law_228 : decode cL_law 228 = .ok (.if_icmp .eq 799, 3) := by decide +kernel
theorem dL_law_231 : decode cL_law 231 = .ok (.iconst 0, 1) := by decide +kernel
theorem dL_law_232 : decode cL_law 232 = .ok (.ireturn, 1) := by decide +kernel
theorem dL_law_233 : decode cL_law 233 = .ok (.aload_n 1, 1) := by decide +kernel
theorem dL_law_234 : decode cL_law 234 = .ok (.aload_n 0, 1) := by decide +kernel
theorem dL_law_235 : decode cL_law 235 = .ok (.iload_n 3, 1) := by decide +kernel
theorem dL_law_236 : decode cL_law 236 = .ok (.iconst 1, 1) := by decide +kernel
theorem dL_law_237 : decode cL_law 237 = .ok (.iadd, 1) := by decide +kernel
theorem dL_law_238 : decode cL_law 238 = .ok (.iaload, 1) := by decide +kernel
theorem dL_law_239 : decode cL_law 239 = .ok (.invokevirtual 26, 3) := by decide +kernel
theorem dL_law_242 : decode cL_law 242 = .ok (.aload_n 2, 1) := by decide +kernel
theorem dL_law_243 : decode cL_law 243 = .ok (.aload_n 0, 1) := by decide +kernel
theorem dL_law_244 : decode cL_law 244 = .ok (.iload_n 3, 1) := by decide +kernel
theorem dL_law_245 : decode cL_law 245 = .ok (.iconst 1, 1) := by decide +kernel
theorem dL_law_246 : decode cL_law 246 = .ok (.iadd, 1) := by decide +kernel
theorem dL_law_247 : decode cL_law 247 = .ok (.iaload, 1) := by decide +kernel
theorem dL_law_248 : decode cL_law 248 = .ok (.invokevirtual 29, 3) := by decide +kernel
theorem dL_law_251 : decode cL_law 251 = .ok (.if_icmp .eq 776, 3) := by decide +kernel
theorem dL_law_254 : decode cL_law 254 = .ok (.iconst 0, 1) := by decide +kernel
theorem dL_law_255 : decode cL_law 255 = .ok (.ireturn, 1) := by decide +kernel
theorem dL_law_256 : decode cL_law 256 = .ok (.aload_n 1, 1) := by decide +kernel
theorem dL_law_257 : decode cL_law 257 = .ok (.aload_n 0, 1) := by decide +kernel
theorem dL_law_258 : decode cL_law 258 = .ok (.iload_n 3, 1) := by decide +kernel
theorem dL_law_259 : decode cL_law 259 = .ok (.iconst 1, 1) := by decide +kernel
theorem dL_law_260 : decode cL_law 260 = .ok (.iadd, 1) := by decide +kernel
theorem dL_law_261 : decode cL_law 261 = .ok (.iaload, 1) := by decide +kernel
theorem dL_law_262 : decode cL_law 262 = .ok (.aload_n 0, 1) := by decide +kernel
theorem dL_law_263 : decode cL_law 263 = .ok (.iload_n 3, 1) := by decide +kernel
theorem dL_law_264 : decode cL_law 264 = .ok (.iconst 2, 1) := by decide +kernel
theorem dL_law_265 : decode cL_law 265 = .ok (.iadd, 1) := by decide +kernel
theorem dL_law_266 : decode cL_law 266 = .ok (.iaload, 1) := by decide +kernel
theorem dL_law_267 : decode cL_law 267 = .ok (.invokevirtual 30, 3) := by decide +kernel
theorem dL_law_270 : decode cL_law 270 = .ok (.aload_n 2, 1) := by decide +kernel
theorem dL_law_271 : decode cL_law 271 = .ok (.aload_n 0, 1) := by decide +kernel
theorem dL_law_272 : decode cL_law 272 = .ok (.iload_n 3, 1) := by decide +kernel
theorem dL_law_273 : decode cL_law 273 = .ok (.iconst 1, 1) := by decide +kernel
theorem dL_law_274 : decode cL_law 274 = .ok (.iadd, 1) := by decide +kernel
theorem dL_law_275 : decode cL_law 275 = .ok (.iaload, 1) := by decide +kernel
theorem dL_law_276 : decode cL_law 276 = .ok (.aload_n 0, 1) := by decide +kernel
theorem dL_law_277 : decode cL_law 277 = .ok (.iload_n 3, 1) := by decide +kernel
theorem dL_law_278 : decode cL_law 278 = .ok (.iconst 2, 1) := by decide +kernel
theorem dL_law_279 : decode cL_law 279 = .ok (.iadd, 1) := by decide +kernel
theorem dL_law_280 : decode cL_law 280 = .ok (.iaload, 1) := by decide +kernel
theorem dL_law_281 : decode cL_law 281 = .ok (.invokevirtual 34, 3) := by decide +kernel
theorem dL_law_284 : decode cL_law 284 = .ok (.if_icmp .eq 743, 3) := by decide +kernel
theorem dL_law_287 : decode cL_law 287 = .ok (.iconst 0, 1) := by decide +kernel
theorem dL_law_288 : decode cL_law 288 = .ok (.ireturn, 1) := by decide +kernel
theorem dL_law_289 : decode cL_law 289 = .ok (.aload_n 1, 1) := by decide +kernel
theorem dL_law_290 : decode cL_law 290 = .ok (.aload_n 0, 1) := by decide +kernel
theorem dL_law_291 : decode cL_law 291 = .ok (.iload_n 3, 1) := by decide +kernel
theorem dL_law_292 : decode cL_law 292 = .ok (.iconst 1, 1) := by decide +kernel
theorem dL_law_293 : decode cL_law 293 = .ok (.iadd, 1) := by decide +kernel
theorem dL_law_294 : decode cL_law 294 = .ok (.iaload, 1) := by decide +kernel
theorem dL_law_295 : decode cL_law 295 = .ok (.aload_n 0, 1) := by decide +kernel
theorem dL_law_296 : decode cL_law 296 = .ok (.iload_n 3, 1) := by decide +kernel
theorem dL_law_297 : decode cL_law 297 = .ok (.iconst 2, 1) := by decide +kernel
theorem dL_law_298 : decode cL_law 298 = .ok (.iadd, 1) := by decide +kernel
theorem dL_law_299 : decode cL_law 299 = .ok (.iaload, 1) := by decide +kernel
theorem dL_law_300 : decode cL_law 300 = .ok (.ifCond .eq 7, 3) := by decide +kernel
theorem dL_law_303 : decode cL_law 303 = .ok (.iconst 1, 1) := by decide +kernel
theorem dL_law_304 : decode cL_law 304 = .ok (.goto 4, 3) := by decide +kernel
theorem dL_law_307 : decode cL_law 307 = .ok (.iconst 0, 1) := by decide +kernel
theorem dL_law_308 : decode cL_law 308 = .ok (.invokevirtual 35, 3) := by decide +kernel
theorem dL_law_311 : decode cL_law 311 = .ok (.aload_n 2, 1) := by decide +kernel
theorem dL_law_312 : decode cL_law 312 = .ok (.aload_n 0, 1) := by decide +kernel
theorem dL_law_313 : decode cL_law 313 = .ok (.iload_n 3, 1) := by decide +kernel
theorem dL_law_314 : decode cL_law 314 = .ok (.iconst 1, 1) := by decide +kernel
theorem dL_law_315 : decode cL_law 315 = .ok (.iadd, 1) := by decide +kernel
theorem dL_law_316 : decode cL_law 316 = .ok (.iaload, 1) := by decide +kernel
theorem dL_law_317 : decode cL_law 317 = .ok (.aload_n 0, 1) := by decide +kernel
theorem dL_law_318 : decode cL_law 318 = .ok (.iload_n 3, 1) := by decide +kernel
theorem dL_law_319 : decode cL_law 319 = .ok (.iconst 2, 1) := by decide +kernel
theorem dL_law_320 : decode cL_law 320 = .ok (.iadd, 1) := by decide +kernel
theorem dL_law_321 : decode cL_law 321 = .ok (.iaload, 1) := by decide +kernel
theorem dL_law_322 : decode cL_law 322 = .ok (.ifCond .eq 7, 3) := by decide +kernel
theorem dL_law_325 : decode cL_law 325 = .ok (.iconst 1, 1) := by decide +kernel
theorem dL_law_326 : decode cL_law 326 = .ok (.goto 4, 3) := by decide +kernel
theorem dL_law_329 : decode cL_law 329 = .ok (.iconst 0, 1) := by decide +kernel
theorem dL_law_330 : decode cL_law 330 = .ok (.invokevirtual 39, 3) := by decide +kernel
theorem dL_law_333 : decode cL_law 333 = .ok (.if_icmp .eq 694, 3) := by decide +kernel
theorem dL_law_336 : decode cL_law 336 = .ok (.iconst 0, 1) := by decide +kernel
theorem dL_law_337 : decode cL_law 337 = .ok (.ireturn, 1) := by decide +kernel
theorem dL_law_338 : decode cL_law 338 = .ok (.aload_n 1, 1) := by decide +kernel
theorem dL_law_339 : decode cL_law 339 = .ok (.aload_n 0, 1) := by decide +kernel
theorem dL_law_340 : decode cL_law 340 = .ok (.iload_n 3, 1) := by decide +kernel
theorem dL_law_341 : decode cL_law 341 = .ok (.iconst 1, 1) := by decide +kernel
theorem dL_law_342 : decode cL_law 342 = .ok (.iadd, 1) := by decide +kernel
theorem dL_law_343 : decode cL_law 343 = .ok (.iaload, 1) := by decide +kernel
theorem dL_law_344 : decode cL_law 344 = .ok (.aload_n 0, 1) := by decide +kernel
theorem dL_law_345 : decode cL_law 345 = .ok (.iload_n 3, 1) := by decide +kernel
theorem dL_law_346 : decode cL_law 346 = .ok (.iconst 2, 1) := by decide +kernel
theorem dL_law_347 : decode cL_law 347 = .ok (.iadd, 1) := by decide +kernel
theorem dL_law_348 : decode cL_law 348 = .ok (.iaload, 1) := by decide +kernel
theorem dL_law_349 : decode cL_law 349 = .ok (.invokevirtual 40, 3) := by decide +kernel
theorem dL_law_352 : decode cL_law 352 = .ok (.aload_n 2, 1) := by decide +kernel
theorem dL_law_353 : decode cL_law 353 = .ok (.aload_n 0, 1) := by decide +kernel
theorem dL_law_354 : decode cL_law 354 = .ok (.iload_n 3, 1) := by decide +kernel
theorem dL_law_355 : decode cL_law 355 = .ok (.iconst 1, 1) := by decide +kernel
theorem dL_law_356 : decode cL_law 356 = .ok (.iadd, 1) := by decide +kernel
theorem dL_law_357 : decode cL_law 357 = .ok (.iaload, 1) := by decide +kernel
theorem dL_law_358 : decode cL_law 358 = .ok (.aload_n 0, 1) := by decide +kernel
theorem dL_law_359 : decode cL_law 359 = .ok (.iload_n 3, 1) := by decide +kernel
theorem dL_law_360 : decode cL_law 360 = .ok (.iconst 2, 1) := by decide +kernel
theorem dL_law_361 : decode cL_law 361 = .ok (.iadd, 1) := by decide +kernel
theorem dL_law_362 : decode cL_law 362 = .ok (.iaload, 1) := by decide +kernel
theorem dL_law_363 : decode cL_law 363 = .ok (.invokevirtual 43, 3) := by decide +kernel
theorem dL_law_366 : decode cL_law 366 = .ok (.if_icmp .eq 661, 3) := by decide +kernel
theorem dL_law_369 : decode cL_law 369 = .ok (.iconst 0, 1) := by decide +kernel
theorem dL_law_370 : decode cL_law 370 = .ok (.ireturn, 1) := by decide +kernel
theorem dL_law_371 : decode cL_law 371 = .ok (.aload_n 1, 1) := by decide +kernel
theorem dL_law_372 : decode cL_law 372 = .ok (.aload_n 0, 1) := by decide +kernel
theorem dL_law_373 : decode cL_law 373 = .ok (.iload_n 3, 1) := by decide +kernel
theorem dL_law_374 : decode cL_law 374 = .ok (.iconst 1, 1) := by decide +kernel
theorem dL_law_375 : decode cL_law 375 = .ok (.iadd, 1) := by decide +kernel
theorem dL_law_376 : decode cL_law 376 = .ok (.iaload, 1) := by decide +kernel
theorem dL_law_377 : decode cL_law 377 = .ok (.invokevirtual 44, 3) := by decide +kernel
theorem dL_law_380 : decode cL_law 380 = .ok (.aload_n 2, 1) := by decide +kernel
theorem dL_law_381 : decode cL_law 381 = .ok (.aload_n 0, 1) := by decide +kernel
theorem dL_law_382 : decode cL_law 382 = .ok (.iload_n 3, 1) := by decide +kernel
theorem dL_law_383 : decode cL_law 383 = .ok (.iconst 1, 1) := by decide +kernel
theorem dL_law_384 : decode cL_law 384 = .ok (.iadd, 1) := by decide +kernel
theorem dL_law_385 : decode cL_law 385 = .ok (.iaload, 1) := by decide +kernel
theorem dL_law_386 : decode cL_law 386 = .ok (.invokevirtual 47, 3) := by decide +kernel
theorem dL_law_389 : decode cL_law 389 = .ok (.if_icmp .eq 638, 3) := by decide +kernel
theorem dL_law_392 : decode cL_law 392 = .ok (.iconst 0, 1) := by decide +kernel
theorem dL_law_393 : decode cL_law 393 = .ok (.ireturn, 1) := by decide +kernel
theorem dL_law_394 : decode cL_law 394 = .ok (.aload_n 1, 1) := by decide +kernel
theorem dL_law_395 : decode cL_law 395 = .ok (.aload_n 0, 1) := by decide +kernel
theorem dL_law_396 : decode cL_law 396 = .ok (.iload_n 3, 1) := by decide +kernel
theorem dL_law_397 : decode cL_law 397 = .ok (.iconst 1, 1) := by decide +kernel
theorem dL_law_398 : decode cL_law 398 = .ok (.iadd, 1) := by decide +kernel
theorem dL_law_399 : decode cL_law 399 = .ok (.iaload, 1) := by decide +kernel
theorem dL_law_400 : decode cL_law 400 = .ok (.aload_n 0, 1) := by decide +kernel
theorem dL_law_401 : decode cL_law 401 = .ok (.iload_n 3, 1) := by decide +kernel
theorem dL_law_402 : decode cL_law 402 = .ok (.iconst 2, 1) := by decide +kernel
theorem dL_law_403 : decode cL_law 403 = .ok (.iadd, 1) := by decide +kernel
theorem dL_law_404 : decode cL_law 404 = .ok (.iaload, 1) := by decide +kernel
theorem dL_law_405 : decode cL_law 405 = .ok (.invokevirtual 48, 3) := by decide +kernel
theorem dL_law_408 : decode cL_law 408 = .ok (.aload_n 2, 1) := by decide +kernel
theorem dL_law_409 : decode cL_law 409 = .ok (.aload_n 0, 1) := by decide +kernel
theorem dL_law_410 : decode cL_law 410 = .ok (.iload_n 3, 1) := by decide +kernel
theorem dL_law_411 : decode cL_law 411 = .ok (.iconst 1, 1) := by decide +kernel
theorem dL_law_412 : decode cL_law 412 = .ok (.iadd, 1) := by decide +kernel
theorem dL_law_413 : decode cL_law 413 = .ok (.iaload, 1) := by decide +kernel
theorem dL_law_414 : decode cL_law 414 = .ok (.aload_n 0, 1) := by decide +kernel
theorem dL_law_415 : decode cL_law 415 = .ok (.iload_n 3, 1) := by decide +kernel
theorem dL_law_416 : decode cL_law 416 = .ok (.iconst 2, 1) := by decide +kernel
theorem dL_law_417 : decode cL_law 417 = .ok (.iadd, 1) := by decide +kernel
theorem dL_law_418 : decode cL_law 418 = .ok (.iaload, 1) := by decide +kernel
theorem dL_law_419 : decode cL_law 419 = .ok (.invokevirtual 51, 3) := by decide +kernel
theorem dL_law_422 : decode cL_law 422 = .ok (.if_icmp .eq 605, 3) := by decide +kernel
theorem dL_law_425 : decode cL_law 425 = .ok (.iconst 0, 1) := by decide +kernel
theorem dL_law_426 : decode cL_law 426 = .ok (.ireturn, 1) := by decide +kernel
theorem dL_law_427 : decode cL_law 427 = .ok (.aload_n 1, 1) := by decide +kernel
theorem dL_law_428 : decode cL_law 428 = .ok (.aload_n 0, 1) := by decide +kernel
theorem dL_law_429 : decode cL_law 429 = .ok (.iload_n 3, 1) := by decide +kernel
theorem dL_law_430 : decode cL_law 430 = .ok (.iconst 1, 1) := by decide +kernel
theorem dL_law_431 : decode cL_law 431 = .ok (.iadd, 1) := by decide +kernel
theorem dL_law_432 : decode cL_law 432 = .ok (.iaload, 1) := by decide +kernel
theorem dL_law_433 : decode cL_law 433 = .ok (.invokevirtual 52, 3) := by decide +kernel
theorem dL_law_436 : decode cL_law 436 = .ok (.aload_n 2, 1) := by decide +kernel
theorem dL_law_437 : decode cL_law 437 = .ok (.aload_n 0, 1) := by decide +kernel
theorem dL_law_438 : decode cL_law 438 = .ok (.iload_n 3, 1) := by decide +kernel
theorem dL_law_439 : decode cL_law 439 = .ok (.iconst 1, 1) := by decide +kernel
theorem dL_law_440 : decode cL_law 440 = .ok (.iadd, 1) := by decide +kernel
theorem dL_law_441 : decode cL_law 441 = .ok (.iaload, 1) := by decide +kernel
theorem dL_law_442 : decode cL_law 442 = .ok (.invokevirtual 55, 3) := by decide +kernel
theorem dL_law_445 : decode cL_law 445 = .ok (.if_icmp .eq 582, 3) := by decide +kernel
theorem dL_law_448 : decode cL_law 448 = .ok (.iconst 0, 1) := by decide +kernel
theorem dL_law_449 : decode cL_law 449 = .ok (.ireturn, 1) := by decide +kernel
theorem dL_law_450 : decode cL_law 450 = .ok (.aload_n 1, 1) := by decide +kernel
theorem dL_law_451 : decode cL_law 451 = .ok (.aload_n 0, 1) := by decide +kernel
theorem dL_law_452 : decode cL_law 452 = .ok (.iload_n 3, 1) := by decide +kernel
theorem dL_law_453 : decode cL_law 453 = .ok (.iconst 1, 1) := by decide +kernel
theorem dL_law_454 : decode cL_law 454 = .ok (.iadd, 1) := by decide +kernel
theorem dL_law_455 : decode cL_law 455 = .ok (.iaload, 1) := by decide +kernel
theorem dL_law_456 : decode cL_law 456 = .ok (.aload_n 0, 1) := by decide +kernel
theorem dL_law_457 : decode cL_law 457 = .ok (.iload_n 3, 1) := by decide +kernel
theorem dL_law_458 : decode cL_law 458 = .ok (.iconst 2, 1) := by decide +kernel
theorem dL_law_459 : decode cL_law 459 = .ok (.iadd, 1) := by decide +kernel
theorem dL_law_460 : decode cL_law 460 = .ok (.iaload, 1) := by decide +kernel
theorem dL_law_461 : decode cL_law 461 = .ok (.invokevirtual 56, 3) := by decide +kernel
theorem dL_law_464 : decode cL_law 464 = .ok (.aload_n 2, 1) := by decide +kernel
theorem dL_law_465 : decode cL_law 465 = .ok (.aload_n 0, 1) := by decide +kernel
theorem dL_law_466 : decode cL_law 466 = .ok (.iload_n 3, 1) := by decide +kernel
theorem dL_law_467 : decode cL_law 467 = .ok (.iconst 1, 1) := by decide +kernel
theorem dL_law_468 : decode cL_law 468 = .ok (.iadd, 1) := by decide +kernel
theorem dL_law_469 : decode cL_law 469 = .ok (.iaload, 1) := by decide +kernel
theorem dL_law_470 : decode cL_law 470 = .ok (.aload_n 0, 1) := by decide +kernel
theorem dL_law_471 : decode cL_law 471 = .ok (.iload_n 3, 1) := by decide +kernel
theorem dL_law_472 : decode cL_law 472 = .ok (.iconst 2, 1) := by decide +kernel
theorem dL_law_473 : decode cL_law 473 = .ok (.iadd, 1) := by decide +kernel
theorem dL_law_474 : decode cL_law 474 = .ok (.iaload, 1) := by decide +kernel
theorem dL_law_475 : decode cL_law 475 = .ok (.invokevirtual 59, 3) := by decide +kernel
theorem dL_law_478 : decode cL_law 478 = .ok (.if_icmp .eq 549, 3) := by decide +kernel
theorem dL_law_481 : decode cL_law 481 = .ok (.iconst 0, 1) := by decide +kernel
theorem dL_law_482 : decode cL_law 482 = .ok (.ireturn, 1) := by decide +kernel
theorem dL_law_483 : decode cL_law 483 = .ok (.aload_n 1, 1) := by decide +kernel
theorem dL_law_484 : decode cL_law 484 = .ok (.aload_n 0, 1) := by decide +kernel
theorem dL_law_485 : decode cL_law 485 = .ok (.iload_n 3, 1) := by decide +kernel
theorem dL_law_486 : decode cL_law 486 = .ok (.iconst 1, 1) := by decide +kernel
theorem dL_law_487 : decode cL_law 487 = .ok (.iadd, 1) := by decide +kernel
theorem dL_law_488 : decode cL_law 488 = .ok (.iaload, 1) := by decide +kernel
theorem dL_law_489 : decode cL_law 489 = .ok (.aload_n 0, 1) := by decide +kernel
theorem dL_law_490 : decode cL_law 490 = .ok (.iload_n 3, 1) := by decide +kernel
theorem dL_law_491 : decode cL_law 491 = .ok (.iconst 2, 1) := by decide +kernel
theorem dL_law_492 : decode cL_law 492 = .ok (.iadd, 1) := by decide +kernel
theorem dL_law_493 : decode cL_law 493 = .ok (.iaload, 1) := by decide +kernel
theorem dL_law_494 : decode cL_law 494 = .ok (.invokevirtual 60, 3) := by decide +kernel
theorem dL_law_497 : decode cL_law 497 = .ok (.aload_n 2, 1) := by decide +kernel
theorem dL_law_498 : decode cL_law 498 = .ok (.aload_n 0, 1) := by decide +kernel
theorem dL_law_499 : decode cL_law 499 = .ok (.iload_n 3, 1) := by decide +kernel
theorem dL_law_500 : decode cL_law 500 = .ok (.iconst 1, 1) := by decide +kernel
theorem dL_law_501 : decode cL_law 501 = .ok (.iadd, 1) := by decide +kernel
theorem dL_law_502 : decode cL_law 502 = .ok (.iaload, 1) := by decide +kernel
theorem dL_law_503 : decode cL_law 503 = .ok (.aload_n 0, 1) := by decide +kernel
theorem dL_law_504 : decode cL_law 504 = .ok (.iload_n 3, 1) := by decide +kernel
theorem dL_law_505 : decode cL_law 505 = .ok (.iconst 2, 1) := by decide +kernel
theorem dL_law_506 : decode cL_law 506 = .ok (.iadd, 1) := by decide +kernel
theorem dL_law_507 : decode cL_law 507 = .ok (.iaload, 1) := by decide +kernel
theorem dL_law_508 : decode cL_law 508 = .ok (.invokevirtual 63, 3) := by decide +kernel
theorem dL_law_511 : decode cL_law 511 = .ok (.if_icmp .eq 516, 3) := by decide +kernel
theorem dL_law_514 : decode cL_law 514 = .ok (.iconst 0, 1) := by decide +kernel
theorem dL_law_515 : decode cL_law 515 = .ok (.ireturn, 1) := by decide +kernel
theorem dL_law_516 : decode cL_law 516 = .ok (.aload_n 1, 1) := by decide +kernel
theorem dL_law_517 : decode cL_law 517 = .ok (.aload_n 0, 1) := by decide +kernel
theorem dL_law_518 : decode cL_law 518 = .ok (.iload_n 3, 1) := by decide +kernel
theorem dL_law_519 : decode cL_law 519 = .ok (.iconst 1, 1) := by decide +kernel
theorem dL_law_520 : decode cL_law 520 = .ok (.iadd, 1) := by decide +kernel
theorem dL_law_521 : decode cL_law 521 = .ok (.iaload, 1) := by decide +kernel
theorem dL_law_522 : decode cL_law 522 = .ok (.aload_n 0, 1) := by decide +kernel
theorem dL_law_523 : decode cL_law 523 = .ok (.iload_n 3, 1) := by decide +kernel
theorem dL_law_524 : decode cL_law 524 = .ok (.iconst 2, 1) := by decide +kernel
theorem dL_law_525 : decode cL_law 525 = .ok (.iadd, 1) := by decide +kernel
theorem dL_law_526 : decode cL_law 526 = .ok (.iaload, 1) := by decide +kernel
theorem dL_law_527 : decode cL_law 527 = .ok (.invokevirtual 64, 3) := by decide +kernel
theorem dL_law_530 : decode cL_law 530 = .ok (.aload_n 2, 1) := by decide +kernel
theorem dL_law_531 : decode cL_law 531 = .ok (.aload_n 0, 1) := by decide +kernel
theorem dL_law_532 : decode cL_law 532 = .ok (.iload_n 3, 1) := by decide +kernel
theorem dL_law_533 : decode cL_law 533 = .ok (.iconst 1, 1) := by decide +kernel
theorem dL_law_534 : decode cL_law 534 = .ok (.iadd, 1) := by decide +kernel
theorem dL_law_535 : decode cL_law 535 = .ok (.iaload, 1) := by decide +kernel
theorem dL_law_536 : decode cL_law 536 = .ok (.aload_n 0, 1) := by decide +kernel
theorem dL_law_537 : decode cL_law 537 = .ok (.iload_n 3, 1) := by decide +kernel
theorem dL_law_538 : decode cL_law 538 = .ok (.iconst 2, 1) := by decide +kernel
theorem dL_law_539 : decode cL_law 539 = .ok (.iadd, 1) := by decide +kernel
theorem dL_law_540 : decode cL_law 540 = .ok (.iaload, 1) := by decide +kernel
theorem dL_law_541 : decode cL_law 541 = .ok (.invokevirtual 68, 3) := by decide +kernel
theorem dL_law_544 : decode cL_law 544 = .ok (.lcmp, 1) := by decide +kernel
theorem dL_law_545 : decode cL_law 545 = .ok (.ifCond .eq 482, 3) := by decide +kernel
theorem dL_law_548 : decode cL_law 548 = .ok (.iconst 0, 1) := by decide +kernel
theorem dL_law_549 : decode cL_law 549 = .ok (.ireturn, 1) := by decide +kernel
theorem dL_law_550 : decode cL_law 550 = .ok (.aload_n 1, 1) := by decide +kernel
theorem dL_law_551 : decode cL_law 551 = .ok (.aload_n 0, 1) := by decide +kernel
theorem dL_law_552 : decode cL_law 552 = .ok (.iload_n 3, 1) := by decide +kernel
theorem dL_law_553 : decode cL_law 553 = .ok (.iconst 1, 1) := by decide +kernel
theorem dL_law_554 : decode cL_law 554 = .ok (.iadd, 1) := by decide +kernel
theorem dL_law_555 : decode cL_law 555 = .ok (.iaload, 1) := by decide +kernel
theorem dL_law_556 : decode cL_law 556 = .ok (.aload_n 0, 1) := by decide +kernel
theorem dL_law_557 : decode cL_law 557 = .ok (.iload_n 3, 1) := by decide +kernel
theorem dL_law_558 : decode cL_law 558 = .ok (.iconst 2, 1) := by decide +kernel
theorem dL_law_559 : decode cL_law 559 = .ok (.iadd, 1) := by decide +kernel
theorem dL_law_560 : decode cL_law 560 = .ok (.iaload, 1) := by decide +kernel
theorem dL_law_561 : decode cL_law 561 = .ok (.invokevirtual 69, 3) := by decide +kernel
theorem dL_law_564 : decode cL_law 564 = .ok (.aload_n 2, 1) := by decide +kernel
theorem dL_law_565 : decode cL_law 565 = .ok (.aload_n 0, 1) := by decide +kernel
theorem dL_law_566 : decode cL_law 566 = .ok (.iload_n 3, 1) := by decide +kernel
theorem dL_law_567 : decode cL_law 567 = .ok (.iconst 1, 1) := by decide +kernel
theorem dL_law_568 : decode cL_law 568 = .ok (.iadd, 1) := by decide +kernel
theorem dL_law_569 : decode cL_law 569 = .ok (.iaload, 1) := by decide +kernel
theorem dL_law_570 : decode cL_law 570 = .ok (.aload_n 0, 1) := by decide +kernel
theorem dL_law_571 : decode cL_law 571 = .ok (.iload_n 3, 1) := by decide +kernel
theorem dL_law_572 : decode cL_law 572 = .ok (.iconst 2, 1) := by decide +kernel
theorem dL_law_573 : decode cL_law 573 = .ok (.iadd, 1) := by decide +kernel
theorem dL_law_574 : decode cL_law 574 = .ok (.iaload, 1) := by decide +kernel
theorem dL_law_575 : decode cL_law 575 = .ok (.invokevirtual 72, 3) := by decide +kernel
theorem dL_law_578 : decode cL_law 578 = .ok (.lcmp, 1) := by decide +kernel
theorem dL_law_579 : decode cL_law 579 = .ok (.ifCond .eq 448, 3) := by decide +kernel
theorem dL_law_582 : decode cL_law 582 = .ok (.iconst 0, 1) := by decide +kernel
theorem dL_law_583 : decode cL_law 583 = .ok (.ireturn, 1) := by decide +kernel
theorem dL_law_584 : decode cL_law 584 = .ok (.aload_n 1, 1) := by decide +kernel
theorem dL_law_585 : decode cL_law 585 = .ok (.aload_n 0, 1) := by decide +kernel
theorem dL_law_586 : decode cL_law 586 = .ok (.iload_n 3, 1) := by decide +kernel
theorem dL_law_587 : decode cL_law 587 = .ok (.iconst 1, 1) := by decide +kernel
theorem dL_law_588 : decode cL_law 588 = .ok (.iadd, 1) := by decide +kernel
theorem dL_law_589 : decode cL_law 589 = .ok (.iaload, 1) := by decide +kernel
theorem dL_law_590 : decode cL_law 590 = .ok (.aload_n 0, 1) := by decide +kernel
theorem dL_law_591 : decode cL_law 591 = .ok (.iload_n 3, 1) := by decide +kernel
theorem dL_law_592 : decode cL_law 592 = .ok (.iconst 2, 1) := by decide +kernel
theorem dL_law_593 : decode cL_law 593 = .ok (.iadd, 1) := by decide +kernel
theorem dL_law_594 : decode cL_law 594 = .ok (.iaload, 1) := by decide +kernel
theorem dL_law_595 : decode cL_law 595 = .ok (.invokevirtual 73, 3) := by decide +kernel
theorem dL_law_598 : decode cL_law 598 = .ok (.aload_n 2, 1) := by decide +kernel
theorem dL_law_599 : decode cL_law 599 = .ok (.aload_n 0, 1) := by decide +kernel
theorem dL_law_600 : decode cL_law 600 = .ok (.iload_n 3, 1) := by decide +kernel
theorem dL_law_601 : decode cL_law 601 = .ok (.iconst 1, 1) := by decide +kernel
theorem dL_law_602 : decode cL_law 602 = .ok (.iadd, 1) := by decide +kernel
theorem dL_law_603 : decode cL_law 603 = .ok (.iaload, 1) := by decide +kernel
theorem dL_law_604 : decode cL_law 604 = .ok (.aload_n 0, 1) := by decide +kernel
theorem dL_law_605 : decode cL_law 605 = .ok (.iload_n 3, 1) := by decide +kernel
theorem dL_law_606 : decode cL_law 606 = .ok (.iconst 2, 1) := by decide +kernel
theorem dL_law_607 : decode cL_law 607 = .ok (.iadd, 1) := by decide +kernel
theorem dL_law_608 : decode cL_law 608 = .ok (.iaload, 1) := by decide +kernel
theorem dL_law_609 : decode cL_law 609 = .ok (.invokevirtual 76, 3) := by decide +kernel
theorem dL_law_612 : decode cL_law 612 = .ok (.lcmp, 1) := by decide +kernel
theorem dL_law_613 : decode cL_law 613 = .ok (.ifCond .eq 414, 3) := by decide +kernel
theorem dL_law_616 : decode cL_law 616 = .ok (.iconst 0, 1) := by decide +kernel
theorem dL_law_617 : decode cL_law 617 = .ok (.ireturn, 1) := by decide +kernel
theorem dL_law_618 : decode cL_law 618 = .ok (.aload_n 1, 1) := by decide +kernel
theorem dL_law_619 : decode cL_law 619 = .ok (.aload_n 0, 1) := by decide +kernel
theorem dL_law_620 : decode cL_law 620 = .ok (.iload_n 3, 1) := by decide +kernel
theorem dL_law_621 : decode cL_law 621 = .ok (.iconst 1, 1) := by decide +kernel
theorem dL_law_622 : decode cL_law 622 = .ok (.iadd, 1) := by decide +kernel
theorem dL_law_623 : decode cL_law 623 = .ok (.iaload, 1) := by decide +kernel
theorem dL_law_624 : decode cL_law 624 = .ok (.aload_n 0, 1) := by decide +kernel
theorem dL_law_625 : decode cL_law 625 = .ok (.iload_n 3, 1) := by decide +kernel
theorem dL_law_626 : decode cL_law 626 = .ok (.iconst 2, 1) := by decide +kernel
theorem dL_law_627 : decode cL_law 627 = .ok (.iadd, 1) := by decide +kernel
theorem dL_law_628 : decode cL_law 628 = .ok (.iaload, 1) := by decide +kernel
theorem dL_law_629 : decode cL_law 629 = .ok (.invokevirtual 77, 3) := by decide +kernel
theorem dL_law_632 : decode cL_law 632 = .ok (.aload_n 2, 1) := by decide +kernel
theorem dL_law_633 : decode cL_law 633 = .ok (.aload_n 0, 1) := by decide +kernel
theorem dL_law_634 : decode cL_law 634 = .ok (.iload_n 3, 1) := by decide +kernel
theorem dL_law_635 : decode cL_law 635 = .ok (.iconst 1, 1) := by decide +kernel
theorem dL_law_636 : decode cL_law 636 = .ok (.iadd, 1) := by decide +kernel
theorem dL_law_637 : decode cL_law 637 = .ok (.iaload, 1) := by decide +kernel
theorem dL_law_638 : decode cL_law 638 = .ok (.aload_n 0, 1) := by decide +kernel
theorem dL_law_639 : decode cL_law 639 = .ok (.iload_n 3, 1) := by decide +kernel
theorem dL_law_640 : decode cL_law 640 = .ok (.iconst 2, 1) := by decide +kernel
theorem dL_law_641 : decode cL_law 641 = .ok (.iadd, 1) := by decide +kernel
theorem dL_law_642 : decode cL_law 642 = .ok (.iaload, 1) := by decide +kernel
theorem dL_law_643 : decode cL_law 643 = .ok (.invokevirtual 80, 3) := by decide +kernel
theorem dL_law_646 : decode cL_law 646 = .ok (.lcmp, 1) := by decide +kernel
theorem dL_law_647 : decode cL_law 647 = .ok (.ifCond .eq 380, 3) := by decide +kernel
theorem dL_law_650 : decode cL_law 650 = .ok (.iconst 0, 1) := by decide +kernel
theorem dL_law_651 : decode cL_law 651 = .ok (.ireturn, 1) := by decide +kernel
theorem dL_law_652 : decode cL_law 652 = .ok (.aload_n 1, 1) := by decide +kernel
theorem dL_law_653 : decode cL_law 653 = .ok (.aload_n 0, 1) := by decide +kernel
theorem dL_law_654 : decode cL_law 654 = .ok (.iload_n 3, 1) := by decide +kernel
theorem dL_law_655 : decode cL_law 655 = .ok (.iconst 1, 1) := by decide +kernel
theorem dL_law_656 : decode cL_law 656 = .ok (.iadd, 1) := by decide +kernel
theorem dL_law_657 : decode cL_law 657 = .ok (.iaload, 1) := by decide +kernel
theorem dL_law_658 : decode cL_law 658 = .ok (.aload_n 0, 1) := by decide +kernel
theorem dL_law_659 : decode cL_law 659 = .ok (.iload_n 3, 1) := by decide +kernel
theorem dL_law_660 : decode cL_law 660 = .ok (.iconst 2, 1) := by decide +kernel
theorem dL_law_661 : decode cL_law 661 = .ok (.iadd, 1) := by decide +kernel
theorem dL_law_662 : decode cL_law 662 = .ok (.iaload, 1) := by decide +kernel
theorem dL_law_663 : decode cL_law 663 = .ok (.aload_n 0, 1) := by decide +kernel
theorem dL_law_664 : decode cL_law 664 = .ok (.iload_n 3, 1) := by decide +kernel
theorem dL_law_665 : decode cL_law 665 = .ok (.iconst 3, 1) := by decide +kernel
theorem dL_law_666 : decode cL_law 666 = .ok (.iadd, 1) := by decide +kernel
theorem dL_law_667 : decode cL_law 667 = .ok (.iaload, 1) := by decide +kernel
theorem dL_law_668 : decode cL_law 668 = .ok (.invokevirtual 81, 3) := by decide +kernel
theorem dL_law_671 : decode cL_law 671 = .ok (.aload_n 2, 1) := by decide +kernel
theorem dL_law_672 : decode cL_law 672 = .ok (.aload_n 0, 1) := by decide +kernel
theorem dL_law_673 : decode cL_law 673 = .ok (.iload_n 3, 1) := by decide +kernel
theorem dL_law_674 : decode cL_law 674 = .ok (.iconst 1, 1) := by decide +kernel
theorem dL_law_675 : decode cL_law 675 = .ok (.iadd, 1) := by decide +kernel
theorem dL_law_676 : decode cL_law 676 = .ok (.iaload, 1) := by decide +kernel
theorem dL_law_677 : decode cL_law 677 = .ok (.aload_n 0, 1) := by decide +kernel
theorem dL_law_678 : decode cL_law 678 = .ok (.iload_n 3, 1) := by decide +kernel
theorem dL_law_679 : decode cL_law 679 = .ok (.iconst 2, 1) := by decide +kernel
theorem dL_law_680 : decode cL_law 680 = .ok (.iadd, 1) := by decide +kernel
theorem dL_law_681 : decode cL_law 681 = .ok (.iaload, 1) := by decide +kernel
theorem dL_law_682 : decode cL_law 682 = .ok (.aload_n 0, 1) := by decide +kernel
theorem dL_law_683 : decode cL_law 683 = .ok (.iload_n 3, 1) := by decide +kernel
theorem dL_law_684 : decode cL_law 684 = .ok (.iconst 3, 1) := by decide +kernel
theorem dL_law_685 : decode cL_law 685 = .ok (.iadd, 1) := by decide +kernel
theorem dL_law_686 : decode cL_law 686 = .ok (.iaload, 1) := by decide +kernel
theorem dL_law_687 : decode cL_law 687 = .ok (.invokevirtual 85, 3) := by decide +kernel
theorem dL_law_690 : decode cL_law 690 = .ok (.lcmp, 1) := by decide +kernel
theorem dL_law_691 : decode cL_law 691 = .ok (.ifCond .eq 336, 3) := by decide +kernel
theorem dL_law_694 : decode cL_law 694 = .ok (.iconst 0, 1) := by decide +kernel
theorem dL_law_695 : decode cL_law 695 = .ok (.ireturn, 1) := by decide +kernel
theorem dL_law_696 : decode cL_law 696 = .ok (.aload_n 1, 1) := by decide +kernel
theorem dL_law_697 : decode cL_law 697 = .ok (.invokevirtual 86, 3) := by decide +kernel
theorem dL_law_700 : decode cL_law 700 = .ok (.aload_n 2, 1) := by decide +kernel
theorem dL_law_701 : decode cL_law 701 = .ok (.invokevirtual 90, 3) := by decide +kernel
theorem dL_law_704 : decode cL_law 704 = .ok (.if_icmp .eq 323, 3) := by decide +kernel
theorem dL_law_707 : decode cL_law 707 = .ok (.iconst 0, 1) := by decide +kernel
theorem dL_law_708 : decode cL_law 708 = .ok (.ireturn, 1) := by decide +kernel
theorem dL_law_709 : decode cL_law 709 = .ok (.aload_n 1, 1) := by decide +kernel
theorem dL_law_710 : decode cL_law 710 = .ok (.aload_n 0, 1) := by decide +kernel
theorem dL_law_711 : decode cL_law 711 = .ok (.iload_n 3, 1) := by decide +kernel
theorem dL_law_712 : decode cL_law 712 = .ok (.iconst 1, 1) := by decide +kernel
theorem dL_law_713 : decode cL_law 713 = .ok (.iadd, 1) := by decide +kernel
theorem dL_law_714 : decode cL_law 714 = .ok (.iaload, 1) := by decide +kernel
theorem dL_law_715 : decode cL_law 715 = .ok (.aload_n 0, 1) := by decide +kernel
theorem dL_law_716 : decode cL_law 716 = .ok (.iload_n 3, 1) := by decide +kernel
theorem dL_law_717 : decode cL_law 717 = .ok (.iconst 2, 1) := by decide +kernel
theorem dL_law_718 : decode cL_law 718 = .ok (.iadd, 1) := by decide +kernel
theorem dL_law_719 : decode cL_law 719 = .ok (.iaload, 1) := by decide +kernel
theorem dL_law_720 : decode cL_law 720 = .ok (.aload_n 0, 1) := by decide +kernel
theorem dL_law_721 : decode cL_law 721 = .ok (.iload_n 3, 1) := by decide +kernel
theorem dL_law_722 : decode cL_law 722 = .ok (.iconst 3, 1) := by decide +kernel
theorem dL_law_723 : decode cL_law 723 = .ok (.iadd, 1) := by decide +kernel
theorem dL_law_724 : decode cL_law 724 = .ok (.iaload, 1) := by decide +kernel
theorem dL_law_725 : decode cL_law 725 = .ok (.invokevirtual 91, 3) := by decide +kernel
theorem dL_law_728 : decode cL_law 728 = .ok (.aload_n 2, 1) := by decide +kernel
theorem dL_law_729 : decode cL_law 729 = .ok (.aload_n 0, 1) := by decide +kernel
theorem dL_law_730 : decode cL_law 730 = .ok (.iload_n 3, 1) := by decide +kernel
theorem dL_law_731 : decode cL_law 731 = .ok (.iconst 1, 1) := by decide +kernel
theorem dL_law_732 : decode cL_law 732 = .ok (.iadd, 1) := by decide +kernel
theorem dL_law_733 : decode cL_law 733 = .ok (.iaload, 1) := by decide +kernel
theorem dL_law_734 : decode cL_law 734 = .ok (.aload_n 0, 1) := by decide +kernel
theorem dL_law_735 : decode cL_law 735 = .ok (.iload_n 3, 1) := by decide +kernel
theorem dL_law_736 : decode cL_law 736 = .ok (.iconst 2, 1) := by decide +kernel
theorem dL_law_737 : decode cL_law 737 = .ok (.iadd, 1) := by decide +kernel
theorem dL_law_738 : decode cL_law 738 = .ok (.iaload, 1) := by decide +kernel
theorem dL_law_739 : decode cL_law 739 = .ok (.aload_n 0, 1) := by decide +kernel
theorem dL_law_740 : decode cL_law 740 = .ok (.iload_n 3, 1) := by decide +kernel
theorem dL_law_741 : decode cL_law 741 = .ok (.iconst 3, 1) := by decide +kernel
theorem dL_law_742 : decode cL_law 742 = .ok (.iadd, 1) := by decide +kernel
theorem dL_law_743 : decode cL_law 743 = .ok (.iaload, 1) := by decide +kernel
theorem dL_law_744 : decode cL_law 744 = .ok (.invokevirtual 94, 3) := by decide +kernel
theorem dL_law_747 : decode cL_law 747 = .ok (.lcmp, 1) := by decide +kernel
theorem dL_law_748 : decode cL_law 748 = .ok (.ifCond .eq 279, 3) := by decide +kernel
theorem dL_law_751 : decode cL_law 751 = .ok (.iconst 0, 1) := by decide +kernel
theorem dL_law_752 : decode cL_law 752 = .ok (.ireturn, 1) := by decide +kernel
theorem dL_law_753 : decode cL_law 753 = .ok (.aload_n 1, 1) := by decide +kernel
theorem dL_law_754 : decode cL_law 754 = .ok (.aload_n 0, 1) := by decide +kernel
theorem dL_law_755 : decode cL_law 755 = .ok (.iload_n 3, 1) := by decide +kernel
theorem dL_law_756 : decode cL_law 756 = .ok (.iconst 1, 1) := by decide +kernel
theorem dL_law_757 : decode cL_law 757 = .ok (.iadd, 1) := by decide +kernel
theorem dL_law_758 : decode cL_law 758 = .ok (.iaload, 1) := by decide +kernel
theorem dL_law_759 : decode cL_law 759 = .ok (.aload_n 0, 1) := by decide +kernel
theorem dL_law_760 : decode cL_law 760 = .ok (.iload_n 3, 1) := by decide +kernel
theorem dL_law_761 : decode cL_law 761 = .ok (.iconst 2, 1) := by decide +kernel
theorem dL_law_762 : decode cL_law 762 = .ok (.iadd, 1) := by decide +kernel
theorem dL_law_763 : decode cL_law 763 = .ok (.iaload, 1) := by decide +kernel
theorem dL_law_764 : decode cL_law 764 = .ok (.invokevirtual 95, 3) := by decide +kernel
theorem dL_law_767 : decode cL_law 767 = .ok (.aload_n 2, 1) := by decide +kernel
theorem dL_law_768 : decode cL_law 768 = .ok (.aload_n 0, 1) := by decide +kernel
theorem dL_law_769 : decode cL_law 769 = .ok (.iload_n 3, 1) := by decide +kernel
theorem dL_law_770 : decode cL_law 770 = .ok (.iconst 1, 1) := by decide +kernel
theorem dL_law_771 : decode cL_law 771 = .ok (.iadd, 1) := by decide +kernel
theorem dL_law_772 : decode cL_law 772 = .ok (.iaload, 1) := by decide +kernel
theorem dL_law_773 : decode cL_law 773 = .ok (.aload_n 0, 1) := by decide +kernel
theorem dL_law_774 : decode cL_law 774 = .ok (.iload_n 3, 1) := by decide +kernel
theorem dL_law_775 : decode cL_law 775 = .ok (.iconst 2, 1) := by decide +kernel
theorem dL_law_776 : decode cL_law 776 = .ok (.iadd, 1) := by decide +kernel
theorem dL_law_777 : decode cL_law 777 = .ok (.iaload, 1) := by decide +kernel
theorem dL_law_778 : decode cL_law 778 = .ok (.invokevirtual 98, 3) := by decide +kernel
theorem dL_law_781 : decode cL_law 781 = .ok (.lcmp, 1) := by decide +kernel
theorem dL_law_782 : decode cL_law 782 = .ok (.ifCond .eq 245, 3) := by decide +kernel
theorem dL_law_785 : decode cL_law 785 = .ok (.iconst 0, 1) := by decide +kernel
theorem dL_law_786 : decode cL_law 786 = .ok (.ireturn, 1) := by decide +kernel
theorem dL_law_787 : decode cL_law 787 = .ok (.aload_n 1, 1) := by decide +kernel
theorem dL_law_788 : decode cL_law 788 = .ok (.invokevirtual 99, 3) := by decide +kernel
theorem dL_law_791 : decode cL_law 791 = .ok (.aload_n 2, 1) := by decide +kernel
theorem dL_law_792 : decode cL_law 792 = .ok (.invokevirtual 102, 3) := by decide +kernel
theorem dL_law_795 : decode cL_law 795 = .ok (.if_icmp .eq 232, 3) := by decide +kernel
theorem dL_law_798 : decode cL_law 798 = .ok (.iconst 0, 1) := by decide +kernel
theorem dL_law_799 : decode cL_law 799 = .ok (.ireturn, 1) := by decide +kernel
theorem dL_law_800 : decode cL_law 800 = .ok (.aload_n 1, 1) := by decide +kernel
theorem dL_law_801 : decode cL_law 801 = .ok (.aload_n 0, 1) := by decide +kernel
theorem dL_law_802 : decode cL_law 802 = .ok (.iload_n 3, 1) := by decide +kernel
theorem dL_law_803 : decode cL_law 803 = .ok (.iconst 1, 1) := by decide +kernel
theorem dL_law_804 : decode cL_law 804 = .ok (.iadd, 1) := by decide +kernel
theorem dL_law_805 : decode cL_law 805 = .ok (.iaload, 1) := by decide +kernel
theorem dL_law_806 : decode cL_law 806 = .ok (.aload_n 0, 1) := by decide +kernel
theorem dL_law_807 : decode cL_law 807 = .ok (.iload_n 3, 1) := by decide +kernel
theorem dL_law_808 : decode cL_law 808 = .ok (.iconst 2, 1) := by decide +kernel
theorem dL_law_809 : decode cL_law 809 = .ok (.iadd, 1) := by decide +kernel
theorem dL_law_810 : decode cL_law 810 = .ok (.iaload, 1) := by decide +kernel
theorem dL_law_811 : decode cL_law 811 = .ok (.invokevirtual 103, 3) := by decide +kernel
theorem dL_law_814 : decode cL_law 814 = .ok (.aload_n 2, 1) := by decide +kernel
theorem dL_law_815 : decode cL_law 815 = .ok (.aload_n 0, 1) := by decide +kernel
theorem dL_law_816 : decode cL_law 816 = .ok (.iload_n 3, 1) := by decide +kernel
theorem dL_law_817 : decode cL_law 817 = .ok (.iconst 1, 1) := by decide +kernel
theorem dL_law_818 : decode cL_law 818 = .ok (.iadd, 1) := by decide +kernel
theorem dL_law_819 : decode cL_law 819 = .ok (.iaload, 1) := by decide +kernel
theorem dL_law_820 : decode cL_law 820 = .ok (.aload_n 0, 1) := by decide +kernel
theorem dL_law_821 : decode cL_law 821 = .ok (.iload_n 3, 1) := by decide +kernel
theorem dL_law_822 : decode cL_law 822 = .ok (.iconst 2, 1) := by decide +kernel
theorem dL_law_823 : decode cL_law 823 = .ok (.iadd, 1) := by decide +kernel
theorem dL_law_824 : decode cL_law 824 = .ok (.iaload, 1) := by decide +kernel
theorem dL_law_825 : decode cL_law 825 = .ok (.invokevirtual 106, 3) := by decide +kernel
theorem dL_law_828 : decode cL_law 828 = .ok (.if_icmp .eq 199, 3) := by decide +kernel
theorem dL_law_831 : decode cL_law 831 = .ok (.iconst 0, 1) := by decide +kernel
theorem dL_law_832 : decode cL_law 832 = .ok (.ireturn, 1) := by decide +kernel
theorem dL_law_833 : decode cL_law 833 = .ok (.aload_n 1, 1) := by decide +kernel
theorem dL_law_834 : decode cL_law 834 = .ok (.aload_n 0, 1) := by decide +kernel
theorem dL_law_835 : decode cL_law 835 = .ok (.iload_n 3, 1) := by decide +kernel
theorem dL_law_836 : decode cL_law 836 = .ok (.iconst 1, 1) := by decide +kernel
theorem dL_law_837 : decode cL_law 837 = .ok (.iadd, 1) := by decide +kernel
theorem dL_law_838 : decode cL_law 838 = .ok (.iaload, 1) := by decide +kernel
theorem dL_law_839 : decode cL_law 839 = .ok (.invokevirtual 107, 3) := by decide +kernel
theorem dL_law_842 : decode cL_law 842 = .ok (.aload_n 2, 1) := by decide +kernel
theorem dL_law_843 : decode cL_law 843 = .ok (.aload_n 0, 1) := by decide +kernel
theorem dL_law_844 : decode cL_law 844 = .ok (.iload_n 3, 1) := by decide +kernel
theorem dL_law_845 : decode cL_law 845 = .ok (.iconst 1, 1) := by decide +kernel
theorem dL_law_846 : decode cL_law 846 = .ok (.iadd, 1) := by decide +kernel
theorem dL_law_847 : decode cL_law 847 = .ok (.iaload, 1) := by decide +kernel
theorem dL_law_848 : decode cL_law 848 = .ok (.invokevirtual 110, 3) := by decide +kernel
theorem dL_law_851 : decode cL_law 851 = .ok (.if_icmp .eq 176, 3) := by decide +kernel
theorem dL_law_854 : decode cL_law 854 = .ok (.iconst 0, 1) := by decide +kernel
theorem dL_law_855 : decode cL_law 855 = .ok (.ireturn, 1) := by decide +kernel
theorem dL_law_856 : decode cL_law 856 = .ok (.aload_n 1, 1) := by decide +kernel
theorem dL_law_857 : decode cL_law 857 = .ok (.aload_n 0, 1) := by decide +kernel
theorem dL_law_858 : decode cL_law 858 = .ok (.iload_n 3, 1) := by decide +kernel
theorem dL_law_859 : decode cL_law 859 = .ok (.iconst 1, 1) := by decide +kernel
theorem dL_law_860 : decode cL_law 860 = .ok (.iadd, 1) := by decide +kernel
theorem dL_law_861 : decode cL_law 861 = .ok (.iaload, 1) := by decide +kernel
theorem dL_law_862 : decode cL_law 862 = .ok (.aload_n 0, 1) := by decide +kernel
theorem dL_law_863 : decode cL_law 863 = .ok (.iload_n 3, 1) := by decide +kernel
theorem dL_law_864 : decode cL_law 864 = .ok (.iconst 2, 1) := by decide +kernel
theorem dL_law_865 : decode cL_law 865 = .ok (.iadd, 1) := by decide +kernel
theorem dL_law_866 : decode cL_law 866 = .ok (.iaload, 1) := by decide +kernel
theorem dL_law_867 : decode cL_law 867 = .ok (.invokevirtual 111, 3) := by decide +kernel
theorem dL_law_870 : decode cL_law 870 = .ok (.aload_n 2, 1) := by decide +kernel
theorem dL_law_871 : decode cL_law 871 = .ok (.aload_n 0, 1) := by decide +kernel
theorem dL_law_872 : decode cL_law 872 = .ok (.iload_n 3, 1) := by decide +kernel
theorem dL_law_873 : decode cL_law 873 = .ok (.iconst 1, 1) := by decide +kernel
theorem dL_law_874 : decode cL_law 874 = .ok (.iadd, 1) := by decide +kernel
theorem dL_law_875 : decode cL_law 875 = .ok (.iaload, 1) := by decide +kernel
theorem dL_law_876 : decode cL_law 876 = .ok (.aload_n 0, 1) := by decide +kernel
theorem dL_law_877 : decode cL_law 877 = .ok (.iload_n 3, 1) := by decide +kernel
theorem dL_law_878 : decode cL_law 878 = .ok (.iconst 2, 1) := by decide +kernel
theorem dL_law_879 : decode cL_law 879 = .ok (.iadd, 1) := by decide +kernel
theorem dL_law_880 : decode cL_law 880 = .ok (.iaload, 1) := by decide +kernel
theorem dL_law_881 : decode cL_law 881 = .ok (.invokevirtual 114, 3) := by decide +kernel
theorem dL_law_884 : decode cL_law 884 = .ok (.lcmp, 1) := by decide +kernel
theorem dL_law_885 : decode cL_law 885 = .ok (.ifCond .eq 142, 3) := by decide +kernel
theorem dL_law_888 : decode cL_law 888 = .ok (.iconst 0, 1) := by decide +kernel
theorem dL_law_889 : decode cL_law 889 = .ok (.ireturn, 1) := by decide +kernel
theorem dL_law_890 : decode cL_law 890 = .ok (.aload_n 1, 1) := by decide +kernel
theorem dL_law_891 : decode cL_law 891 = .ok (.aload_n 0, 1) := by decide +kernel
theorem dL_law_892 : decode cL_law 892 = .ok (.iload_n 3, 1) := by decide +kernel
theorem dL_law_893 : decode cL_law 893 = .ok (.iconst 1, 1) := by decide +kernel
theorem dL_law_894 : decode cL_law 894 = .ok (.iadd, 1) := by decide +kernel
theorem dL_law_895 : decode cL_law 895 = .ok (.iaload, 1) := by decide +kernel
theorem dL_law_896 : decode cL_law 896 = .ok (.aload_n 0, 1) := by decide +kernel
theorem dL_law_897 : decode cL_law 897 = .ok (.iload_n 3, 1) := by decide +kernel
theorem dL_law_898 : decode cL_law 898 = .ok (.iconst 2, 1) := by decide +kernel
theorem dL_law_899 : decode cL_law 899 = .ok (.iadd, 1) := by decide +kernel
theorem dL_law_900 : decode cL_law 900 = .ok (.iaload, 1) := by decide +kernel
theorem dL_law_901 : decode cL_law 901 = .ok (.invokevirtual 115, 3) := by decide +kernel
theorem dL_law_904 : decode cL_law 904 = .ok (.aload_n 2, 1) := by decide +kernel
theorem dL_law_905 : decode cL_law 905 = .ok (.aload_n 0, 1) := by decide +kernel
theorem dL_law_906 : decode cL_law 906 = .ok (.iload_n 3, 1) := by decide +kernel
theorem dL_law_907 : decode cL_law 907 = .ok (.iconst 1, 1) := by decide +kernel
theorem dL_law_908 : decode cL_law 908 = .ok (.iadd, 1) := by decide +kernel
theorem dL_law_909 : decode cL_law 909 = .ok (.iaload, 1) := by decide +kernel
theorem dL_law_910 : decode cL_law 910 = .ok (.aload_n 0, 1) := by decide +kernel
theorem dL_law_911 : decode cL_law 911 = .ok (.iload_n 3, 1) := by decide +kernel
theorem dL_law_912 : decode cL_law 912 = .ok (.iconst 2, 1) := by decide +kernel
theorem dL_law_913 : decode cL_law 913 = .ok (.iadd, 1) := by decide +kernel
theorem dL_law_914 : decode cL_law 914 = .ok (.iaload, 1) := by decide +kernel
theorem dL_law_915 : decode cL_law 915 = .ok (.invokevirtual 118, 3) := by decide +kernel
theorem dL_law_918 : decode cL_law 918 = .ok (.lcmp, 1) := by decide +kernel
theorem dL_law_919 : decode cL_law 919 = .ok (.ifCond .eq 108, 3) := by decide +kernel
theorem dL_law_922 : decode cL_law 922 = .ok (.iconst 0, 1) := by decide +kernel
theorem dL_law_923 : decode cL_law 923 = .ok (.ireturn, 1) := by decide +kernel
theorem dL_law_924 : decode cL_law 924 = .ok (.aload_n 1, 1) := by decide +kernel
theorem dL_law_925 : decode cL_law 925 = .ok (.invokevirtual 119, 3) := by decide +kernel
theorem dL_law_928 : decode cL_law 928 = .ok (.aload_n 2, 1) := by decide +kernel
theorem dL_law_929 : decode cL_law 929 = .ok (.invokevirtual 122, 3) := by decide +kernel
theorem dL_law_932 : decode cL_law 932 = .ok (.if_icmp .eq 95, 3) := by decide +kernel
theorem dL_law_935 : decode cL_law 935 = .ok (.iconst 0, 1) := by decide +kernel
theorem dL_law_936 : decode cL_law 936 = .ok (.ireturn, 1) := by decide +kernel
theorem dL_law_937 : decode cL_law 937 = .ok (.aload_n 1, 1) := by decide +kernel
theorem dL_law_938 : decode cL_law 938 = .ok (.aload_n 0, 1) := by decide +kernel
theorem dL_law_939 : decode cL_law 939 = .ok (.iload_n 3, 1) := by decide +kernel
theorem dL_law_940 : decode cL_law 940 = .ok (.iconst 1, 1) := by decide +kernel
theorem dL_law_941 : decode cL_law 941 = .ok (.iadd, 1) := by decide +kernel
theorem dL_law_942 : decode cL_law 942 = .ok (.iaload, 1) := by decide +kernel
theorem dL_law_943 : decode cL_law 943 = .ok (.aload_n 0, 1) := by decide +kernel
theorem dL_law_944 : decode cL_law 944 = .ok (.iload_n 3, 1) := by decide +kernel
theorem dL_law_945 : decode cL_law 945 = .ok (.iconst 2, 1) := by decide +kernel
theorem dL_law_946 : decode cL_law 946 = .ok (.iadd, 1) := by decide +kernel
theorem dL_law_947 : decode cL_law 947 = .ok (.iaload, 1) := by decide +kernel
theorem dL_law_948 : decode cL_law 948 = .ok (.invokevirtual 123, 3) := by decide +kernel
theorem dL_law_951 : decode cL_law 951 = .ok (.aload_n 2, 1) := by decide +kernel
theorem dL_law_952 : decode cL_law 952 = .ok (.aload_n 0, 1) := by decide +kernel
theorem dL_law_953 : decode cL_law 953 = .ok (.iload_n 3, 1) := by decide +kernel
theorem dL_law_954 : decode cL_law 954 = .ok (.iconst 1, 1) := by decide +kernel
theorem dL_law_955 : decode cL_law 955 = .ok (.iadd, 1) := by decide +kernel
theorem dL_law_956 : decode cL_law 956 = .ok (.iaload, 1) := by decide +kernel
theorem dL_law_957 : decode cL_law 957 = .ok (.aload_n 0, 1) := by decide +kernel
theorem dL_law_958 : decode cL_law 958 = .ok (.iload_n 3, 1) := by decide +kernel
theorem dL_law_959 : decode cL_law 959 = .ok (.iconst 2, 1) := by decide +kernel
theorem dL_law_960 : decode cL_law 960 = .ok (.iadd, 1) := by decide +kernel
theorem dL_law_961 : decode cL_law 961 = .ok (.iaload, 1) := by decide +kernel
theorem dL_law_962 : decode cL_law 962 = .ok (.invokevirtual 126, 3) := by decide +kernel
theorem dL_law_965 : decode cL_law 965 = .ok (.if_icmp .eq 62, 3) := by decide +kernel
theorem dL_law_968 : decode cL_law 968 = .ok (.iconst 0, 1) := by decide +kernel
theorem dL_law_969 : decode cL_law 969 = .ok (.ireturn, 1) := by decide +kernel
theorem dL_law_970 : decode cL_law 970 = .ok (.aload_n 1, 1) := by decide +kernel
theorem dL_law_971 : decode cL_law 971 = .ok (.aload_n 0, 1) := by decide +kernel
theorem dL_law_972 : decode cL_law 972 = .ok (.iload_n 3, 1) := by decide +kernel
theorem dL_law_973 : decode cL_law 973 = .ok (.iconst 1, 1) := by decide +kernel
theorem dL_law_974 : decode cL_law 974 = .ok (.iadd, 1) := by decide +kernel
theorem dL_law_975 : decode cL_law 975 = .ok (.iaload, 1) := by decide +kernel
theorem dL_law_976 : decode cL_law 976 = .ok (.aload_n 0, 1) := by decide +kernel
theorem dL_law_977 : decode cL_law 977 = .ok (.iload_n 3, 1) := by decide +kernel
theorem dL_law_978 : decode cL_law 978 = .ok (.iconst 2, 1) := by decide +kernel
theorem dL_law_979 : decode cL_law 979 = .ok (.iadd, 1) := by decide +kernel
theorem dL_law_980 : decode cL_law 980 = .ok (.iaload, 1) := by decide +kernel
theorem dL_law_981 : decode cL_law 981 = .ok (.invokevirtual 127, 3) := by decide +kernel
theorem dL_law_984 : decode cL_law 984 = .ok (.aload_n 2, 1) := by decide +kernel
theorem dL_law_985 : decode cL_law 985 = .ok (.aload_n 0, 1) := by decide +kernel
theorem dL_law_986 : decode cL_law 986 = .ok (.iload_n 3, 1) := by decide +kernel
theorem dL_law_987 : decode cL_law 987 = .ok (.iconst 1, 1) := by decide +kernel
theorem dL_law_988 : decode cL_law 988 = .ok (.iadd, 1) := by decide +kernel
theorem dL_law_989 : decode cL_law 989 = .ok (.iaload, 1) := by decide +kernel
theorem dL_law_990 : decode cL_law 990 = .ok (.aload_n 0, 1) := by decide +kernel
theorem dL_law_991 : decode cL_law 991 = .ok (.iload_n 3, 1) := by decide +kernel
theorem dL_law_992 : decode cL_law 992 = .ok (.iconst 2, 1) := by decide +kernel
theorem dL_law_993 : decode cL_law 993 = .ok (.iadd, 1) := by decide +kernel
theorem dL_law_994 : decode cL_law 994 = .ok (.iaload, 1) := by decide +kernel
theorem dL_law_995 : decode cL_law 995 = .ok (.invokevirtual 130, 3) := by decide +kernel
theorem dL_law_998 : decode cL_law 998 = .ok (.lcmp, 1) := by decide +kernel
theorem dL_law_999 : decode cL_law 999 = .ok (.ifCond .eq 28, 3) := by decide +kernel
theorem dL_law_1002 : decode cL_law 1002 = .ok (.iconst 0, 1) := by decide +kernel
theorem dL_law_1003 : decode cL_law 1003 = .ok (.ireturn, 1) := by decide +kernel
theorem dL_law_1004 : decode cL_law 1004 = .ok (.aload_n 1, 1) := by decide +kernel
theorem dL_law_1005 : decode cL_law 1005 = .ok (.aload_n 0, 1) := by decide +kernel
theorem dL_law_1006 : decode cL_law 1006 = .ok (.iload_n 3, 1) := by decide +kernel
theorem dL_law_1007 : decode cL_law 1007 = .ok (.iconst 1, 1) := by decide +kernel
theorem dL_law_1008 : decode cL_law 1008 = .ok (.iadd, 1) := by decide +kernel
theorem dL_law_1009 : decode cL_law 1009 = .ok (.iaload, 1) := by decide +kernel
theorem dL_law_1010 : decode cL_law 1010 = .ok (.invokevirtual 131, 3) := by decide +kernel
theorem dL_law_1013 : decode cL_law 1013 = .ok (.aload_n 2, 1) := by decide +kernel
theorem dL_law_1014 : decode cL_law 1014 = .ok (.aload_n 0, 1) := by decide +kernel
theorem dL_law_1015 : decode cL_law 1015 = .ok (.iload_n 3, 1) := by decide +kernel
theorem dL_law_1016 : decode cL_law 1016 = .ok (.iconst 1, 1) := by decide +kernel
theorem dL_law_1017 : decode cL_law 1017 = .ok (.iadd, 1) := by decide +kernel
theorem dL_law_1018 : decode cL_law 1018 = .ok (.iaload, 1) := by decide +kernel
theorem dL_law_1019 : decode cL_law 1019 = .ok (.invokevirtual 134, 3) := by decide +kernel
theorem dL_law_1022 : decode cL_law 1022 = .ok (.if_icmp .eq 5, 3) := by decide +kernel
theorem dL_law_1025 : decode cL_law 1025 = .ok (.iconst 0, 1) := by decide +kernel
theorem dL_law_1026 : decode cL_law 1026 = .ok (.ireturn, 1) := by decide +kernel
theorem dL_law_1027 : decode cL_law 1027 = .ok (.iinc 3 4, 3) := by decide +kernel
theorem dL_law_1030 : decode cL_law 1030 = .ok (.goto (-1012), 3) := by decide +kernel
theorem dL_law_1033 : decode cL_law 1033 = .ok (.iconst 1, 1) := by decide +kernel
theorem dL_law_1034 : decode cL_law 1034 = .ok (.ireturn, 1) := by decide +kernel
end
section
def TT : List Cond := lw_tbl.filter goodWord
theorem TT_in {w : Cond} (i : Nat) (h : lw_tbl[i]? = some w) (g : goodWord w = true) : w ∈ TT := List.mem_filter.mpr ⟨List.mem_of_getElem? h, g⟩
theorem TT_good {w : Cond} (h : w ∈ TT) : (w.onTables && w.keeps) = true ∨ ∃ ty, w = .arrayClass ty := good_of_word (List.mem_filter.mp h).2
theorem TT_tbl {w : Cond} (h : w ∈ TT) : w ∈ lw_tbl := (List.mem_filter.mp h).1
theorem ks_X3_isKnown : (.selects RX3 yX3_isKnown yX3_isKnown : Cond) ∈ TT := TT_in 0 (by decide +kernel) rfl
theorem ks_X3_openUnit : (.selects RX3 yX3_openUnit yX3_openUnit : Cond) ∈ TT := TT_in 1 (by decide +kernel) rfl
theorem ks_X3_fillUnit : (.selects RX3 yX3_fillUnit yX3_fillUnit : Cond) ∈ TT := TT_in 2 (by decide +kernel) rfl
theorem ks_X3_partUnit : (.selects RX3 yX3_partUnit yX3_partUnit : Cond) ∈ TT := TT_in 3 (by decide +kernel) rfl
theorem ks_X3_isPaired : (.selects RX3 yX3_isPaired yX3_isPaired : Cond) ∈ TT := TT_in 4 (by decide +kernel) rfl
theorem ks_X3_owedNow : (.selects RX3 yX3_owedNow yX3_owedNow : Cond) ∈ TT := TT_in 5 (by decide +kernel) rfl
theorem ks_X3_owedIf : (.selects RX3 yX3_owedIf yX3_owedIf : Cond) ∈ TT := TT_in 6 (by decide +kernel) rfl
theorem ks_X3_openBroke : (.selects RX3 yX3_openBroke yX3_openBroke : Cond) ∈ TT := TT_in 7 (by decide +kernel) rfl
theorem ks_X3_blameDown : (.selects RX3 yX3_blameDown yX3_blameDown : Cond) ∈ TT := TT_in 8 (by decide +kernel) rfl
theorem ks_X3_blame : (.selects RX3 yX3_blame yX3_blame : Cond) ∈ TT := TT_in 9 (by decide +kernel) rfl
theorem ks_X3_entitledUp : (.selects RX3 yX3_entitledUp yX3_entitledUp : Cond) ∈ TT := TT_in 10 (by decide +kernel) rfl
theorem ks_X3_creditsUp : (.selects RX3 yX3_creditsUp yX3_creditsUp : Cond) ∈ TT := TT_in 11 (by decide +kernel) rfl
theorem ks_X3_unitHeads : (.selects RX3 yX3_unitHeads yX3_unitHeads : Cond) ∈ TT := TT_in 12 (by decide +kernel) rfl
theorem ks_X3_creditUp : (.selects RX3 yX3_creditUp yX3_creditUp : Cond) ∈ TT := TT_in 13 (by decide +kernel) rfl
theorem ks_X3_unitBears : (.selects RX3 yX3_unitBears yX3_unitBears : Cond) ∈ TT := TT_in 14 (by decide +kernel) rfl
theorem ks_X3_bears : (.selects RX3 yX3_bears yX3_bears : Cond) ∈ TT := TT_in 15 (by decide +kernel) rfl
theorem ks_X3_gotBy : (.selects RX3 yX3_gotBy yX3_gotBy : Cond) ∈ TT := TT_in 16 (by decide +kernel) rfl
theorem ks_X3_allPaid : (.selects RX3 yX3_allPaid yX3_allPaid : Cond) ∈ TT := TT_in 17 (by decide +kernel) rfl
theorem ks_X3_fairUp : (.selects RX3 yX3_fairUp yX3_fairUp : Cond) ∈ TT := TT_in 18 (by decide +kernel) rfl
theorem ks_X3_overUp : (.selects RX3 yX3_overUp yX3_overUp : Cond) ∈ TT := TT_in 19 (by decide +kernel) rfl
theorem ks_X3_evenOut : (.selects RX3 yX3_evenOut yX3_evenOut : Cond) ∈ TT := TT_in 20 (by decide +kernel) rfl
theorem ks_X0_give : (.selects RX0 yX0_give yX0_give : Cond) ∈ TT := TT_in 21 (by decide +kernel) rfl
theorem ks_X4_clears : (.selects RX4 yX4_clears yX4_clears : Cond) ∈ TT := TT_in 22 (by decide +kernel) rfl
theorem ks_X4_manyIn : (.selects RX4 yX4_manyIn yX4_manyIn : Cond) ∈ TT := TT_in 23 (by decide +kernel) rfl
theorem ks_X4_isThere : (.selects RX4 yX4_isThere yX4_isThere : Cond) ∈ TT := TT_in 24 (by decide +kernel) rfl
theorem ks_X4_settles : (.selects RX4 yX4_settles yX4_settles : Cond) ∈ TT := TT_in 25 (by decide +kernel) rfl
theorem ks_X4_findDues : (.selects RX4 yX4_findDues yX4_findDues : Cond) ∈ TT := TT_in 26 (by decide +kernel) rfl
theorem ks_X4_findRest : (.selects RX4 yX4_findRest yX4_findRest : Cond) ∈ TT := TT_in 27 (by decide +kernel) rfl
theorem ks_X4_findEntitled : (.selects RX4 yX4_findEntitled yX4_findEntitled : Cond) ∈ TT := TT_in 28 (by decide +kernel) rfl
theorem ks_X4_blame : (.selects RX4 yX4_blame yX4_blame : Cond) ∈ TT := TT_in 29 (by decide +kernel) rfl
theorem ks_X4_makes : (.selects RX4 yX4_makes yX4_makes : Cond) ∈ TT := TT_in 30 (by decide +kernel) rfl
theorem ks_X4_keeps : (.selects RX4 yX4_keeps yX4_keeps : Cond) ∈ TT := TT_in 31 (by decide +kernel) rfl
theorem ks_X4_isUnit : (.selects RX4 yX4_isUnit yX4_isUnit : Cond) ∈ TT := TT_in 32 (by decide +kernel) rfl
theorem ks_X4_findCredit : (.selects RX4 yX4_findCredit yX4_findCredit : Cond) ∈ TT := TT_in 33 (by decide +kernel) rfl
theorem ks_X4_unitWeight : (.selects RX4 yX4_unitWeight yX4_unitWeight : Cond) ∈ TT := TT_in 34 (by decide +kernel) rfl
theorem ks_X4_adds : (.selects RX4 yX4_adds yX4_adds : Cond) ∈ TT := TT_in 35 (by decide +kernel) rfl
theorem ks_X4_openWeight : (.selects RX4 yX4_openWeight yX4_openWeight : Cond) ∈ TT := TT_in 36 (by decide +kernel) rfl
theorem ks_X4_isUnitBroke : (.selects RX4 yX4_isUnitBroke yX4_isUnitBroke : Cond) ∈ TT := TT_in 37 (by decide +kernel) rfl
theorem ks_X4_findUnit : (.selects RX4 yX4_findUnit yX4_findUnit : Cond) ∈ TT := TT_in 38 (by decide +kernel) rfl
theorem ks_X4_multiplies : (.selects RX4 yX4_multiplies yX4_multiplies : Cond) ∈ TT := TT_in 39 (by decide +kernel) rfl
theorem ks_X4_unitOf : (.selects RX4 yX4_unitOf yX4_unitOf : Cond) ∈ TT := TT_in 40 (by decide +kernel) rfl
theorem ks_X4_told : (.selects RX4 yX4_told yX4_told : Cond) ∈ TT := TT_in 41 (by decide +kernel) rfl
theorem ks_X4_findDue : (.selects RX4 yX4_findDue yX4_findDue : Cond) ∈ TT := TT_in 42 (by decide +kernel) rfl
theorem ks_X4_findGetsBy : (.selects RX4 yX4_findGetsBy yX4_findGetsBy : Cond) ∈ TT := TT_in 43 (by decide +kernel) rfl
theorem ks_X4_findGets : (.selects RX4 yX4_findGets yX4_findGets : Cond) ∈ TT := TT_in 44 (by decide +kernel) rfl
theorem ks_X4_paidAll : (.selects RX4 yX4_paidAll yX4_paidAll : Cond) ∈ TT := TT_in 45 (by decide +kernel) rfl
theorem ks_X4_findFair : (.selects RX4 yX4_findFair yX4_findFair : Cond) ∈ TT := TT_in 46 (by decide +kernel) rfl
theorem ks_X4_findOver : (.selects RX4 yX4_findOver yX4_findOver : Cond) ∈ TT := TT_in 47 (by decide +kernel) rfl
theorem ks_X4_findTransfers : (.selects RX4 yX4_findTransfers yX4_findTransfers : Cond) ∈ TT := TT_in 48 (by decide +kernel) rfl
theorem ks_X4_firstWith : (.selects RX4 yX4_firstWith yX4_firstWith : Cond) ∈ TT := TT_in 49 (by decide +kernel) rfl
theorem ks_X4_goesOver : (.selects RX4 yX4_goesOver yX4_goesOver : Cond) ∈ TT := TT_in 50 (by decide +kernel) rfl
theorem ks_X4_manyUnits : (.selects RX4 yX4_manyUnits yX4_manyUnits : Cond) ∈ TT := TT_in 51 (by decide +kernel) rfl
theorem kn_L : (.initialized RL : Cond) ∈ TT := TT_in 52 (by decide +kernel) rfl
theorem kn_X3 : (.initialized RX3 : Cond) ∈ TT := TT_in 53 (by decide +kernel) rfl
theorem kn_X0 : (.initialized RX0 : Cond) ∈ TT := TT_in 54 (by decide +kernel) rfl
theorem kn_X4 : (.initialized RX4 : Cond) ∈ TT := TT_in 55 (by decide +kernel) rfl
theorem kn_J6 : (.initialized "java/lang/Integer" : Cond) ∈ TT := TT_in 56 (by decide +kernel) rfl
theorem kn_J9 : (.initialized "java/lang/Math" : Cond) ∈ TT := TT_in 57 (by decide +kernel) rfl
theorem kn_X1 : (.initialized RX1 : Cond) ∈ TT := TT_in 58 (by decide +kernel) rfl
theorem kn_X2 : (.initialized RX2 : Cond) ∈ TT := TT_in 59 (by decide +kernel) rfl
theorem kcl_L_7 : (.classLink RL 7 RX3 : Cond) ∈ TT := TT_in 60 (by decide +kernel) rfl
theorem kin_X3 : (.instantiable RX3 11 : Cond) ∈ TT := TT_in 61 (by decide +kernel) rfl
theorem km_L_9 : (.methodLink RL 9 yX3_init : Cond) ∈ TT := TT_in 62 (by decide +kernel) rfl
theorem ki_X3_init : (.instanceMethod yX3_init : Cond) ∈ TT := TT_in 63 (by decide +kernel) rfl
set_option maxRecDepth 20000 in
theorem kc_X3_init : (.code yX3_init cX3_init 1 none : Cond) ∈ TT := TT_in 64 rfl rfl
theorem km_X3_3 : (.methodLink RX3 3 objectInit : Cond) ∈ TT := TT_in 65 (by decide +kernel) rfl
theorem ki_obj : (.instanceMethod objectInit : Cond) ∈ TT := TT_in 66 (by decide +kernel) rfl
set_option maxRecDepth 20000 in
theorem kc_obj : (.code objectInit ⟨#[0xb1]⟩ 1 none : Cond) ∈ TT := TT_in 67 rfl rfl
theorem kcl_X3_27 : (.classLink RX3 27 RX0 : Cond) ∈ TT := TT_in 68 (by decide +kernel) rfl
theorem kin_X0 : (.instantiable RX0 5 : Cond) ∈ TT := TT_in 69 (by decide +kernel) rfl
theorem kmn_X3_29 : (.methodLinkNest RX3 29 yX0_init RX3 : Cond) ∈ lw_tbl := List.mem_of_getElem? (i := 70) (by decide +kernel)
theorem ki_X0_init : (.instanceMethod yX0_init : Cond) ∈ TT := TT_in 71 (by decide +kernel) rfl
set_option maxRecDepth 20000 in
theorem kc_X0_init : (.code yX0_init cX0_init 1 none : Cond) ∈ TT := TT_in 72 rfl rfl
theorem km_X0_3 : (.methodLink RX0 3 objectInit : Cond) ∈ TT := TT_in 73 (by decide +kernel) rfl
theorem kf_X0_9 : (.fieldLink RX0 9 "SharedFault$Flow" "overs" "[J" : Cond) ∈ TT := TT_in 74 (by decide +kernel) rfl
theorem kf_X3_231 : (.fieldLink RX3 231 "SharedFault$Flow" "overs" "[J" : Cond) ∈ TT := TT_in 75 (by decide +kernel) rfl
theorem kf_X0_15 : (.fieldLink RX0 15 "SharedFault$Flow" "givers" "[I" : Cond) ∈ TT := TT_in 76 (by decide +kernel) rfl
theorem kf_X3_194 : (.fieldLink RX3 194 "SharedFault$Flow" "givers" "[I" : Cond) ∈ TT := TT_in 77 (by decide +kernel) rfl
theorem kf_X0_19 : (.fieldLink RX0 19 "SharedFault$Flow" "takers" "[I" : Cond) ∈ TT := TT_in 78 (by decide +kernel) rfl
theorem kf_X3_197 : (.fieldLink RX3 197 "SharedFault$Flow" "takers" "[I" : Cond) ∈ TT := TT_in 79 (by decide +kernel) rfl
theorem kf_X0_22 : (.fieldLink RX0 22 "SharedFault$Flow" "gifts" "[J" : Cond) ∈ TT := TT_in 80 (by decide +kernel) rfl
theorem kf_X3_200 : (.fieldLink RX3 200 "SharedFault$Flow" "gifts" "[J" : Cond) ∈ TT := TT_in 81 (by decide +kernel) rfl
theorem kf_X0_25 : (.fieldLink RX0 25 "SharedFault$Flow" "count" "I" : Cond) ∈ TT := TT_in 82 (by decide +kernel) rfl
theorem kf_X3_188 : (.fieldLink RX3 188 "SharedFault$Flow" "count" "I" : Cond) ∈ TT := TT_in 83 (by decide +kernel) rfl
theorem ka_int : (.arrayClass .int : Cond) ∈ TT := TT_in 95 (by decide +kernel) rfl
theorem ka_long : (.arrayClass .long : Cond) ∈ TT := TT_in 96 (by decide +kernel) rfl
theorem kf_X3_39 : (.fieldLink RX3 39 "SharedFault" "lossNow" "I" : Cond) ∈ TT := TT_in 97 (by decide +kernel) rfl
theorem kf_X3_43 : (.fieldLink RX3 43 "SharedFault" "claimantWeight" "I" : Cond) ∈ TT := TT_in 98 (by decide +kernel) rfl
theorem kf_X3_9 : (.fieldLink RX3 9 "SharedFault" "settings" "[I" : Cond) ∈ TT := TT_in 99 (by decide +kernel) rfl
theorem kf_X3_46 : (.fieldLink RX3 46 "SharedFault" "inCase" "I" : Cond) ∈ TT := TT_in 100 (by decide +kernel) rfl
theorem kf_X3_68 : (.fieldLink RX3 68 "SharedFault" "brokeSet" "I" : Cond) ∈ TT := TT_in 101 (by decide +kernel) rfl
theorem kf_X3_79 : (.fieldLink RX3 79 "SharedFault" "settledSet" "I" : Cond) ∈ TT := TT_in 102 (by decide +kernel) rfl
theorem kf_X3_15 : (.fieldLink RX3 15 "SharedFault" "weights" "[I" : Cond) ∈ TT := TT_in 103 (by decide +kernel) rfl
theorem kf_X3_18 : (.fieldLink RX3 18 "SharedFault" "units" "[I" : Cond) ∈ TT := TT_in 104 (by decide +kernel) rfl
theorem kf_X3_21 : (.fieldLink RX3 21 "SharedFault" "settledFor" "[I" : Cond) ∈ TT := TT_in 105 (by decide +kernel) rfl
theorem kf_X3_24 : (.fieldLink RX3 24 "SharedFault" "paid" "[I" : Cond) ∈ TT := TT_in 106 (by decide +kernel) rfl
theorem kf_X3_30 : (.fieldLink RX3 30 "SharedFault" "flow" "LSharedFault$Flow;" : Cond) ∈ TT := TT_in 107 (by decide +kernel) rfl
theorem km_L_13 : (.methodLink RL 13 yX3_loss : Cond) ∈ TT := TT_in 131 (by decide +kernel) rfl
theorem ki_X3_loss : (.instanceMethod yX3_loss : Cond) ∈ TT := TT_in 132 (by decide +kernel) rfl
theorem ks_X3_loss : (.selects RX3 yX3_loss yX3_loss : Cond) ∈ TT := TT_in 133 (by decide +kernel) rfl
set_option maxRecDepth 20000 in
theorem kc_X3_loss : (.code yX3_loss cX3_loss 3 (some .int) : Cond) ∈ TT := TT_in 134 rfl rfl
theorem kk_X3_34 : (.constant RX3 34 (1000000 : Int32) : Cond) ∈ TT := TT_in 135 (by decide +kernel) rfl
theorem km_X3_35 : (.methodLink RX3 35 yX3_isOutside : Cond) ∈ TT := TT_in 136 (by decide +kernel) rfl
theorem kt_X3_isOutside : (.static yX3_isOutside : Cond) ∈ TT := TT_in 137 (by decide +kernel) rfl
set_option maxRecDepth 20000 in
theorem kc_X3_isOutside : (.code yX3_isOutside cX3_isOutside 3 (some .boolean) : Cond) ∈ TT := TT_in 138 rfl rfl
theorem km_L_18 : (.methodLink RL 18 yX3_claimant : Cond) ∈ TT := TT_in 139 (by decide +kernel) rfl
theorem ki_X3_claimant : (.instanceMethod yX3_claimant : Cond) ∈ TT := TT_in 140 (by decide +kernel) rfl
theorem ks_X3_claimant : (.selects RX3 yX3_claimant yX3_claimant : Cond) ∈ TT := TT_in 141 (by decide +kernel) rfl
set_option maxRecDepth 20000 in
theorem kc_X3_claimant : (.code yX3_claimant cX3_claimant 3 (some .int) : Cond) ∈ TT := TT_in 142 rfl rfl
theorem km_L_22 : (.methodLink RL 22 yX3_wrong : Cond) ∈ TT := TT_in 143 (by decide +kernel) rfl
theorem ki_X3_wrong : (.instanceMethod yX3_wrong : Cond) ∈ TT := TT_in 144 (by decide +kernel) rfl
theorem ks_X3_wrong : (.selects RX3 yX3_wrong yX3_wrong : Cond) ∈ TT := TT_in 145 (by decide +kernel) rfl
set_option maxRecDepth 20000 in
theorem kc_X3_wrong : (.code yX3_wrong cX3_wrong 3 (some .int) : Cond) ∈ TT := TT_in 146 rfl rfl
theorem km_X3_49 : (.methodLink RX3 49 yX3_has : Cond) ∈ TT := TT_in 147 (by decide +kernel) rfl
theorem kt_X3_has : (.static yX3_has : Cond) ∈ TT := TT_in 148 (by decide +kernel) rfl
set_option maxRecDepth 20000 in
theorem kc_X3_has : (.code yX3_has cX3_has 2 (some .boolean) : Cond) ∈ TT := TT_in 149 rfl rfl
theorem km_X3_53 : (.methodLink RX3 53 yX3_bit : Cond) ∈ TT := TT_in 150 (by decide +kernel) rfl
theorem kt_X3_bit : (.static yX3_bit : Cond) ∈ TT := TT_in 151 (by decide +kernel) rfl
set_option maxRecDepth 20000 in
theorem kc_X3_bit : (.code yX3_bit cX3_bit 1 (some .int) : Cond) ∈ TT := TT_in 152 rfl rfl
theorem km_L_26 : (.methodLink RL 26 yX3_leave : Cond) ∈ TT := TT_in 153 (by decide +kernel) rfl
theorem ki_X3_leave : (.instanceMethod yX3_leave : Cond) ∈ TT := TT_in 154 (by decide +kernel) rfl
theorem ks_X3_leave : (.selects RX3 yX3_leave yX3_leave : Cond) ∈ TT := TT_in 155 (by decide +kernel) rfl
set_option maxRecDepth 20000 in
theorem kc_X3_leave : (.code yX3_leave cX3_leave 2 (some .int) : Cond) ∈ TT := TT_in 156 rfl rfl
theorem km_X3_57 : (.methodLink RX3 57 yX3_isKnown : Cond) ∈ TT := TT_in 157 (by decide +kernel) rfl
theorem ki_X3_isKnown : (.instanceMethod yX3_isKnown : Cond) ∈ TT := TT_in 159 (by decide +kernel) rfl
set_option maxRecDepth 20000 in
theorem kc_X3_isKnown : (.code yX3_isKnown cX3_isKnown 2 (some .boolean) : Cond) ∈ TT := TT_in 160 rfl rfl
theorem km_X3_61 : (.methodLink RX3 61 yX3_openUnit : Cond) ∈ TT := TT_in 161 (by decide +kernel) rfl
theorem ki_X3_openUnit : (.instanceMethod yX3_openUnit : Cond) ∈ TT := TT_in 163 (by decide +kernel) rfl
set_option maxRecDepth 20000 in
theorem kc_X3_openUnit : (.code yX3_openUnit cX3_openUnit 2 none : Cond) ∈ TT := TT_in 164 rfl rfl
theorem km_X3_86 : (.methodLink RX3 86 yX3_fillUnit : Cond) ∈ TT := TT_in 165 (by decide +kernel) rfl
theorem ki_X3_fillUnit : (.instanceMethod yX3_fillUnit : Cond) ∈ TT := TT_in 167 (by decide +kernel) rfl
set_option maxRecDepth 20000 in
theorem kc_X3_fillUnit : (.code yX3_fillUnit cX3_fillUnit 5 none : Cond) ∈ TT := TT_in 168 rfl rfl
theorem km_X3_65 : (.methodLink RX3 65 yX3_partUnit : Cond) ∈ TT := TT_in 169 (by decide +kernel) rfl
theorem ki_X3_partUnit : (.instanceMethod yX3_partUnit : Cond) ∈ TT := TT_in 171 (by decide +kernel) rfl
set_option maxRecDepth 20000 in
theorem kc_X3_partUnit : (.code yX3_partUnit cX3_partUnit 4 none : Cond) ∈ TT := TT_in 172 rfl rfl
theorem km_X3_71 : (.methodLink RX3 71 yJ6_bitCount_0f7a4 : Cond) ∈ TT := TT_in 173 (by decide +kernel) rfl
theorem kt_J6_bitCount_0f7a4 : (.static yJ6_bitCount_0f7a4 : Cond) ∈ TT := TT_in 174 (by decide +kernel) rfl
set_option maxRecDepth 20000 in
theorem kc_J6_bitCount_0f7a4 : (.code yJ6_bitCount_0f7a4 cJ6_bitCount_0f7a4 1 (some .int) : Cond) ∈ TT := TT_in 175 rfl rfl
theorem kk_J6_265 : (.constant RJ6 265 (1431655765 : Int32) : Cond) ∈ TT := TT_in 176 (by decide +kernel) rfl
theorem kk_J6_266 : (.constant RJ6 266 (858993459 : Int32) : Cond) ∈ TT := TT_in 177 (by decide +kernel) rfl
theorem kk_J6_267 : (.constant RJ6 267 (252645135 : Int32) : Cond) ∈ TT := TT_in 178 (by decide +kernel) rfl
theorem km_L_30 : (.methodLink RL 30 yX3_weight : Cond) ∈ TT := TT_in 179 (by decide +kernel) rfl
theorem ki_X3_weight : (.instanceMethod yX3_weight : Cond) ∈ TT := TT_in 180 (by decide +kernel) rfl
theorem ks_X3_weight : (.selects RX3 yX3_weight yX3_weight : Cond) ∈ TT := TT_in 181 (by decide +kernel) rfl
set_option maxRecDepth 20000 in
theorem kc_X3_weight : (.code yX3_weight cX3_weight 4 (some .int) : Cond) ∈ TT := TT_in 182 rfl rfl
theorem km_L_35 : (.methodLink RL 35 yX3_broke : Cond) ∈ TT := TT_in 183 (by decide +kernel) rfl
theorem ki_X3_broke : (.instanceMethod yX3_broke : Cond) ∈ TT := TT_in 184 (by decide +kernel) rfl
theorem ks_X3_broke : (.selects RX3 yX3_broke yX3_broke : Cond) ∈ TT := TT_in 185 (by decide +kernel) rfl
set_option maxRecDepth 20000 in
theorem kc_X3_broke : (.code yX3_broke cX3_broke 3 (some .int) : Cond) ∈ TT := TT_in 186 rfl rfl
theorem km_L_40 : (.methodLink RL 40 yX3_pair : Cond) ∈ TT := TT_in 187 (by decide +kernel) rfl
theorem ki_X3_pair : (.instanceMethod yX3_pair : Cond) ∈ TT := TT_in 188 (by decide +kernel) rfl
theorem ks_X3_pair : (.selects RX3 yX3_pair yX3_pair : Cond) ∈ TT := TT_in 189 (by decide +kernel) rfl
set_option maxRecDepth 20000 in
theorem kc_X3_pair : (.code yX3_pair cX3_pair 3 (some .int) : Cond) ∈ TT := TT_in 190 rfl rfl
theorem km_X3_76 : (.methodLink RX3 76 yX3_isPaired : Cond) ∈ TT := TT_in 191 (by decide +kernel) rfl
theorem ki_X3_isPaired : (.instanceMethod yX3_isPaired : Cond) ∈ TT := TT_in 193 (by decide +kernel) rfl
set_option maxRecDepth 20000 in
theorem kc_X3_isPaired : (.code yX3_isPaired cX3_isPaired 2 (some .boolean) : Cond) ∈ TT := TT_in 194 rfl rfl
theorem km_L_44 : (.methodLink RL 44 yX3_part : Cond) ∈ TT := TT_in 195 (by decide +kernel) rfl
theorem ki_X3_part : (.instanceMethod yX3_part : Cond) ∈ TT := TT_in 196 (by decide +kernel) rfl
theorem ks_X3_part : (.selects RX3 yX3_part yX3_part : Cond) ∈ TT := TT_in 197 (by decide +kernel) rfl
set_option maxRecDepth 20000 in
theorem kc_X3_part : (.code yX3_part cX3_part 2 (some .int) : Cond) ∈ TT := TT_in 198 rfl rfl
theorem km_L_48 : (.methodLink RL 48 yX3_settle : Cond) ∈ TT := TT_in 199 (by decide +kernel) rfl
theorem ki_X3_settle : (.instanceMethod yX3_settle : Cond) ∈ TT := TT_in 200 (by decide +kernel) rfl
theorem ks_X3_settle : (.selects RX3 yX3_settle yX3_settle : Cond) ∈ TT := TT_in 201 (by decide +kernel) rfl
set_option maxRecDepth 20000 in
theorem kc_X3_settle : (.code yX3_settle cX3_settle 3 (some .int) : Cond) ∈ TT := TT_in 202 rfl rfl
theorem km_X3_82 : (.methodLink RX3 82 yX3_sumOver : Cond) ∈ TT := TT_in 203 (by decide +kernel) rfl
theorem kt_X3_sumOver : (.static yX3_sumOver : Cond) ∈ TT := TT_in 204 (by decide +kernel) rfl
set_option maxRecDepth 20000 in
theorem kc_X3_sumOver : (.code yX3_sumOver cX3_sumOver 4 (some .int) : Cond) ∈ TT := TT_in 205 rfl rfl
theorem km_L_52 : (.methodLink RL 52 yX3_reopen : Cond) ∈ TT := TT_in 206 (by decide +kernel) rfl
theorem ki_X3_reopen : (.instanceMethod yX3_reopen : Cond) ∈ TT := TT_in 207 (by decide +kernel) rfl
theorem ks_X3_reopen : (.selects RX3 yX3_reopen yX3_reopen : Cond) ∈ TT := TT_in 208 (by decide +kernel) rfl
set_option maxRecDepth 20000 in
theorem kc_X3_reopen : (.code yX3_reopen cX3_reopen 3 (some .int) : Cond) ∈ TT := TT_in 209 rfl rfl
theorem km_L_56 : (.methodLink RL 56 yX3_setting : Cond) ∈ TT := TT_in 210 (by decide +kernel) rfl
theorem ki_X3_setting : (.instanceMethod yX3_setting : Cond) ∈ TT := TT_in 211 (by decide +kernel) rfl
theorem ks_X3_setting : (.selects RX3 yX3_setting yX3_setting : Cond) ∈ TT := TT_in 212 (by decide +kernel) rfl
set_option maxRecDepth 20000 in
theorem kc_X3_setting : (.code yX3_setting cX3_setting 4 (some .int) : Cond) ∈ TT := TT_in 213 rfl rfl
theorem kf_X3_90 : (.fieldLink RX3 90 "SharedFault" "SETTING_MOST" "[I" : Cond) ∈ TT := TT_in 214 (by decide +kernel) rfl
theorem kls : (.laysStatic "SharedFault" "SETTING_MOST" "[I" : Cond) ∈ lw_tbl := List.mem_of_getElem? (i := 215) (by decide +kernel)
theorem km_L_60 : (.methodLink RL 60 yX3_ofWrong : Cond) ∈ TT := TT_in 216 (by decide +kernel) rfl
theorem ki_X3_ofWrong : (.instanceMethod yX3_ofWrong : Cond) ∈ TT := TT_in 217 (by decide +kernel) rfl
theorem ks_X3_ofWrong : (.selects RX3 yX3_ofWrong yX3_ofWrong : Cond) ∈ TT := TT_in 218 (by decide +kernel) rfl
set_option maxRecDepth 20000 in
theorem kc_X3_ofWrong : (.code yX3_ofWrong cX3_ofWrong 3 (some .int) : Cond) ∈ TT := TT_in 219 rfl rfl
theorem km_X3_93 : (.methodLink RX3 93 yX3_firstOf : Cond) ∈ TT := TT_in 220 (by decide +kernel) rfl
theorem kt_X3_firstOf : (.static yX3_firstOf : Cond) ∈ TT := TT_in 221 (by decide +kernel) rfl
set_option maxRecDepth 20000 in
theorem kc_X3_firstOf : (.code yX3_firstOf cX3_firstOf 2 (some .int) : Cond) ∈ TT := TT_in 222 rfl rfl
theorem km_L_64 : (.methodLink RL 64 yX3_amount : Cond) ∈ TT := TT_in 223 (by decide +kernel) rfl
theorem ki_X3_amount : (.instanceMethod yX3_amount : Cond) ∈ TT := TT_in 224 (by decide +kernel) rfl
theorem ks_X3_amount : (.selects RX3 yX3_amount yX3_amount : Cond) ∈ TT := TT_in 225 (by decide +kernel) rfl
set_option maxRecDepth 20000 in
theorem kc_X3_amount : (.code yX3_amount cX3_amount 3 (some .long) : Cond) ∈ TT := TT_in 226 rfl rfl
theorem kj_X3_96 : (.constantLong RX3 96 (-9223372036854775808 : Int64) : Cond) ∈ TT := TT_in 227 (by decide +kernel) rfl
theorem km_X3_98 : (.methodLink RX3 98 yX3_owedNow : Cond) ∈ TT := TT_in 228 (by decide +kernel) rfl
theorem ki_X3_owedNow : (.instanceMethod yX3_owedNow : Cond) ∈ TT := TT_in 230 (by decide +kernel) rfl
set_option maxRecDepth 20000 in
theorem kc_X3_owedNow : (.code yX3_owedNow cX3_owedNow 1 (some (.object "SharedFault$Owed")) : Cond) ∈ TT := TT_in 231 rfl rfl
theorem km_X3_164 : (.methodLink RX3 164 yX3_owedIf : Cond) ∈ TT := TT_in 232 (by decide +kernel) rfl
theorem ki_X3_owedIf : (.instanceMethod yX3_owedIf : Cond) ∈ TT := TT_in 234 (by decide +kernel) rfl
set_option maxRecDepth 20000 in
theorem kc_X3_owedIf : (.code yX3_owedIf cX3_owedIf 9 (some (.object "SharedFault$Owed")) : Cond) ∈ TT := TT_in 235 rfl rfl
theorem km_X3_207 : (.methodLink RX3 207 yX3_openBroke : Cond) ∈ TT := TT_in 236 (by decide +kernel) rfl
theorem ki_X3_openBroke : (.instanceMethod yX3_openBroke : Cond) ∈ TT := TT_in 238 (by decide +kernel) rfl
set_option maxRecDepth 20000 in
theorem kc_X3_openBroke : (.code yX3_openBroke cX3_openBroke 5 (some .int) : Cond) ∈ TT := TT_in 239 rfl rfl
theorem km_X3_126 : (.methodLink RX3 126 yX3_blameDown : Cond) ∈ TT := TT_in 240 (by decide +kernel) rfl
theorem ki_X3_blameDown : (.instanceMethod yX3_blameDown : Cond) ∈ TT := TT_in 242 (by decide +kernel) rfl
set_option maxRecDepth 20000 in
theorem kc_X3_blameDown : (.code yX3_blameDown cX3_blameDown 1 (some .int) : Cond) ∈ TT := TT_in 243 rfl rfl
theorem km_X3_210 : (.methodLink RX3 210 yX3_blame : Cond) ∈ TT := TT_in 244 (by decide +kernel) rfl
theorem ki_X3_blame : (.instanceMethod yX3_blame : Cond) ∈ TT := TT_in 246 (by decide +kernel) rfl
set_option maxRecDepth 20000 in
theorem kc_X3_blame : (.code yX3_blame cX3_blame 1 (some .int) : Cond) ∈ TT := TT_in 247 rfl rfl
theorem km_X3_213 : (.methodLink RX3 213 Lib.Math.max.name : Cond) ∈ TT := TT_in 248 (by decide +kernel) rfl
theorem kt_max : (.static Lib.Math.max.name : Cond) ∈ TT := TT_in 249 (by decide +kernel) rfl
set_option maxRecDepth 20000 in
theorem kc_max : (.code Lib.Math.max.name Lib.Math.max.code 2 (some .int) : Cond) ∈ TT := TT_in 250 rfl rfl
theorem kcl_X3_103 : (.classLink RX3 103 RX1 : Cond) ∈ TT := TT_in 251 (by decide +kernel) rfl
theorem kin_X1 : (.instantiable RX1 7 : Cond) ∈ TT := TT_in 252 (by decide +kernel) rfl
theorem km_X3_221 : (.methodLink RX3 221 yX3_entitledUp : Cond) ∈ TT := TT_in 253 (by decide +kernel) rfl
theorem ki_X3_entitledUp : (.instanceMethod yX3_entitledUp : Cond) ∈ TT := TT_in 255 (by decide +kernel) rfl
set_option maxRecDepth 20000 in
theorem kc_X3_entitledUp : (.code yX3_entitledUp cX3_entitledUp 2 (some .long) : Cond) ∈ TT := TT_in 256 rfl rfl
theorem km_X3_225 : (.methodLink RX3 225 yX3_creditsUp : Cond) ∈ TT := TT_in 257 (by decide +kernel) rfl
theorem ki_X3_creditsUp : (.instanceMethod yX3_creditsUp : Cond) ∈ TT := TT_in 259 (by decide +kernel) rfl
set_option maxRecDepth 20000 in
theorem kc_X3_creditsUp : (.code yX3_creditsUp cX3_creditsUp 8 (some .long) : Cond) ∈ TT := TT_in 260 rfl rfl
theorem km_X3_204 : (.methodLink RX3 204 yX3_unitHeads : Cond) ∈ TT := TT_in 261 (by decide +kernel) rfl
theorem ki_X3_unitHeads : (.instanceMethod yX3_unitHeads : Cond) ∈ TT := TT_in 263 (by decide +kernel) rfl
set_option maxRecDepth 20000 in
theorem kc_X3_unitHeads : (.code yX3_unitHeads cX3_unitHeads 3 (some .int) : Cond) ∈ TT := TT_in 264 rfl rfl
theorem km_X3_130 : (.methodLink RX3 130 yX3_creditUp : Cond) ∈ TT := TT_in 265 (by decide +kernel) rfl
theorem ki_X3_creditUp : (.instanceMethod yX3_creditUp : Cond) ∈ TT := TT_in 267 (by decide +kernel) rfl
set_option maxRecDepth 20000 in
theorem kc_X3_creditUp : (.code yX3_creditUp cX3_creditUp 8 (some .long) : Cond) ∈ TT := TT_in 268 rfl rfl
theorem km_X3_218 : (.methodLink RX3 218 Lib.MathLoose.max_long.x : Cond) ∈ TT := TT_in 269 (by decide +kernel) rfl
theorem kt_maxl : (.static Lib.MathLoose.max_long.x : Cond) ∈ TT := TT_in 270 (by decide +kernel) rfl
set_option maxRecDepth 20000 in
theorem kc_maxl : (.code Lib.MathLoose.max_long.x Lib.MathLoose.max_long.code 4 (some .long) : Cond) ∈ TT := TT_in 271 rfl rfl
theorem km_X3_228 : (.methodLink RX3 228 yX1_init : Cond) ∈ TT := TT_in 272 (by decide +kernel) rfl
theorem ki_X1_init : (.instanceMethod yX1_init : Cond) ∈ TT := TT_in 273 (by decide +kernel) rfl
set_option maxRecDepth 20000 in
theorem kc_X1_init : (.code yX1_init cX1_init 12 none : Cond) ∈ TT := TT_in 274 rfl rfl
theorem km_X1_1 : (.methodLink RX1 1 objectInit : Cond) ∈ TT := TT_in 275 (by decide +kernel) rfl
theorem km_X1_7 : (.methodLink RX1 7 Lib.MathLoose.max_long.x : Cond) ∈ TT := TT_in 276 (by decide +kernel) rfl
theorem km_X1_13 : (.methodLink RX1 13 yX2_of : Cond) ∈ TT := TT_in 277 (by decide +kernel) rfl
theorem kt_X2_of : (.static yX2_of : Cond) ∈ TT := TT_in 278 (by decide +kernel) rfl
set_option maxRecDepth 20000 in
theorem kc_X2_of : (.code yX2_of cX2_of 6 (some (.object "SharedFault$Share")) : Cond) ∈ TT := TT_in 279 rfl rfl
theorem kcl_X2_8 : (.classLink RX2 8 RX2 : Cond) ∈ TT := TT_in 280 (by decide +kernel) rfl
theorem kin_X2 : (.instantiable RX2 2 : Cond) ∈ TT := TT_in 281 (by decide +kernel) rfl
theorem km_X2_16 : (.methodLink RX2 16 yX2_init : Cond) ∈ TT := TT_in 282 (by decide +kernel) rfl
theorem ki_X2_init : (.instanceMethod yX2_init : Cond) ∈ TT := TT_in 283 (by decide +kernel) rfl
set_option maxRecDepth 20000 in
theorem kc_X2_init : (.code yX2_init cX2_init 5 none : Cond) ∈ TT := TT_in 284 rfl rfl
theorem km_X2_1 : (.methodLink RX2 1 objectInit : Cond) ∈ TT := TT_in 285 (by decide +kernel) rfl
theorem kf_X2_7 : (.fieldLink RX2 7 "SharedFault$Share" "up" "J" : Cond) ∈ TT := TT_in 286 (by decide +kernel) rfl
theorem kf_X1_48 : (.fieldLink RX1 48 "SharedFault$Share" "up" "J" : Cond) ∈ TT := TT_in 287 (by decide +kernel) rfl
theorem kf_X3_160 : (.fieldLink RX3 160 "SharedFault$Share" "up" "J" : Cond) ∈ TT := TT_in 288 (by decide +kernel) rfl
theorem kf_X2_13 : (.fieldLink RX2 13 "SharedFault$Share" "down" "J" : Cond) ∈ TT := TT_in 289 (by decide +kernel) rfl
theorem km_X2_19 : (.methodLink RX2 19 Lib.MathLoose.abs_long.x : Cond) ∈ TT := TT_in 295 (by decide +kernel) rfl
theorem kt_absl : (.static Lib.MathLoose.abs_long.x : Cond) ∈ TT := TT_in 296 (by decide +kernel) rfl
set_option maxRecDepth 20000 in
theorem kc_absl : (.code Lib.MathLoose.abs_long.x Lib.MathLoose.abs_long.code 2 (some .long) : Cond) ∈ TT := TT_in 297 rfl rfl
theorem km_X2_25 : (.methodLink RX2 25 yX2_commonDivisor : Cond) ∈ TT := TT_in 298 (by decide +kernel) rfl
theorem kt_X2_commonDivisor : (.static yX2_commonDivisor : Cond) ∈ TT := TT_in 299 (by decide +kernel) rfl
set_option maxRecDepth 20000 in
theorem kc_X2_commonDivisor : (.code yX2_commonDivisor cX2_commonDivisor 11 (some .long) : Cond) ∈ TT := TT_in 300 rfl rfl
theorem km_X1_34 : (.methodLink RX1 34 yX2_times : Cond) ∈ TT := TT_in 301 (by decide +kernel) rfl
theorem ki_X2_times : (.instanceMethod yX2_times : Cond) ∈ TT := TT_in 302 (by decide +kernel) rfl
theorem ks_X2_times : (.selects RX2 yX2_times yX2_times : Cond) ∈ TT := TT_in 303 (by decide +kernel) rfl
set_option maxRecDepth 20000 in
theorem kc_X2_times : (.code yX2_times cX2_times 3 (some (.object "SharedFault$Share")) : Cond) ∈ TT := TT_in 304 rfl rfl
theorem km_X2_29 : (.methodLink RX2 29 yX2_of : Cond) ∈ TT := TT_in 305 (by decide +kernel) rfl
theorem km_X1_41 : (.methodLink RX1 41 yX2_minus : Cond) ∈ TT := TT_in 306 (by decide +kernel) rfl
theorem ki_X2_minus : (.instanceMethod yX2_minus : Cond) ∈ TT := TT_in 307 (by decide +kernel) rfl
theorem ks_X2_minus : (.selects RX2 yX2_minus yX2_minus : Cond) ∈ TT := TT_in 308 (by decide +kernel) rfl
set_option maxRecDepth 20000 in
theorem kc_X2_minus : (.code yX2_minus cX2_minus 8 (some (.object "SharedFault$Share")) : Cond) ∈ TT := TT_in 309 rfl rfl
theorem kf_X1_19 : (.fieldLink RX1 19 "SharedFault$Owed" "entitled" "LSharedFault$Share;" : Cond) ∈ TT := TT_in 310 (by decide +kernel) rfl
theorem kf_X3_102 : (.fieldLink RX3 102 "SharedFault$Owed" "entitled" "LSharedFault$Share;" : Cond) ∈ TT := TT_in 311 (by decide +kernel) rfl
theorem kf_X1_25 : (.fieldLink RX1 25 "SharedFault$Owed" "credits" "LSharedFault$Share;" : Cond) ∈ TT := TT_in 312 (by decide +kernel) rfl
theorem kf_X3_114 : (.fieldLink RX3 114 "SharedFault$Owed" "credits" "LSharedFault$Share;" : Cond) ∈ TT := TT_in 313 (by decide +kernel) rfl
theorem kf_X1_28 : (.fieldLink RX1 28 "SharedFault$Owed" "rest" "LSharedFault$Share;" : Cond) ∈ TT := TT_in 314 (by decide +kernel) rfl
theorem kf_X3_117 : (.fieldLink RX3 117 "SharedFault$Owed" "rest" "LSharedFault$Share;" : Cond) ∈ TT := TT_in 315 (by decide +kernel) rfl
theorem kf_X1_31 : (.fieldLink RX1 31 "SharedFault$Owed" "perWeight" "LSharedFault$Share;" : Cond) ∈ TT := TT_in 316 (by decide +kernel) rfl
theorem kf_X3_138 : (.fieldLink RX3 138 "SharedFault$Owed" "perWeight" "LSharedFault$Share;" : Cond) ∈ TT := TT_in 317 (by decide +kernel) rfl
theorem kf_X1_38 : (.fieldLink RX1 38 "SharedFault$Owed" "dues" "LSharedFault$Share;" : Cond) ∈ TT := TT_in 318 (by decide +kernel) rfl
theorem kf_X3_123 : (.fieldLink RX3 123 "SharedFault$Owed" "dues" "LSharedFault$Share;" : Cond) ∈ TT := TT_in 319 (by decide +kernel) rfl
theorem kf_X1_45 : (.fieldLink RX1 45 "SharedFault$Owed" "missed" "LSharedFault$Share;" : Cond) ∈ TT := TT_in 320 (by decide +kernel) rfl
theorem kf_X3_120 : (.fieldLink RX3 120 "SharedFault$Owed" "missed" "LSharedFault$Share;" : Cond) ∈ TT := TT_in 321 (by decide +kernel) rfl
theorem kf_X1_52 : (.fieldLink RX1 52 "SharedFault$Owed" "fairDown" "J" : Cond) ∈ TT := TT_in 322 (by decide +kernel) rfl
theorem kf_X3_178 : (.fieldLink RX3 178 "SharedFault$Owed" "fairDown" "J" : Cond) ∈ TT := TT_in 323 (by decide +kernel) rfl
theorem km_X3_108 : (.methodLink RX3 108 yX2_told : Cond) ∈ TT := TT_in 339 (by decide +kernel) rfl
theorem ki_X2_told : (.instanceMethod yX2_told : Cond) ∈ TT := TT_in 340 (by decide +kernel) rfl
theorem ks_X2_told : (.selects RX2 yX2_told yX2_told : Cond) ∈ TT := TT_in 341 (by decide +kernel) rfl
set_option maxRecDepth 20000 in
theorem kc_X2_told : (.code yX2_told cX2_told 2 (some .long) : Cond) ∈ TT := TT_in 342 rfl rfl
theorem km_L_69 : (.methodLink RL 69 yX3_credit : Cond) ∈ TT := TT_in 343 (by decide +kernel) rfl
theorem ki_X3_credit : (.instanceMethod yX3_credit : Cond) ∈ TT := TT_in 344 (by decide +kernel) rfl
theorem ks_X3_credit : (.selects RX3 yX3_credit yX3_credit : Cond) ∈ TT := TT_in 345 (by decide +kernel) rfl
set_option maxRecDepth 20000 in
theorem kc_X3_credit : (.code yX3_credit cX3_credit 6 (some .long) : Cond) ∈ TT := TT_in 346 rfl rfl
theorem km_X3_134 : (.methodLink RX3 134 yX2_of : Cond) ∈ TT := TT_in 347 (by decide +kernel) rfl
theorem km_L_73 : (.methodLink RL 73 yX3_unitDue : Cond) ∈ TT := TT_in 348 (by decide +kernel) rfl
theorem ki_X3_unitDue : (.instanceMethod yX3_unitDue : Cond) ∈ TT := TT_in 349 (by decide +kernel) rfl
theorem ks_X3_unitDue : (.selects RX3 yX3_unitDue yX3_unitDue : Cond) ∈ TT := TT_in 350 (by decide +kernel) rfl
set_option maxRecDepth 20000 in
theorem kc_X3_unitDue : (.code yX3_unitDue cX3_unitDue 3 (some .long) : Cond) ∈ TT := TT_in 351 rfl rfl
theorem km_X3_141 : (.methodLink RX3 141 yX3_unitBears : Cond) ∈ TT := TT_in 352 (by decide +kernel) rfl
theorem ki_X3_unitBears : (.instanceMethod yX3_unitBears : Cond) ∈ TT := TT_in 354 (by decide +kernel) rfl
set_option maxRecDepth 20000 in
theorem kc_X3_unitBears : (.code yX3_unitBears cX3_unitBears 4 (some .int) : Cond) ∈ TT := TT_in 355 rfl rfl
theorem km_X3_145 : (.methodLink RX3 145 yX2_times : Cond) ∈ TT := TT_in 356 (by decide +kernel) rfl
theorem km_L_77 : (.methodLink RL 77 yX3_due : Cond) ∈ TT := TT_in 357 (by decide +kernel) rfl
theorem ki_X3_due : (.instanceMethod yX3_due : Cond) ∈ TT := TT_in 358 (by decide +kernel) rfl
theorem ks_X3_due : (.selects RX3 yX3_due yX3_due : Cond) ∈ TT := TT_in 359 (by decide +kernel) rfl
set_option maxRecDepth 20000 in
theorem kc_X3_due : (.code yX3_due cX3_due 3 (some .long) : Cond) ∈ TT := TT_in 360 rfl rfl
theorem km_X3_149 : (.methodLink RX3 149 yX3_bears : Cond) ∈ TT := TT_in 361 (by decide +kernel) rfl
theorem ki_X3_bears : (.instanceMethod yX3_bears : Cond) ∈ TT := TT_in 363 (by decide +kernel) rfl
set_option maxRecDepth 20000 in
theorem kc_X3_bears : (.code yX3_bears cX3_bears 3 (some .int) : Cond) ∈ TT := TT_in 364 rfl rfl
theorem km_L_81 : (.methodLink RL 81 yX3_gets : Cond) ∈ TT := TT_in 365 (by decide +kernel) rfl
theorem ki_X3_gets : (.instanceMethod yX3_gets : Cond) ∈ TT := TT_in 366 (by decide +kernel) rfl
theorem ks_X3_gets : (.selects RX3 yX3_gets yX3_gets : Cond) ∈ TT := TT_in 367 (by decide +kernel) rfl
set_option maxRecDepth 20000 in
theorem kc_X3_gets : (.code yX3_gets cX3_gets 4 (some .long) : Cond) ∈ TT := TT_in 368 rfl rfl
theorem km_X3_152 : (.methodLink RX3 152 yX3_gotBy : Cond) ∈ TT := TT_in 369 (by decide +kernel) rfl
theorem ki_X3_gotBy : (.instanceMethod yX3_gotBy : Cond) ∈ TT := TT_in 371 (by decide +kernel) rfl
set_option maxRecDepth 20000 in
theorem kc_X3_gotBy : (.code yX3_gotBy cX3_gotBy 4 (some (.object "SharedFault$Share")) : Cond) ∈ TT := TT_in 372 rfl rfl
theorem km_X3_168 : (.methodLink RX3 168 yX2_plusWhole : Cond) ∈ TT := TT_in 373 (by decide +kernel) rfl
theorem ki_X2_plusWhole : (.instanceMethod yX2_plusWhole : Cond) ∈ TT := TT_in 374 (by decide +kernel) rfl
theorem ks_X2_plusWhole : (.selects RX2 yX2_plusWhole yX2_plusWhole : Cond) ∈ TT := TT_in 375 (by decide +kernel) rfl
set_option maxRecDepth 20000 in
theorem kc_X2_plusWhole : (.code yX2_plusWhole cX2_plusWhole 3 (some (.object "SharedFault$Share")) : Cond) ∈ TT := TT_in 376 rfl rfl
theorem km_L_86 : (.methodLink RL 86 yX3_bestManner : Cond) ∈ TT := TT_in 377 (by decide +kernel) rfl
theorem ki_X3_bestManner : (.instanceMethod yX3_bestManner : Cond) ∈ TT := TT_in 378 (by decide +kernel) rfl
theorem ks_X3_bestManner : (.selects RX3 yX3_bestManner yX3_bestManner : Cond) ∈ TT := TT_in 379 (by decide +kernel) rfl
set_option maxRecDepth 20000 in
theorem kc_X3_bestManner : (.code yX3_bestManner cX3_bestManner 5 (some .int) : Cond) ∈ TT := TT_in 380 rfl rfl
theorem km_X3_156 : (.methodLink RX3 156 yX2_minus : Cond) ∈ TT := TT_in 381 (by decide +kernel) rfl
theorem km_L_91 : (.methodLink RL 91 yX3_saves : Cond) ∈ TT := TT_in 382 (by decide +kernel) rfl
theorem ki_X3_saves : (.instanceMethod yX3_saves : Cond) ∈ TT := TT_in 383 (by decide +kernel) rfl
theorem ks_X3_saves : (.selects RX3 yX3_saves yX3_saves : Cond) ∈ TT := TT_in 384 (by decide +kernel) rfl
set_option maxRecDepth 20000 in
theorem kc_X3_saves : (.code yX3_saves cX3_saves 6 (some .long) : Cond) ∈ TT := TT_in 385 rfl rfl
theorem km_L_95 : (.methodLink RL 95 yX3_misses : Cond) ∈ TT := TT_in 386 (by decide +kernel) rfl
theorem ki_X3_misses : (.instanceMethod yX3_misses : Cond) ∈ TT := TT_in 387 (by decide +kernel) rfl
theorem ks_X3_misses : (.selects RX3 yX3_misses yX3_misses : Cond) ∈ TT := TT_in 388 (by decide +kernel) rfl
set_option maxRecDepth 20000 in
theorem kc_X3_misses : (.code yX3_misses cX3_misses 5 (some .long) : Cond) ∈ TT := TT_in 389 rfl rfl
theorem km_L_99 : (.methodLink RL 99 yX3_owe : Cond) ∈ TT := TT_in 390 (by decide +kernel) rfl
theorem ki_X3_owe : (.instanceMethod yX3_owe : Cond) ∈ TT := TT_in 391 (by decide +kernel) rfl
theorem ks_X3_owe : (.selects RX3 yX3_owe yX3_owe : Cond) ∈ TT := TT_in 392 (by decide +kernel) rfl
set_option maxRecDepth 20000 in
theorem kc_X3_owe : (.code yX3_owe cX3_owe 3 (some .int) : Cond) ∈ TT := TT_in 393 rfl rfl
theorem km_L_103 : (.methodLink RL 103 yX3_pay : Cond) ∈ TT := TT_in 394 (by decide +kernel) rfl
theorem ki_X3_pay : (.instanceMethod yX3_pay : Cond) ∈ TT := TT_in 395 (by decide +kernel) rfl
theorem ks_X3_pay : (.selects RX3 yX3_pay yX3_pay : Cond) ∈ TT := TT_in 396 (by decide +kernel) rfl
set_option maxRecDepth 20000 in
theorem kc_X3_pay : (.code yX3_pay cX3_pay 3 (some .int) : Cond) ∈ TT := TT_in 397 rfl rfl
theorem km_X3_171 : (.methodLink RX3 171 yX3_allPaid : Cond) ∈ TT := TT_in 398 (by decide +kernel) rfl
theorem ki_X3_allPaid : (.instanceMethod yX3_allPaid : Cond) ∈ TT := TT_in 400 (by decide +kernel) rfl
set_option maxRecDepth 20000 in
theorem kc_X3_allPaid : (.code yX3_allPaid cX3_allPaid 1 (some .int) : Cond) ∈ TT := TT_in 401 rfl rfl
theorem km_L_107 : (.methodLink RL 107 yX3_refund : Cond) ∈ TT := TT_in 402 (by decide +kernel) rfl
theorem ki_X3_refund : (.instanceMethod yX3_refund : Cond) ∈ TT := TT_in 403 (by decide +kernel) rfl
theorem ks_X3_refund : (.selects RX3 yX3_refund yX3_refund : Cond) ∈ TT := TT_in 404 (by decide +kernel) rfl
set_option maxRecDepth 20000 in
theorem kc_X3_refund : (.code yX3_refund cX3_refund 3 (some .int) : Cond) ∈ TT := TT_in 405 rfl rfl
theorem km_L_111 : (.methodLink RL 111 yX3_fair : Cond) ∈ TT := TT_in 406 (by decide +kernel) rfl
theorem ki_X3_fair : (.instanceMethod yX3_fair : Cond) ∈ TT := TT_in 407 (by decide +kernel) rfl
theorem ks_X3_fair : (.selects RX3 yX3_fair yX3_fair : Cond) ∈ TT := TT_in 408 (by decide +kernel) rfl
set_option maxRecDepth 20000 in
theorem kc_X3_fair : (.code yX3_fair cX3_fair 4 (some .long) : Cond) ∈ TT := TT_in 409 rfl rfl
theorem km_X3_174 : (.methodLink RX3 174 yX3_fairUp : Cond) ∈ TT := TT_in 410 (by decide +kernel) rfl
theorem ki_X3_fairUp : (.instanceMethod yX3_fairUp : Cond) ∈ TT := TT_in 412 (by decide +kernel) rfl
set_option maxRecDepth 20000 in
theorem kc_X3_fairUp : (.code yX3_fairUp cX3_fairUp 3 (some .long) : Cond) ∈ TT := TT_in 413 rfl rfl
theorem km_L_115 : (.methodLink RL 115 yX3_over : Cond) ∈ TT := TT_in 414 (by decide +kernel) rfl
theorem ki_X3_over : (.instanceMethod yX3_over : Cond) ∈ TT := TT_in 415 (by decide +kernel) rfl
theorem ks_X3_over : (.selects RX3 yX3_over yX3_over : Cond) ∈ TT := TT_in 416 (by decide +kernel) rfl
set_option maxRecDepth 20000 in
theorem kc_X3_over : (.code yX3_over cX3_over 4 (some .long) : Cond) ∈ TT := TT_in 417 rfl rfl
theorem km_X3_181 : (.methodLink RX3 181 yX3_overUp : Cond) ∈ TT := TT_in 418 (by decide +kernel) rfl
theorem ki_X3_overUp : (.instanceMethod yX3_overUp : Cond) ∈ TT := TT_in 420 (by decide +kernel) rfl
set_option maxRecDepth 20000 in
theorem kc_X3_overUp : (.code yX3_overUp cX3_overUp 3 (some .long) : Cond) ∈ TT := TT_in 421 rfl rfl
theorem km_L_119 : (.methodLink RL 119 yX3_transfers : Cond) ∈ TT := TT_in 422 (by decide +kernel) rfl
theorem ki_X3_transfers : (.instanceMethod yX3_transfers : Cond) ∈ TT := TT_in 423 (by decide +kernel) rfl
theorem ks_X3_transfers : (.selects RX3 yX3_transfers yX3_transfers : Cond) ∈ TT := TT_in 424 (by decide +kernel) rfl
set_option maxRecDepth 20000 in
theorem kc_X3_transfers : (.code yX3_transfers cX3_transfers 1 (some .int) : Cond) ∈ TT := TT_in 425 rfl rfl
theorem km_X3_184 : (.methodLink RX3 184 yX3_evenOut : Cond) ∈ TT := TT_in 426 (by decide +kernel) rfl
theorem ki_X3_evenOut : (.instanceMethod yX3_evenOut : Cond) ∈ TT := TT_in 428 (by decide +kernel) rfl
set_option maxRecDepth 20000 in
theorem kc_X3_evenOut : (.code yX3_evenOut cX3_evenOut 3 none : Cond) ∈ TT := TT_in 429 rfl rfl
theorem km_X3_234 : (.methodLink RX3 234 yX0_find : Cond) ∈ TT := TT_in 430 (by decide +kernel) rfl
theorem ki_X0_find : (.instanceMethod yX0_find : Cond) ∈ TT := TT_in 431 (by decide +kernel) rfl
theorem ks_X0_find : (.selects RX0 yX0_find yX0_find : Cond) ∈ TT := TT_in 432 (by decide +kernel) rfl
set_option maxRecDepth 20000 in
theorem kc_X0_find : (.code yX0_find cX0_find 4 none : Cond) ∈ TT := TT_in 433 rfl rfl
theorem km_X0_29 : (.methodLink RX0 29 yX0_give : Cond) ∈ TT := TT_in 434 (by decide +kernel) rfl
theorem ki_X0_give : (.instanceMethod yX0_give : Cond) ∈ TT := TT_in 436 (by decide +kernel) rfl
set_option maxRecDepth 20000 in
theorem kc_X0_give : (.code yX0_give cX0_give 5 none : Cond) ∈ TT := TT_in 437 rfl rfl
theorem km_X0_33 : (.methodLink RX0 33 Lib.MathLoose.min_long.x : Cond) ∈ TT := TT_in 438 (by decide +kernel) rfl
theorem kt_minl : (.static Lib.MathLoose.min_long.x : Cond) ∈ TT := TT_in 439 (by decide +kernel) rfl
set_option maxRecDepth 20000 in
theorem kc_minl : (.code Lib.MathLoose.min_long.x Lib.MathLoose.min_long.code 4 (some .long) : Cond) ∈ TT := TT_in 440 rfl rfl
theorem km_L_123 : (.methodLink RL 123 yX3_transfer : Cond) ∈ TT := TT_in 441 (by decide +kernel) rfl
theorem ki_X3_transfer : (.instanceMethod yX3_transfer : Cond) ∈ TT := TT_in 442 (by decide +kernel) rfl
theorem ks_X3_transfer : (.selects RX3 yX3_transfer yX3_transfer : Cond) ∈ TT := TT_in 443 (by decide +kernel) rfl
set_option maxRecDepth 20000 in
theorem kc_X3_transfer : (.code yX3_transfer cX3_transfer 3 (some .int) : Cond) ∈ TT := TT_in 444 rfl rfl
theorem km_X3_191 : (.methodLink RX3 191 yX0_holds : Cond) ∈ TT := TT_in 445 (by decide +kernel) rfl
theorem ki_X0_holds : (.instanceMethod yX0_holds : Cond) ∈ TT := TT_in 446 (by decide +kernel) rfl
theorem ks_X0_holds : (.selects RX0 yX0_holds yX0_holds : Cond) ∈ TT := TT_in 447 (by decide +kernel) rfl
set_option maxRecDepth 20000 in
theorem kc_X0_holds : (.code yX0_holds cX0_holds 2 (some .boolean) : Cond) ∈ TT := TT_in 448 rfl rfl
theorem km_L_127 : (.methodLink RL 127 yX3_given : Cond) ∈ TT := TT_in 449 (by decide +kernel) rfl
theorem ki_X3_given : (.instanceMethod yX3_given : Cond) ∈ TT := TT_in 450 (by decide +kernel) rfl
theorem ks_X3_given : (.selects RX3 yX3_given yX3_given : Cond) ∈ TT := TT_in 451 (by decide +kernel) rfl
set_option maxRecDepth 20000 in
theorem kc_X3_given : (.code yX3_given cX3_given 4 (some .long) : Cond) ∈ TT := TT_in 452 rfl rfl
theorem km_L_131 : (.methodLink RL 131 yX3_many : Cond) ∈ TT := TT_in 453 (by decide +kernel) rfl
theorem ki_X3_many : (.instanceMethod yX3_many : Cond) ∈ TT := TT_in 454 (by decide +kernel) rfl
theorem ks_X3_many : (.selects RX3 yX3_many yX3_many : Cond) ∈ TT := TT_in 455 (by decide +kernel) rfl
set_option maxRecDepth 20000 in
theorem kc_X3_many : (.code yX3_many cX3_many 2 (some .int) : Cond) ∈ TT := TT_in 456 rfl rfl
theorem kcl_L_10 : (.classLink RL 10 RX4 : Cond) ∈ TT := TT_in 457 (by decide +kernel) rfl
theorem kin_X4 : (.instantiable RX4 22 : Cond) ∈ TT := TT_in 458 (by decide +kernel) rfl
theorem km_L_12 : (.methodLink RL 12 yX4_init : Cond) ∈ TT := TT_in 459 (by decide +kernel) rfl
theorem ki_X4_init : (.instanceMethod yX4_init : Cond) ∈ TT := TT_in 460 (by decide +kernel) rfl
set_option maxRecDepth 20000 in
theorem kc_X4_init : (.code yX4_init cX4_init 2 none : Cond) ∈ TT := TT_in 461 rfl rfl
theorem km_X4_1 : (.methodLink RX4 1 objectInit : Cond) ∈ TT := TT_in 462 (by decide +kernel) rfl
theorem km_X4_67 : (.methodLink RX4 67 yX4_clears : Cond) ∈ TT := TT_in 463 (by decide +kernel) rfl
theorem ki_X4_clears : (.instanceMethod yX4_clears : Cond) ∈ TT := TT_in 465 (by decide +kernel) rfl
set_option maxRecDepth 20000 in
theorem kc_X4_clears : (.code yX4_clears cX4_clears 2 none : Cond) ∈ TT := TT_in 466 rfl rfl
theorem kf_X4_75 : (.fieldLink RX4 75 "SharedFaultModel" "up" "J" : Cond) ∈ TT := TT_in 467 (by decide +kernel) rfl
theorem kf_X4_7 : (.fieldLink RX4 7 "SharedFaultModel" "low" "J" : Cond) ∈ TT := TT_in 468 (by decide +kernel) rfl
theorem kf_X4_87 : (.fieldLink RX4 87 "SharedFaultModel" "lossNow" "I" : Cond) ∈ TT := TT_in 469 (by decide +kernel) rfl
theorem kf_X4_91 : (.fieldLink RX4 91 "SharedFaultModel" "claimantNow" "I" : Cond) ∈ TT := TT_in 470 (by decide +kernel) rfl
theorem kf_X4_13 : (.fieldLink RX4 13 "SharedFaultModel" "settings" "[I" : Cond) ∈ TT := TT_in 471 (by decide +kernel) rfl
theorem kf_X4_17 : (.fieldLink RX4 17 "SharedFaultModel" "isIn" "[Z" : Cond) ∈ TT := TT_in 472 (by decide +kernel) rfl
theorem kf_X4_21 : (.fieldLink RX4 21 "SharedFaultModel" "weightOf" "[I" : Cond) ∈ TT := TT_in 473 (by decide +kernel) rfl
theorem kf_X4_24 : (.fieldLink RX4 24 "SharedFaultModel" "isBroke" "[Z" : Cond) ∈ TT := TT_in 474 (by decide +kernel) rfl
theorem kf_X4_27 : (.fieldLink RX4 27 "SharedFaultModel" "mateOf" "[I" : Cond) ∈ TT := TT_in 475 (by decide +kernel) rfl
theorem kf_X4_30 : (.fieldLink RX4 30 "SharedFaultModel" "settledFor" "[I" : Cond) ∈ TT := TT_in 476 (by decide +kernel) rfl
theorem kf_X4_33 : (.fieldLink RX4 33 "SharedFaultModel" "paidBy" "[I" : Cond) ∈ TT := TT_in 477 (by decide +kernel) rfl
theorem kf_X4_36 : (.fieldLink RX4 36 "SharedFaultModel" "allUp" "[J" : Cond) ∈ TT := TT_in 478 (by decide +kernel) rfl
theorem kf_X4_40 : (.fieldLink RX4 40 "SharedFaultModel" "allLow" "[J" : Cond) ∈ TT := TT_in 479 (by decide +kernel) rfl
theorem kf_X4_43 : (.fieldLink RX4 43 "SharedFaultModel" "unitUp" "[J" : Cond) ∈ TT := TT_in 480 (by decide +kernel) rfl
theorem kf_X4_46 : (.fieldLink RX4 46 "SharedFaultModel" "unitLow" "[J" : Cond) ∈ TT := TT_in 481 (by decide +kernel) rfl
theorem kf_X4_49 : (.fieldLink RX4 49 "SharedFaultModel" "overUp" "[J" : Cond) ∈ TT := TT_in 482 (by decide +kernel) rfl
theorem kf_X4_52 : (.fieldLink RX4 52 "SharedFaultModel" "overLow" "[J" : Cond) ∈ TT := TT_in 483 (by decide +kernel) rfl
theorem kf_X4_185 : (.fieldLink RX4 185 "SharedFaultModel" "transferMany" "I" : Cond) ∈ TT := TT_in 484 (by decide +kernel) rfl
theorem kf_X4_55 : (.fieldLink RX4 55 "SharedFaultModel" "giverOf" "[I" : Cond) ∈ TT := TT_in 485 (by decide +kernel) rfl
theorem kf_X4_58 : (.fieldLink RX4 58 "SharedFaultModel" "takerOf" "[I" : Cond) ∈ TT := TT_in 486 (by decide +kernel) rfl
theorem kf_X4_61 : (.fieldLink RX4 61 "SharedFaultModel" "givenUp" "[J" : Cond) ∈ TT := TT_in 487 (by decide +kernel) rfl
theorem kf_X4_64 : (.fieldLink RX4 64 "SharedFaultModel" "givenLow" "[J" : Cond) ∈ TT := TT_in 488 (by decide +kernel) rfl
theorem ka_boolean : (.arrayClass .boolean : Cond) ∈ TT := TT_in 534 (by decide +kernel) rfl
theorem km_L_17 : (.methodLink RL 17 yX4_loss : Cond) ∈ TT := TT_in 535 (by decide +kernel) rfl
theorem ki_X4_loss : (.instanceMethod yX4_loss : Cond) ∈ TT := TT_in 536 (by decide +kernel) rfl
theorem ks_X4_loss : (.selects RX4 yX4_loss yX4_loss : Cond) ∈ TT := TT_in 537 (by decide +kernel) rfl
set_option maxRecDepth 20000 in
theorem kc_X4_loss : (.code yX4_loss cX4_loss 3 (some .int) : Cond) ∈ TT := TT_in 538 rfl rfl
theorem kk_X4_86 : (.constant RX4 86 (1000000 : Int32) : Cond) ∈ TT := TT_in 539 (by decide +kernel) rfl
theorem km_X4_82 : (.methodLink RX4 82 yX4_within : Cond) ∈ TT := TT_in 540 (by decide +kernel) rfl
theorem kt_X4_within : (.static yX4_within : Cond) ∈ TT := TT_in 541 (by decide +kernel) rfl
set_option maxRecDepth 20000 in
theorem kc_X4_within : (.code yX4_within cX4_within 3 (some .boolean) : Cond) ∈ TT := TT_in 542 rfl rfl
theorem km_L_21 : (.methodLink RL 21 yX4_claimant : Cond) ∈ TT := TT_in 543 (by decide +kernel) rfl
theorem ki_X4_claimant : (.instanceMethod yX4_claimant : Cond) ∈ TT := TT_in 544 (by decide +kernel) rfl
theorem ks_X4_claimant : (.selects RX4 yX4_claimant yX4_claimant : Cond) ∈ TT := TT_in 545 (by decide +kernel) rfl
set_option maxRecDepth 20000 in
theorem kc_X4_claimant : (.code yX4_claimant cX4_claimant 3 (some .int) : Cond) ∈ TT := TT_in 546 rfl rfl
theorem km_L_25 : (.methodLink RL 25 yX4_wrong : Cond) ∈ TT := TT_in 547 (by decide +kernel) rfl
theorem ki_X4_wrong : (.instanceMethod yX4_wrong : Cond) ∈ TT := TT_in 548 (by decide +kernel) rfl
theorem ks_X4_wrong : (.selects RX4 yX4_wrong yX4_wrong : Cond) ∈ TT := TT_in 549 (by decide +kernel) rfl
set_option maxRecDepth 20000 in
theorem kc_X4_wrong : (.code yX4_wrong cX4_wrong 3 (some .int) : Cond) ∈ TT := TT_in 550 rfl rfl
theorem km_X4_94 : (.methodLink RX4 94 yX4_manyIn : Cond) ∈ TT := TT_in 551 (by decide +kernel) rfl
theorem ki_X4_manyIn : (.instanceMethod yX4_manyIn : Cond) ∈ TT := TT_in 553 (by decide +kernel) rfl
set_option maxRecDepth 20000 in
theorem kc_X4_manyIn : (.code yX4_manyIn cX4_manyIn 3 (some .int) : Cond) ∈ TT := TT_in 554 rfl rfl
theorem km_L_29 : (.methodLink RL 29 yX4_leave : Cond) ∈ TT := TT_in 555 (by decide +kernel) rfl
theorem ki_X4_leave : (.instanceMethod yX4_leave : Cond) ∈ TT := TT_in 556 (by decide +kernel) rfl
theorem ks_X4_leave : (.selects RX4 yX4_leave yX4_leave : Cond) ∈ TT := TT_in 557 (by decide +kernel) rfl
set_option maxRecDepth 20000 in
theorem kc_X4_leave : (.code yX4_leave cX4_leave 3 (some .int) : Cond) ∈ TT := TT_in 558 rfl rfl
theorem km_X4_98 : (.methodLink RX4 98 yX4_isThere : Cond) ∈ TT := TT_in 559 (by decide +kernel) rfl
theorem ki_X4_isThere : (.instanceMethod yX4_isThere : Cond) ∈ TT := TT_in 561 (by decide +kernel) rfl
set_option maxRecDepth 20000 in
theorem kc_X4_isThere : (.code yX4_isThere cX4_isThere 2 (some .boolean) : Cond) ∈ TT := TT_in 562 rfl rfl
theorem km_L_34 : (.methodLink RL 34 yX4_weight : Cond) ∈ TT := TT_in 563 (by decide +kernel) rfl
theorem ki_X4_weight : (.instanceMethod yX4_weight : Cond) ∈ TT := TT_in 564 (by decide +kernel) rfl
theorem ks_X4_weight : (.selects RX4 yX4_weight yX4_weight : Cond) ∈ TT := TT_in 565 (by decide +kernel) rfl
set_option maxRecDepth 20000 in
theorem kc_X4_weight : (.code yX4_weight cX4_weight 4 (some .int) : Cond) ∈ TT := TT_in 566 rfl rfl
theorem km_L_39 : (.methodLink RL 39 yX4_broke : Cond) ∈ TT := TT_in 567 (by decide +kernel) rfl
theorem ki_X4_broke : (.instanceMethod yX4_broke : Cond) ∈ TT := TT_in 568 (by decide +kernel) rfl
theorem ks_X4_broke : (.selects RX4 yX4_broke yX4_broke : Cond) ∈ TT := TT_in 569 (by decide +kernel) rfl
set_option maxRecDepth 20000 in
theorem kc_X4_broke : (.code yX4_broke cX4_broke 4 (some .int) : Cond) ∈ TT := TT_in 570 rfl rfl
theorem km_L_43 : (.methodLink RL 43 yX4_pair : Cond) ∈ TT := TT_in 571 (by decide +kernel) rfl
theorem ki_X4_pair : (.instanceMethod yX4_pair : Cond) ∈ TT := TT_in 572 (by decide +kernel) rfl
theorem ks_X4_pair : (.selects RX4 yX4_pair yX4_pair : Cond) ∈ TT := TT_in 573 (by decide +kernel) rfl
set_option maxRecDepth 20000 in
theorem kc_X4_pair : (.code yX4_pair cX4_pair 3 (some .int) : Cond) ∈ TT := TT_in 574 rfl rfl
theorem km_L_47 : (.methodLink RL 47 yX4_part : Cond) ∈ TT := TT_in 575 (by decide +kernel) rfl
theorem ki_X4_part : (.instanceMethod yX4_part : Cond) ∈ TT := TT_in 576 (by decide +kernel) rfl
theorem ks_X4_part : (.selects RX4 yX4_part yX4_part : Cond) ∈ TT := TT_in 577 (by decide +kernel) rfl
set_option maxRecDepth 20000 in
theorem kc_X4_part : (.code yX4_part cX4_part 2 (some .int) : Cond) ∈ TT := TT_in 578 rfl rfl
theorem km_L_51 : (.methodLink RL 51 yX4_settle : Cond) ∈ TT := TT_in 579 (by decide +kernel) rfl
theorem ki_X4_settle : (.instanceMethod yX4_settle : Cond) ∈ TT := TT_in 580 (by decide +kernel) rfl
theorem ks_X4_settle : (.selects RX4 yX4_settle yX4_settle : Cond) ∈ TT := TT_in 581 (by decide +kernel) rfl
set_option maxRecDepth 20000 in
theorem kc_X4_settle : (.code yX4_settle cX4_settle 3 (some .int) : Cond) ∈ TT := TT_in 582 rfl rfl
theorem km_X4_102 : (.methodLink RX4 102 yX4_settles : Cond) ∈ TT := TT_in 583 (by decide +kernel) rfl
theorem ki_X4_settles : (.instanceMethod yX4_settles : Cond) ∈ TT := TT_in 585 (by decide +kernel) rfl
set_option maxRecDepth 20000 in
theorem kc_X4_settles : (.code yX4_settles cX4_settles 3 none : Cond) ∈ TT := TT_in 586 rfl rfl
theorem km_L_55 : (.methodLink RL 55 yX4_reopen : Cond) ∈ TT := TT_in 587 (by decide +kernel) rfl
theorem ki_X4_reopen : (.instanceMethod yX4_reopen : Cond) ∈ TT := TT_in 588 (by decide +kernel) rfl
theorem ks_X4_reopen : (.selects RX4 yX4_reopen yX4_reopen : Cond) ∈ TT := TT_in 589 (by decide +kernel) rfl
set_option maxRecDepth 20000 in
theorem kc_X4_reopen : (.code yX4_reopen cX4_reopen 3 (some .int) : Cond) ∈ TT := TT_in 590 rfl rfl
theorem km_L_59 : (.methodLink RL 59 yX4_setting : Cond) ∈ TT := TT_in 591 (by decide +kernel) rfl
theorem ki_X4_setting : (.instanceMethod yX4_setting : Cond) ∈ TT := TT_in 592 (by decide +kernel) rfl
theorem ks_X4_setting : (.selects RX4 yX4_setting yX4_setting : Cond) ∈ TT := TT_in 593 (by decide +kernel) rfl
set_option maxRecDepth 20000 in
theorem kc_X4_setting : (.code yX4_setting cX4_setting 4 (some .int) : Cond) ∈ TT := TT_in 594 rfl rfl
theorem km_L_63 : (.methodLink RL 63 yX4_ofWrong : Cond) ∈ TT := TT_in 595 (by decide +kernel) rfl
theorem ki_X4_ofWrong : (.instanceMethod yX4_ofWrong : Cond) ∈ TT := TT_in 596 (by decide +kernel) rfl
theorem ks_X4_ofWrong : (.selects RX4 yX4_ofWrong yX4_ofWrong : Cond) ∈ TT := TT_in 597 (by decide +kernel) rfl
set_option maxRecDepth 20000 in
theorem kc_X4_ofWrong : (.code yX4_ofWrong cX4_ofWrong 3 (some .int) : Cond) ∈ TT := TT_in 598 rfl rfl
theorem km_L_68 : (.methodLink RL 68 yX4_amount : Cond) ∈ TT := TT_in 599 (by decide +kernel) rfl
theorem ki_X4_amount : (.instanceMethod yX4_amount : Cond) ∈ TT := TT_in 600 (by decide +kernel) rfl
theorem ks_X4_amount : (.selects RX4 yX4_amount yX4_amount : Cond) ∈ TT := TT_in 601 (by decide +kernel) rfl
set_option maxRecDepth 20000 in
theorem kc_X4_amount : (.code yX4_amount cX4_amount 3 (some .long) : Cond) ∈ TT := TT_in 602 rfl rfl
theorem km_X4_149 : (.methodLink RX4 149 yX4_isWhich : Cond) ∈ TT := TT_in 603 (by decide +kernel) rfl
theorem kt_X4_isWhich : (.static yX4_isWhich : Cond) ∈ TT := TT_in 604 (by decide +kernel) rfl
set_option maxRecDepth 20000 in
theorem kc_X4_isWhich : (.code yX4_isWhich cX4_isWhich 1 (some .boolean) : Cond) ∈ TT := TT_in 605 rfl rfl
theorem kj_X4_152 : (.constantLong RX4 152 (-9223372036854775808 : Int64) : Cond) ∈ TT := TT_in 606 (by decide +kernel) rfl
theorem km_X4_154 : (.methodLink RX4 154 yX4_findDues : Cond) ∈ TT := TT_in 607 (by decide +kernel) rfl
theorem ki_X4_findDues : (.instanceMethod yX4_findDues : Cond) ∈ TT := TT_in 609 (by decide +kernel) rfl
set_option maxRecDepth 20000 in
theorem kc_X4_findDues : (.code yX4_findDues cX4_findDues 6 none : Cond) ∈ TT := TT_in 610 rfl rfl
theorem km_X4_134 : (.methodLink RX4 134 yX4_findRest : Cond) ∈ TT := TT_in 611 (by decide +kernel) rfl
theorem ki_X4_findRest : (.instanceMethod yX4_findRest : Cond) ∈ TT := TT_in 613 (by decide +kernel) rfl
set_option maxRecDepth 20000 in
theorem kc_X4_findRest : (.code yX4_findRest cX4_findRest 2 none : Cond) ∈ TT := TT_in 614 rfl rfl
theorem km_X4_119 : (.methodLink RX4 119 yX4_findEntitled : Cond) ∈ TT := TT_in 615 (by decide +kernel) rfl
theorem ki_X4_findEntitled : (.instanceMethod yX4_findEntitled : Cond) ∈ TT := TT_in 617 (by decide +kernel) rfl
set_option maxRecDepth 20000 in
theorem kc_X4_findEntitled : (.code yX4_findEntitled cX4_findEntitled 3 none : Cond) ∈ TT := TT_in 618 rfl rfl
theorem km_X4_106 : (.methodLink RX4 106 yX4_blame : Cond) ∈ TT := TT_in 619 (by decide +kernel) rfl
theorem ki_X4_blame : (.instanceMethod yX4_blame : Cond) ∈ TT := TT_in 621 (by decide +kernel) rfl
set_option maxRecDepth 20000 in
theorem kc_X4_blame : (.code yX4_blame cX4_blame 3 (some .int) : Cond) ∈ TT := TT_in 622 rfl rfl
theorem km_X4_78 : (.methodLink RX4 78 yX4_makes : Cond) ∈ TT := TT_in 623 (by decide +kernel) rfl
theorem ki_X4_makes : (.instanceMethod yX4_makes : Cond) ∈ TT := TT_in 625 (by decide +kernel) rfl
set_option maxRecDepth 20000 in
theorem kc_X4_makes : (.code yX4_makes cX4_makes 7 none : Cond) ∈ TT := TT_in 626 rfl rfl
theorem km_X4_71 : (.methodLink RX4 71 yX4_common : Cond) ∈ TT := TT_in 627 (by decide +kernel) rfl
theorem kt_X4_common : (.static yX4_common : Cond) ∈ TT := TT_in 628 (by decide +kernel) rfl
set_option maxRecDepth 20000 in
theorem kc_X4_common : (.code yX4_common cX4_common 10 (some .long) : Cond) ∈ TT := TT_in 629 rfl rfl
theorem km_X4_122 : (.methodLink RX4 122 yX4_keeps : Cond) ∈ TT := TT_in 630 (by decide +kernel) rfl
theorem ki_X4_keeps : (.instanceMethod yX4_keeps : Cond) ∈ TT := TT_in 632 (by decide +kernel) rfl
set_option maxRecDepth 20000 in
theorem kc_X4_keeps : (.code yX4_keeps cX4_keeps 2 none : Cond) ∈ TT := TT_in 633 rfl rfl
theorem km_X4_113 : (.methodLink RX4 113 yX4_isUnit : Cond) ∈ TT := TT_in 634 (by decide +kernel) rfl
theorem ki_X4_isUnit : (.instanceMethod yX4_isUnit : Cond) ∈ TT := TT_in 636 (by decide +kernel) rfl
set_option maxRecDepth 20000 in
theorem kc_X4_isUnit : (.code yX4_isUnit cX4_isUnit 2 (some .boolean) : Cond) ∈ TT := TT_in 637 rfl rfl
theorem km_X4_125 : (.methodLink RX4 125 yX4_findCredit : Cond) ∈ TT := TT_in 638 (by decide +kernel) rfl
theorem ki_X4_findCredit : (.instanceMethod yX4_findCredit : Cond) ∈ TT := TT_in 640 (by decide +kernel) rfl
set_option maxRecDepth 20000 in
theorem kc_X4_findCredit : (.code yX4_findCredit cX4_findCredit 6 none : Cond) ∈ TT := TT_in 641 rfl rfl
theorem km_X4_109 : (.methodLink RX4 109 yX4_unitWeight : Cond) ∈ TT := TT_in 642 (by decide +kernel) rfl
theorem ki_X4_unitWeight : (.instanceMethod yX4_unitWeight : Cond) ∈ TT := TT_in 644 (by decide +kernel) rfl
set_option maxRecDepth 20000 in
theorem kc_X4_unitWeight : (.code yX4_unitWeight cX4_unitWeight 2 (some .int) : Cond) ∈ TT := TT_in 645 rfl rfl
theorem km_X4_128 : (.methodLink RX4 128 yX4_adds : Cond) ∈ TT := TT_in 646 (by decide +kernel) rfl
theorem ki_X4_adds : (.instanceMethod yX4_adds : Cond) ∈ TT := TT_in 648 (by decide +kernel) rfl
set_option maxRecDepth 20000 in
theorem kc_X4_adds : (.code yX4_adds cX4_adds 13 none : Cond) ∈ TT := TT_in 649 rfl rfl
theorem kj_X4_132 : (.constantLong RX4 132 (-1 : Int64) : Cond) ∈ TT := TT_in 650 (by decide +kernel) rfl
theorem km_X4_137 : (.methodLink RX4 137 yX4_openWeight : Cond) ∈ TT := TT_in 651 (by decide +kernel) rfl
theorem ki_X4_openWeight : (.instanceMethod yX4_openWeight : Cond) ∈ TT := TT_in 653 (by decide +kernel) rfl
set_option maxRecDepth 20000 in
theorem kc_X4_openWeight : (.code yX4_openWeight cX4_openWeight 4 (some .int) : Cond) ∈ TT := TT_in 654 rfl rfl
theorem km_X4_116 : (.methodLink RX4 116 yX4_isUnitBroke : Cond) ∈ TT := TT_in 655 (by decide +kernel) rfl
theorem ki_X4_isUnitBroke : (.instanceMethod yX4_isUnitBroke : Cond) ∈ TT := TT_in 657 (by decide +kernel) rfl
set_option maxRecDepth 20000 in
theorem kc_X4_isUnitBroke : (.code yX4_isUnitBroke cX4_isUnitBroke 2 (some .boolean) : Cond) ∈ TT := TT_in 658 rfl rfl
theorem km_X4_141 : (.methodLink RX4 141 yX4_findUnit : Cond) ∈ TT := TT_in 659 (by decide +kernel) rfl
theorem ki_X4_findUnit : (.instanceMethod yX4_findUnit : Cond) ∈ TT := TT_in 661 (by decide +kernel) rfl
set_option maxRecDepth 20000 in
theorem kc_X4_findUnit : (.code yX4_findUnit cX4_findUnit 5 none : Cond) ∈ TT := TT_in 662 rfl rfl
theorem km_X4_145 : (.methodLink RX4 145 yX4_multiplies : Cond) ∈ TT := TT_in 663 (by decide +kernel) rfl
theorem ki_X4_multiplies : (.instanceMethod yX4_multiplies : Cond) ∈ TT := TT_in 665 (by decide +kernel) rfl
set_option maxRecDepth 20000 in
theorem kc_X4_multiplies : (.code yX4_multiplies cX4_multiplies 13 none : Cond) ∈ TT := TT_in 666 rfl rfl
theorem km_L_72 : (.methodLink RL 72 yX4_credit : Cond) ∈ TT := TT_in 667 (by decide +kernel) rfl
theorem ki_X4_credit : (.instanceMethod yX4_credit : Cond) ∈ TT := TT_in 668 (by decide +kernel) rfl
theorem ks_X4_credit : (.selects RX4 yX4_credit yX4_credit : Cond) ∈ TT := TT_in 669 (by decide +kernel) rfl
set_option maxRecDepth 20000 in
theorem kc_X4_credit : (.code yX4_credit cX4_credit 3 (some .long) : Cond) ∈ TT := TT_in 670 rfl rfl
theorem km_X4_157 : (.methodLink RX4 157 yX4_unitOf : Cond) ∈ TT := TT_in 671 (by decide +kernel) rfl
theorem ki_X4_unitOf : (.instanceMethod yX4_unitOf : Cond) ∈ TT := TT_in 673 (by decide +kernel) rfl
set_option maxRecDepth 20000 in
theorem kc_X4_unitOf : (.code yX4_unitOf cX4_unitOf 2 (some .int) : Cond) ∈ TT := TT_in 674 rfl rfl
theorem km_X4_160 : (.methodLink RX4 160 yX4_told : Cond) ∈ TT := TT_in 675 (by decide +kernel) rfl
theorem ki_X4_told : (.instanceMethod yX4_told : Cond) ∈ TT := TT_in 677 (by decide +kernel) rfl
set_option maxRecDepth 20000 in
theorem kc_X4_told : (.code yX4_told cX4_told 2 (some .long) : Cond) ∈ TT := TT_in 678 rfl rfl
theorem km_L_76 : (.methodLink RL 76 yX4_unitDue : Cond) ∈ TT := TT_in 679 (by decide +kernel) rfl
theorem ki_X4_unitDue : (.instanceMethod yX4_unitDue : Cond) ∈ TT := TT_in 680 (by decide +kernel) rfl
theorem ks_X4_unitDue : (.selects RX4 yX4_unitDue yX4_unitDue : Cond) ∈ TT := TT_in 681 (by decide +kernel) rfl
set_option maxRecDepth 20000 in
theorem kc_X4_unitDue : (.code yX4_unitDue cX4_unitDue 3 (some .long) : Cond) ∈ TT := TT_in 682 rfl rfl
theorem km_L_80 : (.methodLink RL 80 yX4_due : Cond) ∈ TT := TT_in 683 (by decide +kernel) rfl
theorem ki_X4_due : (.instanceMethod yX4_due : Cond) ∈ TT := TT_in 684 (by decide +kernel) rfl
theorem ks_X4_due : (.selects RX4 yX4_due yX4_due : Cond) ∈ TT := TT_in 685 (by decide +kernel) rfl
set_option maxRecDepth 20000 in
theorem kc_X4_due : (.code yX4_due cX4_due 3 (some .long) : Cond) ∈ TT := TT_in 686 rfl rfl
theorem km_X4_166 : (.methodLink RX4 166 yX4_findDue : Cond) ∈ TT := TT_in 687 (by decide +kernel) rfl
theorem ki_X4_findDue : (.instanceMethod yX4_findDue : Cond) ∈ TT := TT_in 689 (by decide +kernel) rfl
set_option maxRecDepth 20000 in
theorem kc_X4_findDue : (.code yX4_findDue cX4_findDue 4 none : Cond) ∈ TT := TT_in 690 rfl rfl
theorem kj_X4_164 : (.constantLong RX4 164 (2 : Int64) : Cond) ∈ TT := TT_in 691 (by decide +kernel) rfl
theorem km_L_85 : (.methodLink RL 85 yX4_gets : Cond) ∈ TT := TT_in 692 (by decide +kernel) rfl
theorem ki_X4_gets : (.instanceMethod yX4_gets : Cond) ∈ TT := TT_in 693 (by decide +kernel) rfl
theorem ks_X4_gets : (.selects RX4 yX4_gets yX4_gets : Cond) ∈ TT := TT_in 694 (by decide +kernel) rfl
set_option maxRecDepth 20000 in
theorem kc_X4_gets : (.code yX4_gets cX4_gets 4 (some .long) : Cond) ∈ TT := TT_in 695 rfl rfl
theorem km_X4_172 : (.methodLink RX4 172 yX4_findGetsBy : Cond) ∈ TT := TT_in 696 (by decide +kernel) rfl
theorem ki_X4_findGetsBy : (.instanceMethod yX4_findGetsBy : Cond) ∈ TT := TT_in 698 (by decide +kernel) rfl
set_option maxRecDepth 20000 in
theorem kc_X4_findGetsBy : (.code yX4_findGetsBy cX4_findGetsBy 5 none : Cond) ∈ TT := TT_in 699 rfl rfl
theorem km_X4_169 : (.methodLink RX4 169 yX4_findGets : Cond) ∈ TT := TT_in 700 (by decide +kernel) rfl
theorem ki_X4_findGets : (.instanceMethod yX4_findGets : Cond) ∈ TT := TT_in 702 (by decide +kernel) rfl
set_option maxRecDepth 20000 in
theorem kc_X4_findGets : (.code yX4_findGets cX4_findGets 4 none : Cond) ∈ TT := TT_in 703 rfl rfl
theorem km_L_90 : (.methodLink RL 90 yX4_bestManner : Cond) ∈ TT := TT_in 704 (by decide +kernel) rfl
theorem ki_X4_bestManner : (.instanceMethod yX4_bestManner : Cond) ∈ TT := TT_in 705 (by decide +kernel) rfl
theorem ks_X4_bestManner : (.selects RX4 yX4_bestManner yX4_bestManner : Cond) ∈ TT := TT_in 706 (by decide +kernel) rfl
set_option maxRecDepth 20000 in
theorem kc_X4_bestManner : (.code yX4_bestManner cX4_bestManner 7 (some .int) : Cond) ∈ TT := TT_in 707 rfl rfl
theorem km_L_94 : (.methodLink RL 94 yX4_saves : Cond) ∈ TT := TT_in 708 (by decide +kernel) rfl
theorem ki_X4_saves : (.instanceMethod yX4_saves : Cond) ∈ TT := TT_in 709 (by decide +kernel) rfl
theorem ks_X4_saves : (.selects RX4 yX4_saves yX4_saves : Cond) ∈ TT := TT_in 710 (by decide +kernel) rfl
set_option maxRecDepth 20000 in
theorem kc_X4_saves : (.code yX4_saves cX4_saves 5 (some .long) : Cond) ∈ TT := TT_in 711 rfl rfl
theorem km_L_98 : (.methodLink RL 98 yX4_misses : Cond) ∈ TT := TT_in 712 (by decide +kernel) rfl
theorem ki_X4_misses : (.instanceMethod yX4_misses : Cond) ∈ TT := TT_in 713 (by decide +kernel) rfl
theorem ks_X4_misses : (.selects RX4 yX4_misses yX4_misses : Cond) ∈ TT := TT_in 714 (by decide +kernel) rfl
set_option maxRecDepth 20000 in
theorem kc_X4_misses : (.code yX4_misses cX4_misses 8 (some .long) : Cond) ∈ TT := TT_in 715 rfl rfl
theorem km_L_102 : (.methodLink RL 102 yX4_owe : Cond) ∈ TT := TT_in 716 (by decide +kernel) rfl
theorem ki_X4_owe : (.instanceMethod yX4_owe : Cond) ∈ TT := TT_in 717 (by decide +kernel) rfl
theorem ks_X4_owe : (.selects RX4 yX4_owe yX4_owe : Cond) ∈ TT := TT_in 718 (by decide +kernel) rfl
set_option maxRecDepth 20000 in
theorem kc_X4_owe : (.code yX4_owe cX4_owe 3 (some .int) : Cond) ∈ TT := TT_in 719 rfl rfl
theorem km_L_106 : (.methodLink RL 106 yX4_pay : Cond) ∈ TT := TT_in 720 (by decide +kernel) rfl
theorem ki_X4_pay : (.instanceMethod yX4_pay : Cond) ∈ TT := TT_in 721 (by decide +kernel) rfl
theorem ks_X4_pay : (.selects RX4 yX4_pay yX4_pay : Cond) ∈ TT := TT_in 722 (by decide +kernel) rfl
set_option maxRecDepth 20000 in
theorem kc_X4_pay : (.code yX4_pay cX4_pay 3 (some .int) : Cond) ∈ TT := TT_in 723 rfl rfl
theorem km_X4_175 : (.methodLink RX4 175 yX4_paidAll : Cond) ∈ TT := TT_in 724 (by decide +kernel) rfl
theorem ki_X4_paidAll : (.instanceMethod yX4_paidAll : Cond) ∈ TT := TT_in 726 (by decide +kernel) rfl
set_option maxRecDepth 20000 in
theorem kc_X4_paidAll : (.code yX4_paidAll cX4_paidAll 4 (some .long) : Cond) ∈ TT := TT_in 727 rfl rfl
theorem km_L_110 : (.methodLink RL 110 yX4_refund : Cond) ∈ TT := TT_in 728 (by decide +kernel) rfl
theorem ki_X4_refund : (.instanceMethod yX4_refund : Cond) ∈ TT := TT_in 729 (by decide +kernel) rfl
theorem ks_X4_refund : (.selects RX4 yX4_refund yX4_refund : Cond) ∈ TT := TT_in 730 (by decide +kernel) rfl
set_option maxRecDepth 20000 in
theorem kc_X4_refund : (.code yX4_refund cX4_refund 3 (some .int) : Cond) ∈ TT := TT_in 731 rfl rfl
theorem km_L_114 : (.methodLink RL 114 yX4_fair : Cond) ∈ TT := TT_in 732 (by decide +kernel) rfl
theorem ki_X4_fair : (.instanceMethod yX4_fair : Cond) ∈ TT := TT_in 733 (by decide +kernel) rfl
theorem ks_X4_fair : (.selects RX4 yX4_fair yX4_fair : Cond) ∈ TT := TT_in 734 (by decide +kernel) rfl
set_option maxRecDepth 20000 in
theorem kc_X4_fair : (.code yX4_fair cX4_fair 3 (some .long) : Cond) ∈ TT := TT_in 735 rfl rfl
theorem km_X4_179 : (.methodLink RX4 179 yX4_findFair : Cond) ∈ TT := TT_in 736 (by decide +kernel) rfl
theorem ki_X4_findFair : (.instanceMethod yX4_findFair : Cond) ∈ TT := TT_in 738 (by decide +kernel) rfl
set_option maxRecDepth 20000 in
theorem kc_X4_findFair : (.code yX4_findFair cX4_findFair 2 none : Cond) ∈ TT := TT_in 739 rfl rfl
theorem km_L_118 : (.methodLink RL 118 yX4_over : Cond) ∈ TT := TT_in 740 (by decide +kernel) rfl
theorem ki_X4_over : (.instanceMethod yX4_over : Cond) ∈ TT := TT_in 741 (by decide +kernel) rfl
theorem ks_X4_over : (.selects RX4 yX4_over yX4_over : Cond) ∈ TT := TT_in 742 (by decide +kernel) rfl
set_option maxRecDepth 20000 in
theorem kc_X4_over : (.code yX4_over cX4_over 3 (some .long) : Cond) ∈ TT := TT_in 743 rfl rfl
theorem km_X4_182 : (.methodLink RX4 182 yX4_findOver : Cond) ∈ TT := TT_in 744 (by decide +kernel) rfl
theorem ki_X4_findOver : (.instanceMethod yX4_findOver : Cond) ∈ TT := TT_in 746 (by decide +kernel) rfl
set_option maxRecDepth 20000 in
theorem kc_X4_findOver : (.code yX4_findOver cX4_findOver 2 none : Cond) ∈ TT := TT_in 747 rfl rfl
theorem km_L_122 : (.methodLink RL 122 yX4_transfers : Cond) ∈ TT := TT_in 748 (by decide +kernel) rfl
theorem ki_X4_transfers : (.instanceMethod yX4_transfers : Cond) ∈ TT := TT_in 749 (by decide +kernel) rfl
theorem ks_X4_transfers : (.selects RX4 yX4_transfers yX4_transfers : Cond) ∈ TT := TT_in 750 (by decide +kernel) rfl
set_option maxRecDepth 20000 in
theorem kc_X4_transfers : (.code yX4_transfers cX4_transfers 1 (some .int) : Cond) ∈ TT := TT_in 751 rfl rfl
theorem km_X4_194 : (.methodLink RX4 194 yX4_findTransfers : Cond) ∈ TT := TT_in 752 (by decide +kernel) rfl
theorem ki_X4_findTransfers : (.instanceMethod yX4_findTransfers : Cond) ∈ TT := TT_in 754 (by decide +kernel) rfl
set_option maxRecDepth 20000 in
theorem kc_X4_findTransfers : (.code yX4_findTransfers cX4_findTransfers 3 none : Cond) ∈ TT := TT_in 755 rfl rfl
theorem km_X4_188 : (.methodLink RX4 188 yX4_firstWith : Cond) ∈ TT := TT_in 756 (by decide +kernel) rfl
theorem ki_X4_firstWith : (.instanceMethod yX4_firstWith : Cond) ∈ TT := TT_in 758 (by decide +kernel) rfl
set_option maxRecDepth 20000 in
theorem kc_X4_firstWith : (.code yX4_firstWith cX4_firstWith 3 (some .int) : Cond) ∈ TT := TT_in 759 rfl rfl
theorem km_X4_191 : (.methodLink RX4 191 yX4_goesOver : Cond) ∈ TT := TT_in 760 (by decide +kernel) rfl
theorem ki_X4_goesOver : (.instanceMethod yX4_goesOver : Cond) ∈ TT := TT_in 762 (by decide +kernel) rfl
set_option maxRecDepth 20000 in
theorem kc_X4_goesOver : (.code yX4_goesOver cX4_goesOver 7 none : Cond) ∈ TT := TT_in 763 rfl rfl
theorem km_L_126 : (.methodLink RL 126 yX4_transfer : Cond) ∈ TT := TT_in 764 (by decide +kernel) rfl
theorem ki_X4_transfer : (.instanceMethod yX4_transfer : Cond) ∈ TT := TT_in 765 (by decide +kernel) rfl
theorem ks_X4_transfer : (.selects RX4 yX4_transfer yX4_transfer : Cond) ∈ TT := TT_in 766 (by decide +kernel) rfl
set_option maxRecDepth 20000 in
theorem kc_X4_transfer : (.code yX4_transfer cX4_transfer 3 (some .int) : Cond) ∈ TT := TT_in 767 rfl rfl
theorem km_L_130 : (.methodLink RL 130 yX4_given : Cond) ∈ TT := TT_in 768 (by decide +kernel) rfl
theorem ki_X4_given : (.instanceMethod yX4_given : Cond) ∈ TT := TT_in 769 (by decide +kernel) rfl
theorem ks_X4_given : (.selects RX4 yX4_given yX4_given : Cond) ∈ TT := TT_in 770 (by decide +kernel) rfl
set_option maxRecDepth 20000 in
theorem kc_X4_given : (.code yX4_given cX4_given 3 (some .long) : Cond) ∈ TT := TT_in 771 rfl rfl
theorem km_L_134 : (.methodLink RL 134 yX4_many : Cond) ∈ TT := TT_in 772 (by decide +kernel) rfl
theorem ki_X4_many : (.instanceMethod yX4_many : Cond) ∈ TT := TT_in 773 (by decide +kernel) rfl
theorem ks_X4_many : (.selects RX4 yX4_many yX4_many : Cond) ∈ TT := TT_in 774 (by decide +kernel) rfl
set_option maxRecDepth 20000 in
theorem kc_X4_many : (.code yX4_many cX4_many 2 (some .int) : Cond) ∈ TT := TT_in 775 rfl rfl
theorem km_X4_197 : (.methodLink RX4 197 yX4_manyUnits : Cond) ∈ TT := TT_in 776 (by decide +kernel) rfl
theorem ki_X4_manyUnits : (.instanceMethod yX4_manyUnits : Cond) ∈ TT := TT_in 778 (by decide +kernel) rfl
set_option maxRecDepth 20000 in
theorem kc_X4_manyUnits : (.code yX4_manyUnits cX4_manyUnits 6 (some .int) : Cond) ∈ TT := TT_in 779 rfl rfl
theorem hiX0 : ∀ w ∈ u_ws RX0 TX0 5, w ∈ TT := fun w h => by
  have e : u_ws RX0 TX0 5 = [84, 86, 88, 90, 92].filterMap (fun i => lw_tbl[i]?) := by decide +kernel
  have g : (u_ws RX0 TX0 5).all goodWord = true := by decide +kernel
  have h1 := List.all_eq_true.mp g w h
  rw [e] at h
  obtain ⟨i, -, hi⟩ := List.mem_filterMap.mp h
  exact TT_in i hi h1
theorem hiX3 : ∀ w ∈ u_ws RX3 TX3 11, w ∈ TT := fun w h => by
  have e : u_ws RX3 TX3 11 = [108, 110, 112, 114, 116, 118, 120, 122, 124, 126, 128].filterMap (fun i => lw_tbl[i]?) := by decide +kernel
  have g : (u_ws RX3 TX3 11).all goodWord = true := by decide +kernel
  have h1 := List.all_eq_true.mp g w h
  rw [e] at h
  obtain ⟨i, -, hi⟩ := List.mem_filterMap.mp h
  exact TT_in i hi h1
theorem hiX2 : ∀ w ∈ u_ws RX2 TX2 2, w ∈ TT := fun w h => by
  have e : u_ws RX2 TX2 2 = [290, 292].filterMap (fun i => lw_tbl[i]?) := by decide +kernel
  have g : (u_ws RX2 TX2 2).all goodWord = true := by decide +kernel
  have h1 := List.all_eq_true.mp g w h
  rw [e] at h
  obtain ⟨i, -, hi⟩ := List.mem_filterMap.mp h
  exact TT_in i hi h1
theorem hiX1 : ∀ w ∈ u_ws RX1 TX1 7, w ∈ TT := fun w h => by
  have e : u_ws RX1 TX1 7 = [324, 326, 328, 330, 332, 334, 336].filterMap (fun i => lw_tbl[i]?) := by decide +kernel
  have g : (u_ws RX1 TX1 7).all goodWord = true := by decide +kernel
  have h1 := List.all_eq_true.mp g w h
  rw [e] at h
  obtain ⟨i, -, hi⟩ := List.mem_filterMap.mp h
  exact TT_in i hi h1
theorem hiX4 : ∀ w ∈ u_ws RX4 TX4 22, w ∈ TT := fun w h => by
  have e : u_ws RX4 TX4 22 = [489, 491, 493, 495, 497, 499, 501, 503, 505, 507, 509, 511, 513, 515, 517, 519, 521, 523, 525, 527, 529, 531].filterMap (fun i => lw_tbl[i]?) := by decide +kernel
  have g : (u_ws RX4 TX4 22).all goodWord = true := by decide +kernel
  have h1 := List.all_eq_true.mp g w h
  rw [e] at h
  obtain ⟨i, -, hi⟩ := List.mem_filterMap.mp h
  exact TT_in i hi h1
end
section
/-! ===== shapes of contracts, and rows over them ===== -/
section BASE
variable {p : Program} {l : Launch} {e : Env} {R : Room} {s : State} {m : MethodId} {args : Array Value} {below : List Frame} {meth : Method} {c : Code} {H : Heap} {locs : List Loc} {cells slots : Nat} {Q : State → Prop}
variable {pc : Nat} {ls : Array Slot} {rest st0 : List Value} {cc : ByteArray} {D : va_G} {tys : List (ClassId × FieldType)} {ws wc wr : va_W} {A : Nat → Prop} {H0 : Heap}
/-- words of a method: its code, and the tables' -/
def wT (y : MethodName) (bytes : ByteArray) (maxL : Nat) (ret : Option FieldType) : List Cond := Cond.code y bytes maxL ret :: TT
theorem wT_T {y : MethodName} {bytes : ByteArray} {maxL : Nat} {ret : Option FieldType} (h : ∀ w ∈ wT y bytes maxL ret, w.before args s = true) : ∀ w ∈ TT, w.before args s = true := fun w hw => h w (List.mem_cons_of_mem _ hw)
theorem wT_good {y : MethodName} {bytes : ByteArray} {maxL : Nat} {ret : Option FieldType} (hc : Cond.code y bytes maxL ret ∈ TT) : GoodIn TT (wT y bytes maxL ret) := by
  intro w hw
  rcases List.mem_cons.mp hw with h | h
  · subst h; exact ⟨hc, TT_good hc⟩
  · exact ⟨h, TT_good h⟩
theorem cwB (n : Nat) {own : String} {index : Nat} {y : MethodName} {bytes : ByteArray} {maxL : Nat} {ret : Option FieldType} {rm : Room} {mc ms : Nat} (hT : ∀ w ∈ TT, w.before args s = true) (hc : Cond.code y bytes maxL ret ∈ TT) (hl : Cond.methodLink own index y ∈ TT) (hini : Cond.initialized y.cls ∈ TT) (hrc : rm.cells = mc) (hrs : rm.slots = ms)
    (hd : y.cls ≠ "java/lang/invoke/MethodHandle" ∧ y.cls ≠ "java/lang/invoke/VarHandle" ∧ (parseMethodDescriptor y.desc).map (fun d => d.parameters.length) = some n) (hR : rm.frames + 1 ≤ R.frames ∧ 8 + (maxL + 11) + rm.locals ≤ R.locals) :
    CallB R s args own index y bytes maxL ret (wT y bytes maxL ret) rm mc ms n := callB_of (Ts := TT) n hT (wT_good hc) rfl hrc hrs (hT _ hini) (hT _ hl) hd hR
theorem cwTV (n : Nat) {own C : String} {index : Nat} {y : MethodName} {bytes : ByteArray} {maxL : Nat} {ret : Option FieldType} {rm : Room} {mc ms : Nat} (hT : ∀ w ∈ TT, w.before args s = true) (hc : Cond.code y bytes maxL ret ∈ TT) (hl : Cond.methodLink own index y ∈ TT) (hi : Cond.instanceMethod y ∈ TT) (hs : Cond.selects C y y ∈ TT) (hini : Cond.initialized y.cls ∈ TT) (hrc : rm.cells = mc) (hrs : rm.slots = ms)
    (hd : y.cls ≠ "java/lang/invoke/MethodHandle" ∧ y.cls ≠ "java/lang/invoke/VarHandle" ∧ (parseMethodDescriptor y.desc).map (fun d => d.parameters.length) = some n) (hR : rm.frames + 1 ≤ R.frames ∧ 8 + (maxL + 11) + rm.locals ≤ R.locals) :
    CallW R s args own C index y bytes maxL ret (wT y bytes maxL ret) rm mc ms n := ⟨cwB n hT hc hl hini hrc hrs hd hR, hT _ hi, hT _ hs⟩
theorem cwTS (n : Nat) {own : String} {index : Nat} {y : MethodName} {bytes : ByteArray} {maxL : Nat} {ret : Option FieldType} {rm : Room} {mc ms : Nat} (hT : ∀ w ∈ TT, w.before args s = true) (hc : Cond.code y bytes maxL ret ∈ TT) (hl : Cond.methodLink own index y ∈ TT) (hst : Cond.static y ∈ TT) (hini : Cond.initialized y.cls ∈ TT) (hrc : rm.cells = mc) (hrs : rm.slots = ms)
    (hd : y.cls ≠ "java/lang/invoke/MethodHandle" ∧ y.cls ≠ "java/lang/invoke/VarHandle" ∧ (parseMethodDescriptor y.desc).map (fun d => d.parameters.length) = some n) (hR : rm.frames + 1 ≤ R.frames ∧ 8 + (maxL + 11) + rm.locals ≤ R.locals) :
    CallB R s args own index y bytes maxL ret (wT y bytes maxL ret) rm mc ms n ∧ (Cond.static y).before args s = true := ⟨cwB n hT hc hl hini hrc hrs hd hR, hT _ hst⟩
theorem cwTI (n : Nat) {own : String} {index : Nat} {y : MethodName} {bytes : ByteArray} {maxL : Nat} {rm : Room} {mc ms : Nat} (hT : ∀ w ∈ TT, w.before args s = true) (hc : Cond.code y bytes maxL none ∈ TT) (hl : Cond.methodLink own index y ∈ TT) (hi : Cond.instanceMethod y ∈ TT) (hini : Cond.initialized y.cls ∈ TT) (hrc : rm.cells = mc) (hrs : rm.slots = ms) (hy1 : y.name = "<init>")
    (hd : y.cls ≠ "java/lang/invoke/MethodHandle" ∧ y.cls ≠ "java/lang/invoke/VarHandle" ∧ (parseMethodDescriptor y.desc).map (fun d => d.parameters.length) = some n) (hR : rm.frames + 1 ≤ R.frames ∧ 8 + (maxL + 11) + rm.locals ≤ R.locals) :
    CallB R s args own index y bytes maxL none (wT y bytes maxL none) rm mc ms n ∧ y.name = "<init>" ∧ (Cond.instanceMethod y).before args s = true := ⟨cwB n hT hc hl hini hrc hrs hd hR, hy1, hT _ hi⟩
/-- a method that reads: its world, its arguments -/
def pR (D : va_G) (tys : List (ClassId × FieldType)) (ws : va_W) (av : List Value) : Array Value → State → Prop := va_Pc av (fun U => va_P D vwCl ws U.heap ∧ va_K D vwCl tys U)
theorem pR_blind {av : List Value} : FrameBlind (pR D tys ws av) := fun a U g mk q => ⟨q.1, q.2.1, va_K.moved (u := U) (U := U.calling g mk a) (Vm.Alike.refl U.vm) q.2.2⟩
/-- a method that writes its world, or makes cells -/
def pM (D : va_G) (tys : List (ClassId × FieldType)) (ws : va_W) (av : List Value) (sz : Nat) : Array Value → State → Prop := va_Pc av (fun U => U.heap.size = sz ∧ va_P D vwCl ws U.heap ∧ va_K D vwCl tys U ∧ va_D (fun _ => True) ws)
theorem pM_blind {av : List Value} {sz : Nat} : FrameBlind (pM D tys ws av sz) := fun a U g mk q => ⟨q.1, q.2.1, q.2.2.1, va_K.moved (u := U) (U := U.calling g mk a) (Vm.Alike.refl U.vm) q.2.2.2.1, q.2.2.2.2⟩
/-- a method that reads a world and makes cells -/
def pN (D : va_G) (tys : List (ClassId × FieldType)) (ws : va_W) (av : List Value) (sz : Nat) : Array Value → State → Prop := va_Pc av (fun U => U.heap.size = sz ∧ va_P D vwCl ws U.heap ∧ va_K D vwCl tys U)
theorem pN_blind {av : List Value} {sz : Nat} : FrameBlind (pN D tys ws av sz) := fun a U g mk q => ⟨q.1, q.2.1, q.2.2.1, va_K.moved (u := U) (U := U.calling g mk a) (Vm.Alike.refl U.vm) q.2.2.2⟩
/-- the world behind -/
def bM (D : va_G) (tys : List (ClassId × FieldType)) (A : Nat → Prop) (w : va_W) (t : State) : Prop := va_P D vwCl w t.heap ∧ va_K D vwCl tys t ∧ va_D A w
theorem keepP {w : va_W} (h : va_P D vwCl w s.heap) (hS : va_S (fun q : Nat => s.heap.size ≤ q) s.heap H locs) : va_P D vwCl w H := h.kept (fun k q hk => hS.2.1 q.1 (h k q hk).lt (Nat.not_le.mpr (h k q hk).lt))
-- ---- runs
theorem rRV {own C : String} {index n maxL nL : Nat} {y : MethodName} {bytes : ByteArray} {ret : Option FieldType} {wsy : List Cond} {rm : Room} {Qc : Array Value → State → Outcome → State → Prop} {b : Addr} {As : List Value} {Ts : List Cond} (S : CallFix p m c cc nL s args Ts own) (hM : Met l y wsy rm (pR D tys wc (.ref b :: As)) Qc 0 0 (fun _ => False)) (cw : CallW R s args own C index y bytes maxL ret wsy rm 0 0 n) (hP : va_P D vwCl wc H) (hK : va_K D vwCl tys s) (hrec : ∃ cell : Cell, H[b]? = some cell ∧ cell.vm.isStatics = false ∧ s.vm.findClass C = some cell.cls) (hn : As.length = n) (hsz : ls.size = nL) (hst : st0 = As.reverse ++ .ref b :: rest) (hW : (rest.map fun v => v.category).sum ≤ 8) (hdg : decode cc pc = .ok (.invokevirtual index, 3)) (hf : cells + 0 ≤ R.cells ∧ slots + 0 ≤ R.slots) :
    CallRun p l e R s m args below meth c H locs cells slots 0 0 (F0 m pc ls st0) rest (Qc (Value.ref b :: As).toArray) (fun _ => False) :=
  W.runV S hM cw ⟨pR_blind, hrec, fun U hU hW => ⟨rfl, by rw [hU]; exact hP, va_K.moved hW.alike hK⟩⟩ rfl hn hsz hst (lv_room hW) hdg hf
theorem rRS {own : String} {index n maxL nL : Nat} {y : MethodName} {bytes : ByteArray} {ret : Option FieldType} {wsy : List Cond} {rm : Room} {Qc : Array Value → State → Outcome → State → Prop} {As : List Value} {Ts : List Cond} (S : CallFix p m c cc nL s args Ts own) (hM : Met l y wsy rm (pR D tys wc As) Qc 0 0 (fun _ => False)) (cw : CallB R s args own index y bytes maxL ret wsy rm 0 0 n ∧ (Cond.static y).before args s = true) (hP : va_P D vwCl wc H) (hK : va_K D vwCl tys s) (hn : As.length = n) (hsz : ls.size = nL) (hst : st0 = As.reverse ++ rest) (hW : (rest.map fun v => v.category).sum ≤ 8) (hdg : decode cc pc = .ok (.invokestatic index, 3)) (hf : cells + 0 ≤ R.cells ∧ slots + 0 ≤ R.slots) :
    CallRun p l e R s m args below meth c H locs cells slots 0 0 (F0 m pc ls st0) rest (Qc As.toArray) (fun _ => False) :=
  W.runS S hM cw ⟨pR_blind, fun U hU hW => ⟨rfl, by rw [hU]; exact hP, va_K.moved hW.alike hK⟩⟩ rfl hn hsz hst (lv_room hW) hdg hf
theorem rMV {own C : String} {index n maxL nL mc ms : Nat} {y : MethodName} {bytes : ByteArray} {ret : Option FieldType} {wsy : List Cond} {rm : Room} {Qc : Array Value → State → Outcome → State → Prop} {free B : Addr → Prop} {b : Addr} {As : List Value} {Ts : List Cond} (S : CallFix p m c cc nL s args Ts own) (hM : Met l y wsy rm (pM D tys wc (.ref b :: As) H.size) Qc mc ms free) (cw : CallW R s args own C index y bytes maxL ret wsy rm mc ms n) (hP : va_P D vwCl wc H) (hD : va_D B wc) (hK : va_K D vwCl tys s) (hrec : ∃ cell : Cell, H[b]? = some cell ∧ cell.vm.isStatics = false ∧ s.vm.findClass C = some cell.cls) (hn : As.length = n) (hsz : ls.size = nL) (hst : st0 = As.reverse ++ .ref b :: rest) (hW : (rest.map fun v => v.category).sum ≤ 8) (hdg : decode cc pc = .ok (.invokevirtual index, 3)) (hf : cells + mc ≤ R.cells ∧ slots + ms ≤ R.slots) :
    va_Run p l e R s m args below meth c H locs cells slots mc ms (F0 m pc ls st0) rest (Qc (Value.ref b :: As).toArray) free :=
  va_runV S hM cw ⟨pM_blind, hrec, fun U hU hW => ⟨rfl, by rw [hU], by rw [hU]; exact hP, va_K.moved hW.alike hK, hD.weaken (fun _ _ _ _ => trivial)⟩⟩ rfl hn hsz hst (lv_room hW) hdg hf
theorem rMS {own : String} {index n maxL nL mc ms : Nat} {y : MethodName} {bytes : ByteArray} {ret : Option FieldType} {wsy : List Cond} {rm : Room} {Qc : Array Value → State → Outcome → State → Prop} {free B : Addr → Prop} {As : List Value} {Ts : List Cond} (S : CallFix p m c cc nL s args Ts own) (hM : Met l y wsy rm (pM D tys wc As H.size) Qc mc ms free) (cw : CallB R s args own index y bytes maxL ret wsy rm mc ms n ∧ (Cond.static y).before args s = true) (hP : va_P D vwCl wc H) (hD : va_D B wc) (hK : va_K D vwCl tys s) (hn : As.length = n) (hsz : ls.size = nL) (hst : st0 = As.reverse ++ rest) (hW : (rest.map fun v => v.category).sum ≤ 8) (hdg : decode cc pc = .ok (.invokestatic index, 3)) (hf : cells + mc ≤ R.cells ∧ slots + ms ≤ R.slots) :
    va_Run p l e R s m args below meth c H locs cells slots mc ms (F0 m pc ls st0) rest (Qc As.toArray) free :=
  va_runS S hM cw ⟨pM_blind, fun U hU hW => ⟨rfl, by rw [hU], by rw [hU]; exact hP, va_K.moved hW.alike hK, hD.weaken (fun _ _ _ _ => trivial)⟩⟩ rfl hn hsz hst (lv_room hW) hdg hf
theorem rMI {own : String} {index n maxL nL mc ms : Nat} {y : MethodName} {bytes : ByteArray} {wsy : List Cond} {rm : Room} {Qc : Array Value → State → Outcome → State → Prop} {free B : Addr → Prop} {b : Addr} {As : List Value} {Ts : List Cond} (S : CallFix p m c cc nL s args Ts own) (hM : Met l y wsy rm (pM D tys wc (.ref b :: As) H.size) Qc mc ms free) (cw : CallB R s args own index y bytes maxL none wsy rm mc ms n ∧ y.name = "<init>" ∧ (Cond.instanceMethod y).before args s = true) (hP : va_P D vwCl wc H) (hD : va_D B wc) (hK : va_K D vwCl tys s) (hn : As.length = n) (hsz : ls.size = nL) (hst : st0 = As.reverse ++ .ref b :: rest) (hW : (rest.map fun v => v.category).sum ≤ 8) (hdg : decode cc pc = .ok (.invokespecial index, 3)) (hf : cells + mc ≤ R.cells ∧ slots + ms ≤ R.slots) :
    va_Run p l e R s m args below meth c H locs cells slots mc ms (F0 m pc ls st0) rest (Qc (Value.ref b :: As).toArray) free :=
  va_runI S hM cw ⟨pM_blind, fun U hU hW => ⟨rfl, by rw [hU], by rw [hU]; exact hP, va_K.moved hW.alike hK, hD.weaken (fun _ _ _ _ => trivial)⟩⟩ rfl hn hsz hst (lv_room hW) hdg hf
theorem rNV {own C : String} {index n maxL nL mc ms : Nat} {y : MethodName} {bytes : ByteArray} {ret : Option FieldType} {wsy : List Cond} {rm : Room} {Qc : Array Value → State → Outcome → State → Prop} {free : Addr → Prop} {b : Addr} {As : List Value} {Ts : List Cond} (S : CallFix p m c cc nL s args Ts own) (hM : Met l y wsy rm (pN D tys wc (.ref b :: As) H.size) Qc mc ms free) (cw : CallW R s args own C index y bytes maxL ret wsy rm mc ms n) (hP : va_P D vwCl wc H) (hK : va_K D vwCl tys s) (hrec : ∃ cell : Cell, H[b]? = some cell ∧ cell.vm.isStatics = false ∧ s.vm.findClass C = some cell.cls) (hn : As.length = n) (hsz : ls.size = nL) (hst : st0 = As.reverse ++ .ref b :: rest) (hW : (rest.map fun v => v.category).sum ≤ 8) (hdg : decode cc pc = .ok (.invokevirtual index, 3)) (hf : cells + mc ≤ R.cells ∧ slots + ms ≤ R.slots) :
    va_Run p l e R s m args below meth c H locs cells slots mc ms (F0 m pc ls st0) rest (Qc (Value.ref b :: As).toArray) free :=
  va_runV S hM cw ⟨pN_blind, hrec, fun U hU hW => ⟨rfl, by rw [hU], by rw [hU]; exact hP, va_K.moved hW.alike hK⟩⟩ rfl hn hsz hst (lv_room hW) hdg hf
theorem rNS {own : String} {index n maxL nL mc ms : Nat} {y : MethodName} {bytes : ByteArray} {ret : Option FieldType} {wsy : List Cond} {rm : Room} {Qc : Array Value → State → Outcome → State → Prop} {free : Addr → Prop} {As : List Value} {Ts : List Cond} (S : CallFix p m c cc nL s args Ts own) (hM : Met l y wsy rm (pN D tys wc As H.size) Qc mc ms free) (cw : CallB R s args own index y bytes maxL ret wsy rm mc ms n ∧ (Cond.static y).before args s = true) (hP : va_P D vwCl wc H) (hK : va_K D vwCl tys s) (hn : As.length = n) (hsz : ls.size = nL) (hst : st0 = As.reverse ++ rest) (hW : (rest.map fun v => v.category).sum ≤ 8) (hdg : decode cc pc = .ok (.invokestatic index, 3)) (hf : cells + mc ≤ R.cells ∧ slots + ms ≤ R.slots) :
    va_Run p l e R s m args below meth c H locs cells slots mc ms (F0 m pc ls st0) rest (Qc As.toArray) free :=
  va_runS S hM cw ⟨pN_blind, fun U hU hW => ⟨rfl, by rw [hU], by rw [hU]; exact hP, va_K.moved hW.alike hK⟩⟩ rfl hn hsz hst (lv_room hW) hdg hf
-- ---- frames: the callee's world stands first, the rest behind it
theorem fr_app {w1 : va_W} {H1 : Heap} (hP : va_P D vwCl (wc ++ wr) H) (hD : va_D A (wc ++ wr)) (hk : ∀ q : Nat, q < H.size → ¬ va_A wc H.size q → H1[q]? = H[q]?) (hF : ∀ q, va_A wc H.size q → A q) (hP1 : va_P D vwCl w1 H1) (hD1 : va_D (va_A wc H.size) w1) : va_P D vwCl (w1 ++ wr) H1 ∧ va_D A (w1 ++ wr) := by
  have hr : ∀ (k : Nat) (q : Nat × va_E), wr[k]? = some q → (wc ++ wr)[wc.length + k]? = some q := fun k q hq => by rw [List.getElem?_append_right (Nat.le_add_right _ _), Nat.add_sub_cancel_left]; exact hq
  have apart : ∀ (k : Nat) (q : Nat × va_E), wr[k]? = some q → q.1 < H.size ∧ ¬ va_A wc H.size q.1 := by
    intro k q hq
    have hl := (hP _ q (hr k q hq)).lt
    refine ⟨hl, fun h => ?_⟩
    rcases h with ⟨k2, e2, h⟩ | h
    · have hk2 : k2 < wc.length := by
        rcases Nat.lt_or_ge k2 wc.length with h3 | h3
        · exact h3
        · rw [List.getElem?_eq_none h3] at h; cases h
      have h4 : (wc ++ wr)[k2]? = some (q.1, e2) := by rw [List.getElem?_append_left hk2]; exact h
      have := hD.1 _ _ _ _ (hr k q hq) h4 rfl
      omega
    · omega
  refine ⟨va_P.app hP1 (fun k q hq => ((hP _ q (hr k q hq))).kept (hk q.1 (apart k q hq).1 (apart k q hq).2)), va_D.app (hD1.weaken (fun k q _ h => hF q.1 h)) ⟨fun i j x y hx hy hxy => ?_, fun k q hq => hD.2 _ q (hr k q hq)⟩ (fun i j x y hx hy hxy => ?_)⟩
  · have := hD.1 _ _ _ _ (hr i x hx) (hr j y hy) hxy
    omega
  · exact (apart j y hy).2 (by rw [← hxy]; exact hD1.2 i x hx)
theorem fr_free (hD : va_D A (wc ++ wr)) (hS : va_S A H0 H locs) (hA : ∀ q, H0.size ≤ q → A q) : ∀ q, va_A wc H.size q → A q := by
  intro q h
  rcases h with ⟨k, e2, h⟩ | h
  · have hk2 : k < wc.length := by
      rcases Nat.lt_or_ge k wc.length with h3 | h3
      · exact h3
      · rw [List.getElem?_eq_none h3] at h; cases h
    exact hD.2 k (q, e2) (by rw [List.getElem?_append_left hk2]; exact h)
  · exact hA q (Nat.le_trans hS.1 h)
theorem fM_v {S : Type} {post : S → Prop} {w2 : S → va_W} {mc ms : Nat} {a : Array Value} (hr : va_Run p l e R s m args below meth c H locs cells slots mc ms (F0 m pc ls st0) rest (va_Qv post (fun u t => bM D tys (va_A wc H.size) (w2 u) t) (va_A wc H.size) a) (va_A wc H.size)) (hP : va_P D vwCl (wc ++ wr) H) (hD : va_D A (wc ++ wr)) (hS : va_S A H0 H locs) (hA : ∀ q, H0.size ≤ q → A q)
    (kk : ∀ (u : S) (H1 : Heap) (locs1 : List Loc), post u → va_P D vwCl (w2 u ++ wr) H1 → va_D A (w2 u ++ wr) → va_S A H0 H1 locs1 → W p l e R s m args below meth c H1 locs1 (cells + mc) (slots + ms) Q (F0 m (pc + 3) ls rest)) : W p l e R s m args below meth c H locs cells slots Q (F0 m pc ls st0) := by
  have hF := fr_free hD hS hA
  refine va_callv hr hS (fun q _ h => hF q h) hF (fun u t H1 locs1 ht hvm hw hB hz hk hS1 => ?_)
  obtain ⟨hP1, -, hD1⟩ := hB
  rw [ht] at hP1
  obtain ⟨h1, h2⟩ := fr_app hP hD hk hF hP1 hD1
  exact kk u H1 locs1 hw h1 h2 hS1
theorem fM_i {S : Type} {post : Int32 → S → Prop} {w2 : S → va_W} {mc ms : Nat} {a : Array Value} (hr : va_Run p l e R s m args below meth c H locs cells slots mc ms (F0 m pc ls st0) rest (va_Qi post (fun u t => bM D tys (va_A wc H.size) (w2 u) t) (va_A wc H.size) a) (va_A wc H.size)) (hP : va_P D vwCl (wc ++ wr) H) (hD : va_D A (wc ++ wr)) (hS : va_S A H0 H locs) (hA : ∀ q, H0.size ≤ q → A q)
    (kk : ∀ (r : Int32) (u : S) (H1 : Heap) (locs1 : List Loc), post r u → va_P D vwCl (w2 u ++ wr) H1 → va_D A (w2 u ++ wr) → va_S A H0 H1 locs1 → W p l e R s m args below meth c H1 locs1 (cells + mc) (slots + ms) Q (F0 m (pc + 3) ls (.int r :: rest))) : W p l e R s m args below meth c H locs cells slots Q (F0 m pc ls st0) := by
  have hF := fr_free hD hS hA
  refine va_calli hr hS (fun q _ h => hF q h) hF (fun r u t H1 locs1 ht hvm hw hB hz hk hS1 => ?_)
  obtain ⟨hP1, -, hD1⟩ := hB
  rw [ht] at hP1
  obtain ⟨h1, h2⟩ := fr_app hP hD hk hF hP1 hD1
  exact kk r u H1 locs1 hw h1 h2 hS1
theorem fM_l {S : Type} {post : Int64 → S → Prop} {w2 : S → va_W} {mc ms : Nat} {a : Array Value} (hr : va_Run p l e R s m args below meth c H locs cells slots mc ms (F0 m pc ls st0) rest (va_Ql post (fun u t => bM D tys (va_A wc H.size) (w2 u) t) (va_A wc H.size) a) (va_A wc H.size)) (hP : va_P D vwCl (wc ++ wr) H) (hD : va_D A (wc ++ wr)) (hS : va_S A H0 H locs) (hA : ∀ q, H0.size ≤ q → A q)
    (kk : ∀ (r : Int64) (u : S) (H1 : Heap) (locs1 : List Loc), post r u → va_P D vwCl (w2 u ++ wr) H1 → va_D A (w2 u ++ wr) → va_S A H0 H1 locs1 → W p l e R s m args below meth c H1 locs1 (cells + mc) (slots + ms) Q (F0 m (pc + 3) ls (.long r :: rest))) : W p l e R s m args below meth c H locs cells slots Q (F0 m pc ls st0) := by
  have hF := fr_free hD hS hA
  refine va_calll hr hS (fun q _ h => hF q h) hF (fun r u t H1 locs1 ht hvm hw hB hz hk hS1 => ?_)
  obtain ⟨hP1, -, hD1⟩ := hB
  rw [ht] at hP1
  obtain ⟨h1, h2⟩ := fr_app hP hD hk hF hP1 hD1
  exact kk r u H1 locs1 hw h1 h2 hS1
/-- a reader that makes cells: nothing old has changed -/
theorem fr_new {w1 : va_W} {H1 : Heap} (hP : va_P D vwCl ws H) (hD : va_D A ws) (hk : ∀ q : Nat, q < H.size → ¬ H.size ≤ q → H1[q]? = H[q]?) (hF : ∀ q, H.size ≤ q → A q) (hP1 : va_P D vwCl w1 H1) (hD1 : va_D (fun q : Nat => H.size ≤ q) w1) : va_P D vwCl (ws ++ w1) H1 ∧ va_D A (ws ++ w1) := by
  refine ⟨va_P.app (fun k q hq => (hP k q hq).kept (hk q.1 (hP k q hq).lt (Nat.not_le.mpr (hP k q hq).lt))) hP1, va_D.app hD (hD1.weaken (fun k q _ h => hF q.1 h)) (fun i j x y hx hy hxy => ?_)⟩
  have h1 := (hP i x hx).lt
  have h2 := hD1.2 j y hy
  omega
theorem fN_r {S : Type} {post : S → Prop} {w2 : S → Nat → va_W} {mc ms : Nat} {a : Array Value} (hr : va_Run p l e R s m args below meth c H locs cells slots mc ms (F0 m pc ls st0) rest (va_Qr post (fun u b t => bM D tys (fun q : Nat => H.size ≤ q) (w2 u b) t) (fun q : Nat => H.size ≤ q) a) (fun q : Nat => H.size ≤ q)) (hP : va_P D vwCl ws H) (hD : va_D A ws) (hS : va_S A H0 H locs) (hA : ∀ q, H0.size ≤ q → A q)
    (kk : ∀ (u : S) (b : Nat) (H1 : Heap) (locs1 : List Loc), post u → va_P D vwCl (ws ++ w2 u b) H1 → va_D A (ws ++ w2 u b) → va_S A H0 H1 locs1 → W p l e R s m args below meth c H1 locs1 (cells + mc) (slots + ms) Q (F0 m (pc + 3) ls (.ref b :: rest))) : W p l e R s m args below meth c H locs cells slots Q (F0 m pc ls st0) := by
  have hF : ∀ q, H.size ≤ q → A q := fun q h => hA q (Nat.le_trans hS.1 h)
  refine va_callr hr hS (fun q _ h => hF q h) hF (fun u b t H1 locs1 ht hvm hw hB hz hk hS1 => ?_)
  obtain ⟨hP1, -, hD1⟩ := hB
  rw [ht] at hP1
  obtain ⟨h1, h2⟩ := fr_new hP hD hk hF hP1 hD1
  exact kk u b H1 locs1 hw h1 h2 hS1
theorem fN_l {S : Type} {post : Int64 → S → Prop} {B : S → State → Prop} {mc ms : Nat} {a : Array Value} (hr : va_Run p l e R s m args below meth c H locs cells slots mc ms (F0 m pc ls st0) rest (va_Ql post B (fun q : Nat => H.size ≤ q) a) (fun q : Nat => H.size ≤ q)) (hP : va_P D vwCl ws H) (hS : va_S A H0 H locs) (hA : ∀ q, H0.size ≤ q → A q)
    (kk : ∀ (r : Int64) (u : S) (H1 : Heap) (locs1 : List Loc), post r u → va_P D vwCl ws H1 → va_S A H0 H1 locs1 → W p l e R s m args below meth c H1 locs1 (cells + mc) (slots + ms) Q (F0 m (pc + 3) ls (.long r :: rest))) : W p l e R s m args below meth c H locs cells slots Q (F0 m pc ls st0) := by
  have hF : ∀ q, H.size ≤ q → A q := fun q h => hA q (Nat.le_trans hS.1 h)
  refine va_calll hr hS (fun q _ h => hF q h) hF (fun r u t H1 locs1 ht hvm hw hB hz hk hS1 => ?_)
  exact kk r u H1 locs1 hw (fun k q hq => (hP k q hq).kept (hk q.1 (hP k q hq).lt (Nat.not_le.mpr (hP k q hq).lt))) hS1
theorem fN_i {S : Type} {post : Int32 → S → Prop} {B : S → State → Prop} {mc ms : Nat} {a : Array Value} (hr : va_Run p l e R s m args below meth c H locs cells slots mc ms (F0 m pc ls st0) rest (va_Qi post B (fun q : Nat => H.size ≤ q) a) (fun q : Nat => H.size ≤ q)) (hP : va_P D vwCl ws H) (hS : va_S A H0 H locs) (hA : ∀ q, H0.size ≤ q → A q)
    (kk : ∀ (r : Int32) (u : S) (H1 : Heap) (locs1 : List Loc), post r u → va_P D vwCl ws H1 → va_S A H0 H1 locs1 → W p l e R s m args below meth c H1 locs1 (cells + mc) (slots + ms) Q (F0 m (pc + 3) ls (.int r :: rest))) : W p l e R s m args below meth c H locs cells slots Q (F0 m pc ls st0) := by
  have hF : ∀ q, H.size ≤ q → A q := fun q h => hA q (Nat.le_trans hS.1 h)
  refine va_calli hr hS (fun q _ h => hF q h) hF (fun r u t H1 locs1 ht hvm hw hB hz hk hS1 => ?_)
  exact kk r u H1 locs1 hw (fun k q hq => (hP k q hq).kept (hk q.1 (hP k q hq).lt (Nat.not_le.mpr (hP k q hq).lt))) hS1
-- ---- arrays by a natural place
theorem ald_i {ws : va_W} (hexec : p.tables.exec = Jvm.exec) (hb : c.code = cc) (hK : va_K D vwCl tys s) (hP : va_P D vwCl ws H) (q0 t0 : Nat) {a : Nat} {cA : ClassId} {n : Nat} {f : Nat → Int32} (ha : ws[q0]? = some (a, .inl (cA, n, .inl f))) (ht : tys[t0]? = some (cA, .int)) (hn : n < 2 ^ 31) {w : Nat} {i : Int32} (hi : i = nI w) (hw : w < n) (hdg : decode cc pc = .ok (.iaload, 1))
    (kk : W p l e R s m args below meth c H locs cells slots Q (F0 m (pc + 1) ls (.int (f w) :: rest))) : W p l e R s m args below meth c H locs cells slots Q (F0 m pc ls (.int i :: .ref a :: rest)) := by
  subst hi
  refine va_iald hexec hb hK hP q0 t0 ha ht (vp_in_nI hw hn) hdg ?_
  rw [nI_clamp (by omega)]
  exact kk
theorem ald_z {ws : va_W} (hexec : p.tables.exec = Jvm.exec) (hb : c.code = cc) (hK : va_K D vwCl tys s) (hP : va_P D vwCl ws H) (q0 t0 : Nat) {a : Nat} {cA : ClassId} {n : Nat} {f : Nat → Int32} (ha : ws[q0]? = some (a, .inl (cA, n, .inl f))) (ht : tys[t0]? = some (cA, .boolean)) (hn : n < 2 ^ 31) {w : Nat} {i : Int32} (hi : i = nI w) (hw : w < n) (hdg : decode cc pc = .ok (.baload, 1))
    (kk : W p l e R s m args below meth c H locs cells slots Q (F0 m (pc + 1) ls (.int (f w) :: rest))) : W p l e R s m args below meth c H locs cells slots Q (F0 m pc ls (.int i :: .ref a :: rest)) := by
  subst hi
  refine va_zald hexec hb hK hP q0 t0 ha ht (vp_in_nI hw hn) hdg ?_
  rw [nI_clamp (by omega)]
  exact kk
theorem ald_l {ws : va_W} (hexec : p.tables.exec = Jvm.exec) (hb : c.code = cc) (hK : va_K D vwCl tys s) (hP : va_P D vwCl ws H) (q0 t0 : Nat) {a : Nat} {cA : ClassId} {n : Nat} {f : Nat → Int64} (ha : ws[q0]? = some (a, .inl (cA, n, .inr (.inl f)))) (ht : tys[t0]? = some (cA, .long)) (hn : n < 2 ^ 31) {w : Nat} {i : Int32} (hi : i = nI w) (hw : w < n) (hdg : decode cc pc = .ok (.laload, 1))
    (kk : W p l e R s m args below meth c H locs cells slots Q (F0 m (pc + 1) ls (.long (f w) :: rest))) : W p l e R s m args below meth c H locs cells slots Q (F0 m pc ls (.int i :: .ref a :: rest)) := by
  subst hi
  refine va_lald hexec hb hK hP q0 t0 ha ht (vp_in_nI hw hn) hdg ?_
  rw [nI_clamp (by omega)]
  exact kk
theorem ast_i {ws : va_W} (hexec : p.tables.exec = Jvm.exec) (hb : c.code = cc) (hK : va_K D vwCl tys s) (hP : va_P D vwCl ws H) (hD : va_D A ws) (hS : va_S A H0 H locs) (q0 t0 : Nat) {a : Nat} {cA : ClassId} {n : Nat} {f : Nat → Int32} (ha : ws[q0]? = some (a, .inl (cA, n, .inl f))) (ht : tys[t0]? = some (cA, .int)) (hn : n < 2 ^ 31) {w : Nat} {i x : Int32} (hi : i = nI w) (hw : w < n) (hdg : decode cc pc = .ok (.iastore, 1))
    (kk : ∀ (H1 : Heap) (locs1 : List Loc), va_P D vwCl (ws.set q0 (a, .inl (cA, n, .inl (upd f w x)))) H1 → va_D A (ws.set q0 (a, .inl (cA, n, .inl (upd f w x)))) → va_S A H0 H1 locs1 → W p l e R s m args below meth c H1 locs1 cells slots Q (F0 m (pc + 1) ls rest)) : W p l e R s m args below meth c H locs cells slots Q (F0 m pc ls (.int x :: .int i :: .ref a :: rest)) := by
  subst hi
  refine va_iast hexec hb hK hP hD hS q0 t0 ha ht (vp_in_nI hw hn) hdg ?_
  rw [nI_clamp (by omega)]
  exact kk
theorem nar_z {x : Int32} (h : x = 0 ∨ x = 1) : vp_nar .boolean x = x := by rcases h with rfl | rfl <;> rfl
theorem ast_z {ws : va_W} (hexec : p.tables.exec = Jvm.exec) (hb : c.code = cc) (hK : va_K D vwCl tys s) (hP : va_P D vwCl ws H) (hD : va_D A ws) (hS : va_S A H0 H locs) (q0 t0 : Nat) {a : Nat} {cA : ClassId} {n : Nat} {f : Nat → Int32} (ha : ws[q0]? = some (a, .inl (cA, n, .inl f))) (ht : tys[t0]? = some (cA, .boolean)) (hn : n < 2 ^ 31) {w : Nat} {i x : Int32} (hi : i = nI w) (hw : w < n) (hz : x = 0 ∨ x = 1) (hdg : decode cc pc = .ok (.bastore, 1))
    (kk : ∀ (H1 : Heap) (locs1 : List Loc), va_P D vwCl (ws.set q0 (a, .inl (cA, n, .inl (upd f w x)))) H1 → va_D A (ws.set q0 (a, .inl (cA, n, .inl (upd f w x)))) → va_S A H0 H1 locs1 → W p l e R s m args below meth c H1 locs1 cells slots Q (F0 m (pc + 1) ls rest)) : W p l e R s m args below meth c H locs cells slots Q (F0 m pc ls (.int x :: .int i :: .ref a :: rest)) := by
  subst hi
  refine va_zast hexec hb hK hP hD hS q0 t0 ha ht (vp_in_nI hw hn) hdg ?_
  rw [nI_clamp (by omega), nar_z hz]
  exact kk
theorem ast_l {ws : va_W} (hexec : p.tables.exec = Jvm.exec) (hb : c.code = cc) (hK : va_K D vwCl tys s) (hP : va_P D vwCl ws H) (hD : va_D A ws) (hS : va_S A H0 H locs) (q0 t0 : Nat) {a : Nat} {cA : ClassId} {n : Nat} {f : Nat → Int64} (ha : ws[q0]? = some (a, .inl (cA, n, .inr (.inl f)))) (ht : tys[t0]? = some (cA, .long)) (hn : n < 2 ^ 31) {w : Nat} {i : Int32} {x : Int64} (hi : i = nI w) (hw : w < n) (hdg : decode cc pc = .ok (.lastore, 1))
    (kk : ∀ (H1 : Heap) (locs1 : List Loc), va_P D vwCl (ws.set q0 (a, .inl (cA, n, .inr (.inl (vp_updL f w x))))) H1 → va_D A (ws.set q0 (a, .inl (cA, n, .inr (.inl (vp_updL f w x))))) → va_S A H0 H1 locs1 → W p l e R s m args below meth c H1 locs1 cells slots Q (F0 m (pc + 1) ls rest)) : W p l e R s m args below meth c H locs cells slots Q (F0 m pc ls (.long x :: .int i :: .ref a :: rest)) := by
  subst hi
  refine va_last hexec hb hK hP hD hS q0 t0 ha ht (vp_in_nI hw hn) hdg ?_
  rw [nI_clamp (by omega)]
  exact kk
-- ---- long compares with the branch behind them
theorem lc_le {x y : Int64} {off : Int} {tgt : Nat} (hx : p.tables.exec = Jvm.exec) (hb : c.code = cc) (hd1 : decode cc pc = .ok (.lcmp, 1)) (hd2 : decode cc (pc + 1) = .ok (.ifCond .le off, 3)) (ht : ((pc + 1 : Nat) : Int) + off = (tgt : Int)) (kt : x ≤ y → W p l e R s m args below meth c H locs cells slots Q (F0 m tgt ls rest)) (kf : ¬ x ≤ y → W p l e R s m args below meth c H locs cells slots Q (F0 m (pc + 1 + 3) ls rest)) : W p l e R s m args below meth c H locs cells slots Q (F0 m pc ls (.long y :: .long x :: rest)) :=
  W.lcmp hx hb hd1 (lv_if_le hx hb hd2 ht (fun h => kt ((lg_cmp_le x y).mp h)) (fun h => kf (fun h2 => h ((lg_cmp_le x y).mpr h2))))
theorem lc_ge {x y : Int64} {off : Int} {tgt : Nat} (hx : p.tables.exec = Jvm.exec) (hb : c.code = cc) (hd1 : decode cc pc = .ok (.lcmp, 1)) (hd2 : decode cc (pc + 1) = .ok (.ifCond .ge off, 3)) (ht : ((pc + 1 : Nat) : Int) + off = (tgt : Int)) (kt : y ≤ x → W p l e R s m args below meth c H locs cells slots Q (F0 m tgt ls rest)) (kf : ¬ y ≤ x → W p l e R s m args below meth c H locs cells slots Q (F0 m (pc + 1 + 3) ls rest)) : W p l e R s m args below meth c H locs cells slots Q (F0 m pc ls (.long y :: .long x :: rest)) :=
  W.lcmp hx hb hd1 (lv_if_ge hx hb hd2 ht (fun h => kt ((lg_cmp_ge x y).mp h)) (fun h => kf (fun h2 => h ((lg_cmp_ge x y).mpr h2))))
theorem lc_gt {x y : Int64} {off : Int} {tgt : Nat} (hx : p.tables.exec = Jvm.exec) (hb : c.code = cc) (hd1 : decode cc pc = .ok (.lcmp, 1)) (hd2 : decode cc (pc + 1) = .ok (.ifCond .gt off, 3)) (ht : ((pc + 1 : Nat) : Int) + off = (tgt : Int)) (kt : y < x → W p l e R s m args below meth c H locs cells slots Q (F0 m tgt ls rest)) (kf : ¬ y < x → W p l e R s m args below meth c H locs cells slots Q (F0 m (pc + 1 + 3) ls rest)) : W p l e R s m args below meth c H locs cells slots Q (F0 m pc ls (.long y :: .long x :: rest)) :=
  W.lcmp hx hb hd1 (lv_if_gt hx hb hd2 ht (fun h => kt ((lg_cmp_gt x y).mp h)) (fun h => kf (fun h2 => h ((lg_cmp_gt x y).mpr h2))))
theorem lc_lt {x y : Int64} {off : Int} {tgt : Nat} (hx : p.tables.exec = Jvm.exec) (hb : c.code = cc) (hd1 : decode cc pc = .ok (.lcmp, 1)) (hd2 : decode cc (pc + 1) = .ok (.ifCond .lt off, 3)) (ht : ((pc + 1 : Nat) : Int) + off = (tgt : Int)) (kt : x < y → W p l e R s m args below meth c H locs cells slots Q (F0 m tgt ls rest)) (kf : ¬ x < y → W p l e R s m args below meth c H locs cells slots Q (F0 m (pc + 1 + 3) ls rest)) : W p l e R s m args below meth c H locs cells slots Q (F0 m pc ls (.long y :: .long x :: rest)) :=
  W.lcmp hx hb hd1 (lv_if_lt hx hb hd2 ht (fun h => kt ((lg_cmp_lt x y).mp h)) (fun h => kf (fun h2 => h ((lg_cmp_lt x y).mpr h2))))
theorem lc_eq {x y : Int64} {off : Int} {tgt : Nat} (hx : p.tables.exec = Jvm.exec) (hb : c.code = cc) (hd1 : decode cc pc = .ok (.lcmp, 1)) (hd2 : decode cc (pc + 1) = .ok (.ifCond .eq off, 3)) (ht : ((pc + 1 : Nat) : Int) + off = (tgt : Int)) (kt : x = y → W p l e R s m args below meth c H locs cells slots Q (F0 m tgt ls rest)) (kf : ¬ x = y → W p l e R s m args below meth c H locs cells slots Q (F0 m (pc + 1 + 3) ls rest)) : W p l e R s m args below meth c H locs cells slots Q (F0 m pc ls (.long y :: .long x :: rest)) :=
  W.lcmp hx hb hd1 (lv_if_eq hx hb hd2 ht (fun h => kt ((lg_cmp_eq x y).mp h)) (fun h => kf (fun h2 => h ((lg_cmp_eq x y).mpr h2))))
theorem lc_ne {x y : Int64} {off : Int} {tgt : Nat} (hx : p.tables.exec = Jvm.exec) (hb : c.code = cc) (hd1 : decode cc pc = .ok (.lcmp, 1)) (hd2 : decode cc (pc + 1) = .ok (.ifCond .ne off, 3)) (ht : ((pc + 1 : Nat) : Int) + off = (tgt : Int)) (kt : ¬ x = y → W p l e R s m args below meth c H locs cells slots Q (F0 m tgt ls rest)) (kf : x = y → W p l e R s m args below meth c H locs cells slots Q (F0 m (pc + 1 + 3) ls rest)) : W p l e R s m args below meth c H locs cells slots Q (F0 m pc ls (.long y :: .long x :: rest)) :=
  W.lcmp hx hb hd1 (lv_if_ne hx hb hd2 ht (fun h => kt (fun h2 => h ((lg_cmp_eq x y).mpr h2))) (fun h => kf ((lg_cmp_eq x y).mp h)))
-- ---- joins and loops
theorem cutI {pc2 : Nat} {st : List Value} (P : Int32 → Prop) (k : ∀ x, P x → W p l e R s m args below meth c H locs cells slots Q (F0 m pc2 ls (.int x :: st))) (h : (∀ x, P x → W p l e R s m args below meth c H locs cells slots Q (F0 m pc2 ls (.int x :: st))) → W p l e R s m args below meth c H locs cells slots Q (F0 m pc ls st0)) : W p l e R s m args below meth c H locs cells slots Q (F0 m pc ls st0) := h k
theorem cutL {pc2 : Nat} {st : List Value} (P : Int64 → Prop) (k : ∀ x, P x → W p l e R s m args below meth c H locs cells slots Q (F0 m pc2 ls (.long x :: st))) (h : (∀ x, P x → W p l e R s m args below meth c H locs cells slots Q (F0 m pc2 ls (.long x :: st))) → W p l e R s m args below meth c H locs cells slots Q (F0 m pc ls st0)) : W p l e R s m args below meth c H locs cells slots Q (F0 m pc ls st0) := h k
/-- a counted loop that leaves the heap -/
theorem loopR (N : Nat) (I : Nat → Array Slot → Prop) {i0 : Nat} (h0 : i0 ≤ N) (hI : I i0 ls) (hs : ∀ i ls', i < N → I i ls' → (∀ ls2, I (i + 1) ls2 → W p l e R s m args below meth c H locs cells slots Q (F0 m pc ls2 rest)) → W p l e R s m args below meth c H locs cells slots Q (F0 m pc ls' rest)) (hx : ∀ ls', I N ls' → W p l e R s m args below meth c H locs cells slots Q (F0 m pc ls' rest)) : W p l e R s m args below meth c H locs cells slots Q (F0 m pc ls rest) := by
  have h : ∀ n i ls', N - i = n → i ≤ N → I i ls' → W p l e R s m args below meth c H locs cells slots Q (F0 m pc ls' rest) := by
    intro n
    induction n with
    | zero => intro i ls' h1 h2 h3; have : i = N := by omega
              subst this; exact hx ls' h3
    | succ n ih => intro i ls' h1 h2 h3; exact hs i ls' (by omega) h3 (fun ls2 h4 => ih (i + 1) ls2 (by omega) (by omega) h4)
  exact h _ i0 ls rfl h0 hI
/-- a loop by a measure, the heap may change -/
theorem loopM (I : Nat → Array Slot → Heap → List Loc → Prop) {n0 : Nat} (hI : I n0 ls H locs) (hs : ∀ n ls' H' locs', I n ls' H' locs' → (∀ n2 ls2 H2 locs2, n2 < n → I n2 ls2 H2 locs2 → W p l e R s m args below meth c H2 locs2 cells slots Q (F0 m pc ls2 rest)) → W p l e R s m args below meth c H' locs' cells slots Q (F0 m pc ls' rest)) : W p l e R s m args below meth c H locs cells slots Q (F0 m pc ls rest) := by
  have h : ∀ n ls' H' locs', I n ls' H' locs' → W p l e R s m args below meth c H' locs' cells slots Q (F0 m pc ls' rest) := by
    intro n
    induction n using Nat.strongRecOn with
    | ind n ih => intro ls' H' locs' h3; exact hs n ls' H' locs' h3 (fun n2 ls2 H2 locs2 h4 h5 => ih n2 h4 ls2 H2 locs2 h5)
  exact h _ ls H locs hI
-- ---- ends of readers
theorem retR_i {post : Int32 → Prop} {v : Int32} (hx : p.tables.exec = Jvm.exec) (hb : c.code = cc) (hr : meth.sig.returnType = some .int) (hlocks : meth.locks = false) (h : post v) (hdg : decode cc pc = .ok (.ireturn, 1)) : W p l e R s m args below meth c s.heap [] cells slots (MQ below (vp_Si post) args s cells slots (fun _ => False)) (F0 m pc ls [.int v]) :=
  W.iret hx hb hr (fun t ht hW => ⟨v, rfl, h, ht⟩) (fun q hq => by cases hq) hdg hlocks
theorem retR_z {post : Int32 → Prop} {v : Int32} (hx : p.tables.exec = Jvm.exec) (hb : c.code = cc) (hr : meth.sig.returnType = some .boolean) (hlocks : meth.locks = false) (hv : v = 0 ∨ v = 1) (h : post v) (hdg : decode cc pc = .ok (.ireturn, 1)) : W p l e R s m args below meth c s.heap [] cells slots (MQ below (vp_Si post) args s cells slots (fun _ => False)) (F0 m pc ls [.int v]) :=
  W.zret hx hb hr (by rcases hv with rfl | rfl <;> rfl) (fun t ht hW => ⟨v, rfl, h, ht⟩) (fun q hq => by cases hq) hdg hlocks
theorem retR_l {post : Int64 → Prop} {v : Int64} (hx : p.tables.exec = Jvm.exec) (hb : c.code = cc) (hr : meth.sig.returnType = some .long) (hlocks : meth.locks = false) (h : post v) (hdg : decode cc pc = .ok (.lreturn, 1)) : W p l e R s m args below meth c s.heap [] cells slots (MQ below (vp_Sl post) args s cells slots (fun _ => False)) (F0 m pc ls [.long v]) :=
  W.lret hx hb hr (fun t ht hW => ⟨v, rfl, h, ht⟩) (fun q hq => by cases hq) hdg hlocks
-- ---- ends of writers
theorem retM_v {S : Type} {post : S → Prop} {w2 : S → va_W} (u : S) (hx : p.tables.exec = Jvm.exec) (hb : c.code = cc) (hr : meth.sig.returnType = none) (hlocks : meth.locks = false) (h : post u) (hP : va_P D vwCl (w2 u) H) (hK : va_K D vwCl tys s) (hD : va_D A (w2 u)) (hS : va_S A s.heap H locs) (hdg : decode cc pc = .ok (.return_, 1)) : W p l e R s m args below meth c H locs cells slots (MQ below (va_Qv post (fun u t => bM D tys A (w2 u) t) A) args s cells slots A) (F0 m pc ls []) :=
  W.vret hx hb hr (fun t ht hW => ⟨⟨u, rfl, h, by rw [ht]; exact hP, va_K.moved hW.alike hK, hD⟩, hS.F ht⟩) hS.2.2 hdg hlocks
theorem retM_i {S : Type} {post : Int32 → S → Prop} {w2 : S → va_W} {v : Int32} (u : S) (hx : p.tables.exec = Jvm.exec) (hb : c.code = cc) (hr : meth.sig.returnType = some .int) (hlocks : meth.locks = false) (h : post v u) (hP : va_P D vwCl (w2 u) H) (hK : va_K D vwCl tys s) (hD : va_D A (w2 u)) (hS : va_S A s.heap H locs) (hdg : decode cc pc = .ok (.ireturn, 1)) : W p l e R s m args below meth c H locs cells slots (MQ below (va_Qi post (fun u t => bM D tys A (w2 u) t) A) args s cells slots A) (F0 m pc ls [.int v]) :=
  W.iret hx hb hr (fun t ht hW => ⟨⟨v, u, rfl, h, by rw [ht]; exact hP, va_K.moved hW.alike hK, hD⟩, hS.F ht⟩) hS.2.2 hdg hlocks
theorem retM_l {S : Type} {post : Int64 → S → Prop} {w2 : S → va_W} {v : Int64} (u : S) (hx : p.tables.exec = Jvm.exec) (hb : c.code = cc) (hr : meth.sig.returnType = some .long) (hlocks : meth.locks = false) (h : post v u) (hP : va_P D vwCl (w2 u) H) (hK : va_K D vwCl tys s) (hD : va_D A (w2 u)) (hS : va_S A s.heap H locs) (hdg : decode cc pc = .ok (.lreturn, 1)) : W p l e R s m args below meth c H locs cells slots (MQ below (va_Ql post (fun u t => bM D tys A (w2 u) t) A) args s cells slots A) (F0 m pc ls [.long v]) :=
  W.lret hx hb hr (fun t ht hW => ⟨⟨v, u, rfl, h, by rw [ht]; exact hP, va_K.moved hW.alike hK, hD⟩, hS.F ht⟩) hS.2.2 hdg hlocks
theorem retM_r {S : Type} {post : S → Prop} {w2 : S → Nat → va_W} {a : Nat} {C : String} (u : S) (hx : p.tables.exec = Jvm.exec) (hb : c.code = cc) (hr : meth.sig.returnType = some (.object C)) (hlocks : meth.locks = false) (h : post u) (hP : va_P D vwCl (w2 u a) H) (hK : va_K D vwCl tys s) (hD : va_D A (w2 u a)) (hS : va_S A s.heap H locs) (hdg : decode cc pc = .ok (.areturn, 1)) : W p l e R s m args below meth c H locs cells slots (MQ below (va_Qr post (fun u b t => bM D tys A (w2 u b) t) A) args s cells slots A) (F0 m pc ls [.ref a]) :=
  W.aret hx hb hr (Or.inl ⟨_, rfl⟩) (Or.inr ⟨_, rfl⟩) (fun t ht hW => ⟨⟨u, a, rfl, h, by rw [ht]; exact hP, va_K.moved hW.alike hK, hD⟩, hS.F ht⟩) hS.2.2 hdg hlocks
theorem retN_l {post : Int64 → Unit → Prop} {v : Int64} (hx : p.tables.exec = Jvm.exec) (hb : c.code = cc) (hr : meth.sig.returnType = some .long) (hlocks : meth.locks = false) (h : post v ()) (hS : va_S A s.heap H locs) (hdg : decode cc pc = .ok (.lreturn, 1)) : W p l e R s m args below meth c H locs cells slots (MQ below (va_Ql post (fun _ _ => True) A) args s cells slots A) (F0 m pc ls [.long v]) :=
  W.lret hx hb hr (fun t ht hW => ⟨⟨v, (), rfl, h, trivial⟩, hS.F ht⟩) hS.2.2 hdg hlocks
theorem retN_i {post : Int32 → Unit → Prop} {v : Int32} (hx : p.tables.exec = Jvm.exec) (hb : c.code = cc) (hr : meth.sig.returnType = some .int) (hlocks : meth.locks = false) (h : post v ()) (hS : va_S A s.heap H locs) (hdg : decode cc pc = .ok (.ireturn, 1)) : W p l e R s m args below meth c H locs cells slots (MQ below (va_Qi post (fun _ _ => True) A) args s cells slots A) (F0 m pc ls [.int v]) :=
  W.iret hx hb hr (fun t ht hW => ⟨⟨v, (), rfl, h, trivial⟩, hS.F ht⟩) hS.2.2 hdg hlocks
end BASE
end
section
def bt (x : Int32) (i : Nat) : Bool := x.toBitVec.getLsbD i
theorem b_ext {x y : Int32} (h : ∀ i, i < 32 → bt x i = bt y i) : x = y := Int32.toBitVec_inj.mp (BitVec.eq_of_getLsbD_eq (fun i hi => h i hi))
theorem b_or (x y : Int32) (i : Nat) : bt (x ||| y) i = (bt x i || bt y i) := by unfold bt; rw [Int32.toBitVec_or, BitVec.getLsbD_or]
theorem b_and (x y : Int32) (i : Nat) : bt (x &&& y) i = (bt x i && bt y i) := by unfold bt; rw [Int32.toBitVec_and, BitVec.getLsbD_and]
theorem b_xor (x y : Int32) (i : Nat) : bt (x ^^^ y) i = (bt x i ^^ bt y i) := by unfold bt; rw [Int32.toBitVec_xor, BitVec.getLsbD_xor]
theorem b_big {x : Int32} {i : Nat} (h : 32 ≤ i) : bt x i = false := BitVec.getLsbD_of_ge _ _ h
theorem b_m1 : ∀ i, i < 32 → bt (-1) i = true := by decide +kernel
theorem b_0 (i : Nat) : bt 0 i = false := BitVec.getLsbD_zero
theorem s_l : ∀ n, n < 32 → ((nI n &&& 31).toBitVec.smod 32).toNat = n := by decide +kernel
theorem s_u : ∀ n, n < 32 → (((nI n).toUInt32 &&& Int32.toUInt32 31).toBitVec % 32).toNat = n := by decide +kernel
theorem b_shl (n : Nat) (hn : n < 32) (x : Int32) {i : Nat} (hi : i < 32) : bt (x <<< (nI n &&& 31)) i = (decide (n ≤ i) && bt x (i - n)) := by
  unfold bt
  rw [Int32.toBitVec_shiftLeft]
  show (x.toBitVec <<< ((nI n &&& 31).toBitVec.smod 32).toNat).getLsbD i = _
  rw [s_l n hn, BitVec.getLsbD_shiftLeft]
  rcases Nat.lt_or_ge i n with h | h
  · simp [h, Nat.not_le.mpr h]
  · simp [hi, h, Nat.not_lt.mpr h]
theorem b_sshr (n : Nat) (hn : n < 32) (x : Int32) {i : Nat} (hi : i < 32) : bt (x >>> (nI n &&& 31)) i = if n + i < 32 then bt x (n + i) else bt x 31 := by
  unfold bt
  rw [Int32.toBitVec_shiftRight]
  show (x.toBitVec.sshiftRight ((nI n &&& 31).toBitVec.smod 32).toNat).getLsbD i = _
  rw [s_l n hn, BitVec.getLsbD_sshiftRight, BitVec.msb_eq_getLsbD_last]
  simp [hi]
theorem sw_4 (x : Int32) : (x.toInt < 0 ∨ 4 < x.toInt) ∨ x = 0 ∨ x = 1 ∨ x = 2 ∨ x = 3 ∨ x = 4 := by
  by_cases h : x.toInt < 0 ∨ 4 < x.toInt
  · exact Or.inl h
  · refine Or.inr ?_
    have h2 : x.toInt = 0 ∨ x.toInt = 1 ∨ x.toInt = 2 ∨ x.toInt = 3 ∨ x.toInt = 4 := by omega
    rcases h2 with h2 | h2 | h2 | h2 | h2
    · exact (Or.inl (Int32.toInt_inj.mp (by rw [h2]; rfl)))
    · exact (Or.inr (Or.inl (Int32.toInt_inj.mp (by rw [h2]; rfl))))
    · exact (Or.inr (Or.inr (Or.inl (Int32.toInt_inj.mp (by rw [h2]; rfl)))))
    · exact (Or.inr (Or.inr (Or.inr (Or.inl (Int32.toInt_inj.mp (by rw [h2]; rfl))))))
    · exact (Or.inr (Or.inr (Or.inr (Or.inr (Int32.toInt_inj.mp (by rw [h2]; rfl))))))
theorem sw_5 (x : Int32) : (x.toInt < 0 ∨ 5 < x.toInt) ∨ x = 0 ∨ x = 1 ∨ x = 2 ∨ x = 3 ∨ x = 4 ∨ x = 5 := by
  by_cases h : x.toInt < 0 ∨ 5 < x.toInt
  · exact Or.inl h
  · refine Or.inr ?_
    have h2 : x.toInt = 0 ∨ x.toInt = 1 ∨ x.toInt = 2 ∨ x.toInt = 3 ∨ x.toInt = 4 ∨ x.toInt = 5 := by omega
    rcases h2 with h2 | h2 | h2 | h2 | h2 | h2
    · exact (Or.inl (Int32.toInt_inj.mp (by rw [h2]; rfl)))
    · exact (Or.inr (Or.inl (Int32.toInt_inj.mp (by rw [h2]; rfl))))
    · exact (Or.inr (Or.inr (Or.inl (Int32.toInt_inj.mp (by rw [h2]; rfl)))))
    · exact (Or.inr (Or.inr (Or.inr (Or.inl (Int32.toInt_inj.mp (by rw [h2]; rfl))))))
    · exact (Or.inr (Or.inr (Or.inr (Or.inr (Or.inl (Int32.toInt_inj.mp (by rw [h2]; rfl)))))))
    · exact (Or.inr (Or.inr (Or.inr (Or.inr (Or.inr (Int32.toInt_inj.mp (by rw [h2]; rfl)))))))
theorem sw_28 (x : Int32) : (x.toInt < 0 ∨ 28 < x.toInt) ∨ x = 0 ∨ x = 1 ∨ x = 2 ∨ x = 3 ∨ x = 4 ∨ x = 5 ∨ x = 6 ∨ x = 7 ∨ x = 8 ∨ x = 9 ∨ x = 10 ∨ x = 11 ∨ x = 12 ∨ x = 13 ∨ x = 14 ∨ x = 15 ∨ x = 16 ∨ x = 17 ∨ x = 18 ∨ x = 19 ∨ x = 20 ∨ x = 21 ∨ x = 22 ∨ x = 23 ∨ x = 24 ∨ x = 25 ∨ x = 26 ∨ x = 27 ∨ x = 28 := by
  by_cases h : x.toInt < 0 ∨ 28 < x.toInt
  · exact Or.inl h
  · refine Or.inr ?_
    have h2 : x.toInt = 0 ∨ x.toInt = 1 ∨ x.toInt = 2 ∨ x.toInt = 3 ∨ x.toInt = 4 ∨ x.toInt = 5 ∨ x.toInt = 6 ∨ x.toInt = 7 ∨ x.toInt = 8 ∨ x.toInt = 9 ∨ x.toInt = 10 ∨ x.toInt = 11 ∨ x.toInt = 12 ∨ x.toInt = 13 ∨ x.toInt = 14 ∨ x.toInt = 15 ∨ x.toInt = 16 ∨ x.toInt = 17 ∨ x.toInt = 18 ∨ x.toInt = 19 ∨ x.toInt = 20 ∨ x.toInt = 21 ∨ x.toInt = 22 ∨ x.toInt = 23 ∨ x.toInt = 24 ∨ x.toInt = 25 ∨ x.toInt = 26 ∨ x.toInt = 27 ∨ x.toInt = 28 := by omega
    rcases h2 with h2 | h2 | h2 | h2 | h2 | h2 | h2 | h2 | h2 | h2 | h2 | h2 | h2 | h2 | h2 | h2 | h2 | h2 | h2 | h2 | h2 | h2 | h2 | h2 | h2 | h2 | h2 | h2 | h2
    · exact (Or.inl (Int32.toInt_inj.mp (by rw [h2]; rfl)))
    · exact (Or.inr (Or.inl (Int32.toInt_inj.mp (by rw [h2]; rfl))))
    · exact (Or.inr (Or.inr (Or.inl (Int32.toInt_inj.mp (by rw [h2]; rfl)))))
    · exact (Or.inr (Or.inr (Or.inr (Or.inl (Int32.toInt_inj.mp (by rw [h2]; rfl))))))
    · exact (Or.inr (Or.inr (Or.inr (Or.inr (Or.inl (Int32.toInt_inj.mp (by rw [h2]; rfl)))))))
    · exact (Or.inr (Or.inr (Or.inr (Or.inr (Or.inr (Or.inl (Int32.toInt_inj.mp (by rw [h2]; rfl))))))))
    · exact (Or.inr (Or.inr (Or.inr (Or.inr (Or.inr (Or.inr (Or.inl (Int32.toInt_inj.mp (by rw [h2]; rfl)))))))))
    · exact (Or.inr (Or.inr (Or.inr (Or.inr (Or.inr (Or.inr (Or.inr (Or.inl (Int32.toInt_inj.mp (by rw [h2]; rfl))))))))))
    · exact (Or.inr (Or.inr (Or.inr (Or.inr (Or.inr (Or.inr (Or.inr (Or.inr (Or.inl (Int32.toInt_inj.mp (by rw [h2]; rfl)))))))))))
    · exact (Or.inr (Or.inr (Or.inr (Or.inr (Or.inr (Or.inr (Or.inr (Or.inr (Or.inr (Or.inl (Int32.toInt_inj.mp (by rw [h2]; rfl))))))))))))
    · exact (Or.inr (Or.inr (Or.inr (Or.inr (Or.inr (Or.inr (Or.inr (Or.inr (Or.inr (Or.inr (Or.inl (Int32.toInt_inj.mp (by rw [h2]; rfl)))))))))))))
    · exact (Or.inr (Or.inr (Or.inr (Or.inr (Or.inr (Or.inr (Or.inr (Or.inr (Or.inr (Or.inr (Or.inr (Or.inl (Int32.toInt_inj.mp (by rw [h2]; rfl))))))))))))))
    · exact (Or.inr (Or.inr (Or.inr (Or.inr (Or.inr (Or.inr (Or.inr (Or.inr (Or.inr (Or.inr (Or.inr (Or.inr (Or.inl (Int32.toInt_inj.mp (by rw [h2]; rfl)))))))))))))))
    · exact (Or.inr (Or.inr (Or.inr (Or.inr (Or.inr (Or.inr (Or.inr (Or.inr (Or.inr (Or.inr (Or.inr (Or.inr (Or.inr (Or.inl (Int32.toInt_inj.mp (by rw [h2]; rfl))))))))))))))))
    · exact (Or.inr (Or.inr (Or.inr (Or.inr (Or.inr (Or.inr (Or.inr (Or.inr (Or.inr (Or.inr (Or.inr (Or.inr (Or.inr (Or.inr (Or.inl (Int32.toInt_inj.mp (by rw [h2]; rfl)))))))))))))))))
    · exact (Or.inr (Or.inr (Or.inr (Or.inr (Or.inr (Or.inr (Or.inr (Or.inr (Or.inr (Or.inr (Or.inr (Or.inr (Or.inr (Or.inr (Or.inr (Or.inl (Int32.toInt_inj.mp (by rw [h2]; rfl))))))))))))))))))
    · exact (Or.inr (Or.inr (Or.inr (Or.inr (Or.inr (Or.inr (Or.inr (Or.inr (Or.inr (Or.inr (Or.inr (Or.inr (Or.inr (Or.inr (Or.inr (Or.inr (Or.inl (Int32.toInt_inj.mp (by rw [h2]; rfl)))))))))))))))))))
    · exact (Or.inr (Or.inr (Or.inr (Or.inr (Or.inr (Or.inr (Or.inr (Or.inr (Or.inr (Or.inr (Or.inr (Or.inr (Or.inr (Or.inr (Or.inr (Or.inr (Or.inr (Or.inl (Int32.toInt_inj.mp (by rw [h2]; rfl))))))))))))))))))))
    · exact (Or.inr (Or.inr (Or.inr (Or.inr (Or.inr (Or.inr (Or.inr (Or.inr (Or.inr (Or.inr (Or.inr (Or.inr (Or.inr (Or.inr (Or.inr (Or.inr (Or.inr (Or.inr (Or.inl (Int32.toInt_inj.mp (by rw [h2]; rfl)))))))))))))))))))))
    · exact (Or.inr (Or.inr (Or.inr (Or.inr (Or.inr (Or.inr (Or.inr (Or.inr (Or.inr (Or.inr (Or.inr (Or.inr (Or.inr (Or.inr (Or.inr (Or.inr (Or.inr (Or.inr (Or.inr (Or.inl (Int32.toInt_inj.mp (by rw [h2]; rfl))))))))))))))))))))))
    · exact (Or.inr (Or.inr (Or.inr (Or.inr (Or.inr (Or.inr (Or.inr (Or.inr (Or.inr (Or.inr (Or.inr (Or.inr (Or.inr (Or.inr (Or.inr (Or.inr (Or.inr (Or.inr (Or.inr (Or.inr (Or.inl (Int32.toInt_inj.mp (by rw [h2]; rfl)))))))))))))))))))))))
    · exact (Or.inr (Or.inr (Or.inr (Or.inr (Or.inr (Or.inr (Or.inr (Or.inr (Or.inr (Or.inr (Or.inr (Or.inr (Or.inr (Or.inr (Or.inr (Or.inr (Or.inr (Or.inr (Or.inr (Or.inr (Or.inr (Or.inl (Int32.toInt_inj.mp (by rw [h2]; rfl))))))))))))))))))))))))
    · exact (Or.inr (Or.inr (Or.inr (Or.inr (Or.inr (Or.inr (Or.inr (Or.inr (Or.inr (Or.inr (Or.inr (Or.inr (Or.inr (Or.inr (Or.inr (Or.inr (Or.inr (Or.inr (Or.inr (Or.inr (Or.inr (Or.inr (Or.inl (Int32.toInt_inj.mp (by rw [h2]; rfl)))))))))))))))))))))))))
    · exact (Or.inr (Or.inr (Or.inr (Or.inr (Or.inr (Or.inr (Or.inr (Or.inr (Or.inr (Or.inr (Or.inr (Or.inr (Or.inr (Or.inr (Or.inr (Or.inr (Or.inr (Or.inr (Or.inr (Or.inr (Or.inr (Or.inr (Or.inr (Or.inl (Int32.toInt_inj.mp (by rw [h2]; rfl))))))))))))))))))))))))))
    · exact (Or.inr (Or.inr (Or.inr (Or.inr (Or.inr (Or.inr (Or.inr (Or.inr (Or.inr (Or.inr (Or.inr (Or.inr (Or.inr (Or.inr (Or.inr (Or.inr (Or.inr (Or.inr (Or.inr (Or.inr (Or.inr (Or.inr (Or.inr (Or.inr (Or.inl (Int32.toInt_inj.mp (by rw [h2]; rfl)))))))))))))))))))))))))))
    · exact (Or.inr (Or.inr (Or.inr (Or.inr (Or.inr (Or.inr (Or.inr (Or.inr (Or.inr (Or.inr (Or.inr (Or.inr (Or.inr (Or.inr (Or.inr (Or.inr (Or.inr (Or.inr (Or.inr (Or.inr (Or.inr (Or.inr (Or.inr (Or.inr (Or.inr (Or.inl (Int32.toInt_inj.mp (by rw [h2]; rfl))))))))))))))))))))))))))))
    · exact (Or.inr (Or.inr (Or.inr (Or.inr (Or.inr (Or.inr (Or.inr (Or.inr (Or.inr (Or.inr (Or.inr (Or.inr (Or.inr (Or.inr (Or.inr (Or.inr (Or.inr (Or.inr (Or.inr (Or.inr (Or.inr (Or.inr (Or.inr (Or.inr (Or.inr (Or.inr (Or.inl (Int32.toInt_inj.mp (by rw [h2]; rfl)))))))))))))))))))))))))))))
    · exact (Or.inr (Or.inr (Or.inr (Or.inr (Or.inr (Or.inr (Or.inr (Or.inr (Or.inr (Or.inr (Or.inr (Or.inr (Or.inr (Or.inr (Or.inr (Or.inr (Or.inr (Or.inr (Or.inr (Or.inr (Or.inr (Or.inr (Or.inr (Or.inr (Or.inr (Or.inr (Or.inr (Or.inl (Int32.toInt_inj.mp (by rw [h2]; rfl))))))))))))))))))))))))))))))
    · exact (Or.inr (Or.inr (Or.inr (Or.inr (Or.inr (Or.inr (Or.inr (Or.inr (Or.inr (Or.inr (Or.inr (Or.inr (Or.inr (Or.inr (Or.inr (Or.inr (Or.inr (Or.inr (Or.inr (Or.inr (Or.inr (Or.inr (Or.inr (Or.inr (Or.inr (Or.inr (Or.inr (Or.inr (Int32.toInt_inj.mp (by rw [h2]; rfl))))))))))))))))))))))))))))))

/-- a truth value's answer -/
def bp (r : Int32) (P : Prop) : Prop := (r = 1 ∧ P) ∨ (r = 0 ∧ ¬ P)
theorem nilP {D : va_G} {H : Heap} : va_P D vwCl [] H := fun k q h => by simp at h
theorem nilD {A : Nat → Prop} : va_D A [] := ⟨fun i j p q h => by simp at h, fun k q h => by simp at h⟩
abbrev ty3 (cI cJ cZ : ClassId) : List (ClassId × FieldType) := [(cI, .int), (cJ, .long), (cZ, .boolean)]
abbrev aW (cI : ClassId) (a : Nat) (row : Nat → Int32) : va_W := [(a, .inl (cI, 6, .inl row))]
/-- the class: its object and its five rows -/
abbrev xW (cI : ClassId) (q : Nat → Nat) (ln cw ic bs ss : Int32) (se we un sf pa : Nat → Int32) : va_W := [(q 0, .inr (3, [.int ln, .int cw, .ref (q 1), .int ic, .int bs, .int ss, .ref (q 2), .ref (q 3), .ref (q 4), .ref (q 5), .ref (q 6)])), (q 1, .inl (cI, 3, .inl se)), (q 2, .inl (cI, 6, .inl we)), (q 3, .inl (cI, 6, .inl un)), (q 4, .inl (cI, 6, .inl sf)), (q 5, .inl (cI, 6, .inl pa))]
/-- its flow -/
abbrev fW (cI cJ : ClassId) (q : Nat → Nat) (ct : Int32) (ov : Nat → Int64) (gi ta : Nat → Int32) (gf : Nat → Int64) : va_W := [(q 6, .inr (0, [.ref (q 7), .ref (q 8), .ref (q 9), .ref (q 10), .int ct])), (q 7, .inl (cJ, 6, .inr (.inl ov))), (q 8, .inl (cI, 6, .inl gi)), (q 9, .inl (cI, 6, .inl ta)), (q 10, .inl (cJ, 6, .inr (.inl gf)))]
/-- a share; what is owed -/
abbrev shW (a : Nat) (u d : Int64) : va_W := [(a, .inr (2, [.long u, .long d]))]
abbrev owW (a : Nat) (e1 e2 e3 e4 e5 e6 : Nat) (fd : Int64) : va_W := [(a, .inr (1, [.ref e1, .ref e2, .ref e3, .ref e4, .ref e5, .ref e6, .long fd]))]
/-- the reference: its object and the case's rows; shares; transfers -/
abbrev mW (cI cZ : ClassId) (k : Nat → Nat) (up lo : Int64) (ln cn : Int32) (tm : Int32) (se isI we br ma sf pa : Nat → Int32) : va_W := [(k 0, .inr (4, [.long up, .long lo, .int ln, .int cn, .ref (k 1), .ref (k 2), .ref (k 3), .ref (k 4), .ref (k 5), .ref (k 6), .ref (k 7), .ref (k 8), .ref (k 9), .ref (k 10), .ref (k 11), .ref (k 12), .ref (k 13), .int tm, .ref (k 14), .ref (k 15), .ref (k 16), .ref (k 17)])), (k 1, .inl (cI, 3, .inl se)), (k 2, .inl (cZ, 6, .inl isI)), (k 3, .inl (cI, 6, .inl we)), (k 4, .inl (cZ, 6, .inl br)), (k 5, .inl (cI, 6, .inl ma)), (k 6, .inl (cI, 6, .inl sf)), (k 7, .inl (cI, 6, .inl pa))]
abbrev mS (cJ : ClassId) (k : Nat → Nat) (aU aL uU uL : Nat → Int64) : va_W := [(k 8, .inl (cJ, 5, .inr (.inl aU))), (k 9, .inl (cJ, 5, .inr (.inl aL))), (k 10, .inl (cJ, 6, .inr (.inl uU))), (k 11, .inl (cJ, 6, .inr (.inl uL)))]
abbrev mT (cI cJ : ClassId) (k : Nat → Nat) (oU oL : Nat → Int64) (gi ta : Nat → Int32) (gU gL : Nat → Int64) : va_W := [(k 12, .inl (cJ, 6, .inr (.inl oU))), (k 13, .inl (cJ, 6, .inr (.inl oL))), (k 14, .inl (cI, 12, .inl gi)), (k 15, .inl (cI, 12, .inl ta)), (k 16, .inl (cJ, 12, .inr (.inl gU))), (k 17, .inl (cJ, 12, .inr (.inl gL)))]
theorem md_J6_bitCount_0f7a4 : yJ6_bitCount_0f7a4.cls ≠ "java/lang/invoke/MethodHandle" ∧ yJ6_bitCount_0f7a4.cls ≠ "java/lang/invoke/VarHandle" ∧ (parseMethodDescriptor yJ6_bitCount_0f7a4.desc).map (fun d => d.parameters.length) = some 1 := by decide +kernel
theorem md_X0_find : yX0_find.cls ≠ "java/lang/invoke/MethodHandle" ∧ yX0_find.cls ≠ "java/lang/invoke/VarHandle" ∧ (parseMethodDescriptor yX0_find.desc).map (fun d => d.parameters.length) = some 0 := by decide +kernel
theorem md_X0_give : yX0_give.cls ≠ "java/lang/invoke/MethodHandle" ∧ yX0_give.cls ≠ "java/lang/invoke/VarHandle" ∧ (parseMethodDescriptor yX0_give.desc).map (fun d => d.parameters.length) = some 2 := by decide +kernel
theorem md_X0_holds : yX0_holds.cls ≠ "java/lang/invoke/MethodHandle" ∧ yX0_holds.cls ≠ "java/lang/invoke/VarHandle" ∧ (parseMethodDescriptor yX0_holds.desc).map (fun d => d.parameters.length) = some 1 := by decide +kernel
theorem md_X0_init : yX0_init.cls ≠ "java/lang/invoke/MethodHandle" ∧ yX0_init.cls ≠ "java/lang/invoke/VarHandle" ∧ (parseMethodDescriptor yX0_init.desc).map (fun d => d.parameters.length) = some 0 := by decide +kernel
theorem md_X1_init : yX1_init.cls ≠ "java/lang/invoke/MethodHandle" ∧ yX1_init.cls ≠ "java/lang/invoke/VarHandle" ∧ (parseMethodDescriptor yX1_init.desc).map (fun d => d.parameters.length) = some 6 := by decide +kernel
theorem md_X2_commonDivisor : yX2_commonDivisor.cls ≠ "java/lang/invoke/MethodHandle" ∧ yX2_commonDivisor.cls ≠ "java/lang/invoke/VarHandle" ∧ (parseMethodDescriptor yX2_commonDivisor.desc).map (fun d => d.parameters.length) = some 2 := by decide +kernel
theorem md_X2_init : yX2_init.cls ≠ "java/lang/invoke/MethodHandle" ∧ yX2_init.cls ≠ "java/lang/invoke/VarHandle" ∧ (parseMethodDescriptor yX2_init.desc).map (fun d => d.parameters.length) = some 2 := by decide +kernel
theorem md_X2_minus : yX2_minus.cls ≠ "java/lang/invoke/MethodHandle" ∧ yX2_minus.cls ≠ "java/lang/invoke/VarHandle" ∧ (parseMethodDescriptor yX2_minus.desc).map (fun d => d.parameters.length) = some 1 := by decide +kernel
theorem md_X2_of : yX2_of.cls ≠ "java/lang/invoke/MethodHandle" ∧ yX2_of.cls ≠ "java/lang/invoke/VarHandle" ∧ (parseMethodDescriptor yX2_of.desc).map (fun d => d.parameters.length) = some 2 := by decide +kernel
theorem md_X2_plusWhole : yX2_plusWhole.cls ≠ "java/lang/invoke/MethodHandle" ∧ yX2_plusWhole.cls ≠ "java/lang/invoke/VarHandle" ∧ (parseMethodDescriptor yX2_plusWhole.desc).map (fun d => d.parameters.length) = some 1 := by decide +kernel
theorem md_X2_times : yX2_times.cls ≠ "java/lang/invoke/MethodHandle" ∧ yX2_times.cls ≠ "java/lang/invoke/VarHandle" ∧ (parseMethodDescriptor yX2_times.desc).map (fun d => d.parameters.length) = some 1 := by decide +kernel
theorem md_X2_told : yX2_told.cls ≠ "java/lang/invoke/MethodHandle" ∧ yX2_told.cls ≠ "java/lang/invoke/VarHandle" ∧ (parseMethodDescriptor yX2_told.desc).map (fun d => d.parameters.length) = some 1 := by decide +kernel
theorem md_X3_allPaid : yX3_allPaid.cls ≠ "java/lang/invoke/MethodHandle" ∧ yX3_allPaid.cls ≠ "java/lang/invoke/VarHandle" ∧ (parseMethodDescriptor yX3_allPaid.desc).map (fun d => d.parameters.length) = some 0 := by decide +kernel
theorem md_X3_amount : yX3_amount.cls ≠ "java/lang/invoke/MethodHandle" ∧ yX3_amount.cls ≠ "java/lang/invoke/VarHandle" ∧ (parseMethodDescriptor yX3_amount.desc).map (fun d => d.parameters.length) = some 2 := by decide +kernel
theorem md_X3_bears : yX3_bears.cls ≠ "java/lang/invoke/MethodHandle" ∧ yX3_bears.cls ≠ "java/lang/invoke/VarHandle" ∧ (parseMethodDescriptor yX3_bears.desc).map (fun d => d.parameters.length) = some 1 := by decide +kernel
theorem md_X3_bestManner : yX3_bestManner.cls ≠ "java/lang/invoke/MethodHandle" ∧ yX3_bestManner.cls ≠ "java/lang/invoke/VarHandle" ∧ (parseMethodDescriptor yX3_bestManner.desc).map (fun d => d.parameters.length) = some 0 := by decide +kernel
theorem md_X3_bit : yX3_bit.cls ≠ "java/lang/invoke/MethodHandle" ∧ yX3_bit.cls ≠ "java/lang/invoke/VarHandle" ∧ (parseMethodDescriptor yX3_bit.desc).map (fun d => d.parameters.length) = some 1 := by decide +kernel
theorem md_X3_blame : yX3_blame.cls ≠ "java/lang/invoke/MethodHandle" ∧ yX3_blame.cls ≠ "java/lang/invoke/VarHandle" ∧ (parseMethodDescriptor yX3_blame.desc).map (fun d => d.parameters.length) = some 0 := by decide +kernel
theorem md_X3_blameDown : yX3_blameDown.cls ≠ "java/lang/invoke/MethodHandle" ∧ yX3_blameDown.cls ≠ "java/lang/invoke/VarHandle" ∧ (parseMethodDescriptor yX3_blameDown.desc).map (fun d => d.parameters.length) = some 0 := by decide +kernel
theorem md_X3_broke : yX3_broke.cls ≠ "java/lang/invoke/MethodHandle" ∧ yX3_broke.cls ≠ "java/lang/invoke/VarHandle" ∧ (parseMethodDescriptor yX3_broke.desc).map (fun d => d.parameters.length) = some 2 := by decide +kernel
theorem md_X3_claimant : yX3_claimant.cls ≠ "java/lang/invoke/MethodHandle" ∧ yX3_claimant.cls ≠ "java/lang/invoke/VarHandle" ∧ (parseMethodDescriptor yX3_claimant.desc).map (fun d => d.parameters.length) = some 1 := by decide +kernel
theorem md_X3_credit : yX3_credit.cls ≠ "java/lang/invoke/MethodHandle" ∧ yX3_credit.cls ≠ "java/lang/invoke/VarHandle" ∧ (parseMethodDescriptor yX3_credit.desc).map (fun d => d.parameters.length) = some 2 := by decide +kernel
theorem md_X3_creditUp : yX3_creditUp.cls ≠ "java/lang/invoke/MethodHandle" ∧ yX3_creditUp.cls ≠ "java/lang/invoke/VarHandle" ∧ (parseMethodDescriptor yX3_creditUp.desc).map (fun d => d.parameters.length) = some 3 := by decide +kernel
theorem md_X3_creditsUp : yX3_creditsUp.cls ≠ "java/lang/invoke/MethodHandle" ∧ yX3_creditsUp.cls ≠ "java/lang/invoke/VarHandle" ∧ (parseMethodDescriptor yX3_creditsUp.desc).map (fun d => d.parameters.length) = some 3 := by decide +kernel
theorem md_X3_due : yX3_due.cls ≠ "java/lang/invoke/MethodHandle" ∧ yX3_due.cls ≠ "java/lang/invoke/VarHandle" ∧ (parseMethodDescriptor yX3_due.desc).map (fun d => d.parameters.length) = some 2 := by decide +kernel
theorem md_X3_entitledUp : yX3_entitledUp.cls ≠ "java/lang/invoke/MethodHandle" ∧ yX3_entitledUp.cls ≠ "java/lang/invoke/VarHandle" ∧ (parseMethodDescriptor yX3_entitledUp.desc).map (fun d => d.parameters.length) = some 0 := by decide +kernel
theorem md_X3_evenOut : yX3_evenOut.cls ≠ "java/lang/invoke/MethodHandle" ∧ yX3_evenOut.cls ≠ "java/lang/invoke/VarHandle" ∧ (parseMethodDescriptor yX3_evenOut.desc).map (fun d => d.parameters.length) = some 1 := by decide +kernel
theorem md_X3_fair : yX3_fair.cls ≠ "java/lang/invoke/MethodHandle" ∧ yX3_fair.cls ≠ "java/lang/invoke/VarHandle" ∧ (parseMethodDescriptor yX3_fair.desc).map (fun d => d.parameters.length) = some 2 := by decide +kernel
theorem md_X3_fairUp : yX3_fairUp.cls ≠ "java/lang/invoke/MethodHandle" ∧ yX3_fairUp.cls ≠ "java/lang/invoke/VarHandle" ∧ (parseMethodDescriptor yX3_fairUp.desc).map (fun d => d.parameters.length) = some 2 := by decide +kernel
theorem md_X3_fillUnit : yX3_fillUnit.cls ≠ "java/lang/invoke/MethodHandle" ∧ yX3_fillUnit.cls ≠ "java/lang/invoke/VarHandle" ∧ (parseMethodDescriptor yX3_fillUnit.desc).map (fun d => d.parameters.length) = some 2 := by decide +kernel
theorem md_X3_firstOf : yX3_firstOf.cls ≠ "java/lang/invoke/MethodHandle" ∧ yX3_firstOf.cls ≠ "java/lang/invoke/VarHandle" ∧ (parseMethodDescriptor yX3_firstOf.desc).map (fun d => d.parameters.length) = some 1 := by decide +kernel
theorem md_X3_gets : yX3_gets.cls ≠ "java/lang/invoke/MethodHandle" ∧ yX3_gets.cls ≠ "java/lang/invoke/VarHandle" ∧ (parseMethodDescriptor yX3_gets.desc).map (fun d => d.parameters.length) = some 3 := by decide +kernel
theorem md_X3_given : yX3_given.cls ≠ "java/lang/invoke/MethodHandle" ∧ yX3_given.cls ≠ "java/lang/invoke/VarHandle" ∧ (parseMethodDescriptor yX3_given.desc).map (fun d => d.parameters.length) = some 2 := by decide +kernel
theorem md_X3_gotBy : yX3_gotBy.cls ≠ "java/lang/invoke/MethodHandle" ∧ yX3_gotBy.cls ≠ "java/lang/invoke/VarHandle" ∧ (parseMethodDescriptor yX3_gotBy.desc).map (fun d => d.parameters.length) = some 2 := by decide +kernel
theorem md_X3_has : yX3_has.cls ≠ "java/lang/invoke/MethodHandle" ∧ yX3_has.cls ≠ "java/lang/invoke/VarHandle" ∧ (parseMethodDescriptor yX3_has.desc).map (fun d => d.parameters.length) = some 2 := by decide +kernel
theorem md_X3_init : yX3_init.cls ≠ "java/lang/invoke/MethodHandle" ∧ yX3_init.cls ≠ "java/lang/invoke/VarHandle" ∧ (parseMethodDescriptor yX3_init.desc).map (fun d => d.parameters.length) = some 0 := by decide +kernel
theorem md_X3_isKnown : yX3_isKnown.cls ≠ "java/lang/invoke/MethodHandle" ∧ yX3_isKnown.cls ≠ "java/lang/invoke/VarHandle" ∧ (parseMethodDescriptor yX3_isKnown.desc).map (fun d => d.parameters.length) = some 1 := by decide +kernel
theorem md_X3_isOutside : yX3_isOutside.cls ≠ "java/lang/invoke/MethodHandle" ∧ yX3_isOutside.cls ≠ "java/lang/invoke/VarHandle" ∧ (parseMethodDescriptor yX3_isOutside.desc).map (fun d => d.parameters.length) = some 3 := by decide +kernel
theorem md_X3_isPaired : yX3_isPaired.cls ≠ "java/lang/invoke/MethodHandle" ∧ yX3_isPaired.cls ≠ "java/lang/invoke/VarHandle" ∧ (parseMethodDescriptor yX3_isPaired.desc).map (fun d => d.parameters.length) = some 1 := by decide +kernel
theorem md_X3_leave : yX3_leave.cls ≠ "java/lang/invoke/MethodHandle" ∧ yX3_leave.cls ≠ "java/lang/invoke/VarHandle" ∧ (parseMethodDescriptor yX3_leave.desc).map (fun d => d.parameters.length) = some 1 := by decide +kernel
theorem md_X3_loss : yX3_loss.cls ≠ "java/lang/invoke/MethodHandle" ∧ yX3_loss.cls ≠ "java/lang/invoke/VarHandle" ∧ (parseMethodDescriptor yX3_loss.desc).map (fun d => d.parameters.length) = some 1 := by decide +kernel
theorem md_X3_many : yX3_many.cls ≠ "java/lang/invoke/MethodHandle" ∧ yX3_many.cls ≠ "java/lang/invoke/VarHandle" ∧ (parseMethodDescriptor yX3_many.desc).map (fun d => d.parameters.length) = some 1 := by decide +kernel
theorem md_X3_misses : yX3_misses.cls ≠ "java/lang/invoke/MethodHandle" ∧ yX3_misses.cls ≠ "java/lang/invoke/VarHandle" ∧ (parseMethodDescriptor yX3_misses.desc).map (fun d => d.parameters.length) = some 2 := by decide +kernel
theorem md_X3_ofWrong : yX3_ofWrong.cls ≠ "java/lang/invoke/MethodHandle" ∧ yX3_ofWrong.cls ≠ "java/lang/invoke/VarHandle" ∧ (parseMethodDescriptor yX3_ofWrong.desc).map (fun d => d.parameters.length) = some 2 := by decide +kernel
theorem md_X3_openBroke : yX3_openBroke.cls ≠ "java/lang/invoke/MethodHandle" ∧ yX3_openBroke.cls ≠ "java/lang/invoke/VarHandle" ∧ (parseMethodDescriptor yX3_openBroke.desc).map (fun d => d.parameters.length) = some 2 := by decide +kernel
theorem md_X3_openUnit : yX3_openUnit.cls ≠ "java/lang/invoke/MethodHandle" ∧ yX3_openUnit.cls ≠ "java/lang/invoke/VarHandle" ∧ (parseMethodDescriptor yX3_openUnit.desc).map (fun d => d.parameters.length) = some 1 := by decide +kernel
theorem md_X3_over : yX3_over.cls ≠ "java/lang/invoke/MethodHandle" ∧ yX3_over.cls ≠ "java/lang/invoke/VarHandle" ∧ (parseMethodDescriptor yX3_over.desc).map (fun d => d.parameters.length) = some 2 := by decide +kernel
theorem md_X3_overUp : yX3_overUp.cls ≠ "java/lang/invoke/MethodHandle" ∧ yX3_overUp.cls ≠ "java/lang/invoke/VarHandle" ∧ (parseMethodDescriptor yX3_overUp.desc).map (fun d => d.parameters.length) = some 2 := by decide +kernel
theorem md_X3_owe : yX3_owe.cls ≠ "java/lang/invoke/MethodHandle" ∧ yX3_owe.cls ≠ "java/lang/invoke/VarHandle" ∧ (parseMethodDescriptor yX3_owe.desc).map (fun d => d.parameters.length) = some 0 := by decide +kernel
theorem md_X3_owedIf : yX3_owedIf.cls ≠ "java/lang/invoke/MethodHandle" ∧ yX3_owedIf.cls ≠ "java/lang/invoke/VarHandle" ∧ (parseMethodDescriptor yX3_owedIf.desc).map (fun d => d.parameters.length) = some 4 := by decide +kernel
theorem md_X3_owedNow : yX3_owedNow.cls ≠ "java/lang/invoke/MethodHandle" ∧ yX3_owedNow.cls ≠ "java/lang/invoke/VarHandle" ∧ (parseMethodDescriptor yX3_owedNow.desc).map (fun d => d.parameters.length) = some 0 := by decide +kernel
theorem md_X3_pair : yX3_pair.cls ≠ "java/lang/invoke/MethodHandle" ∧ yX3_pair.cls ≠ "java/lang/invoke/VarHandle" ∧ (parseMethodDescriptor yX3_pair.desc).map (fun d => d.parameters.length) = some 2 := by decide +kernel
theorem md_X3_part : yX3_part.cls ≠ "java/lang/invoke/MethodHandle" ∧ yX3_part.cls ≠ "java/lang/invoke/VarHandle" ∧ (parseMethodDescriptor yX3_part.desc).map (fun d => d.parameters.length) = some 1 := by decide +kernel
theorem md_X3_partUnit : yX3_partUnit.cls ≠ "java/lang/invoke/MethodHandle" ∧ yX3_partUnit.cls ≠ "java/lang/invoke/VarHandle" ∧ (parseMethodDescriptor yX3_partUnit.desc).map (fun d => d.parameters.length) = some 1 := by decide +kernel
theorem md_X3_pay : yX3_pay.cls ≠ "java/lang/invoke/MethodHandle" ∧ yX3_pay.cls ≠ "java/lang/invoke/VarHandle" ∧ (parseMethodDescriptor yX3_pay.desc).map (fun d => d.parameters.length) = some 2 := by decide +kernel
theorem md_X3_refund : yX3_refund.cls ≠ "java/lang/invoke/MethodHandle" ∧ yX3_refund.cls ≠ "java/lang/invoke/VarHandle" ∧ (parseMethodDescriptor yX3_refund.desc).map (fun d => d.parameters.length) = some 1 := by decide +kernel
theorem md_X3_reopen : yX3_reopen.cls ≠ "java/lang/invoke/MethodHandle" ∧ yX3_reopen.cls ≠ "java/lang/invoke/VarHandle" ∧ (parseMethodDescriptor yX3_reopen.desc).map (fun d => d.parameters.length) = some 1 := by decide +kernel
theorem md_X3_saves : yX3_saves.cls ≠ "java/lang/invoke/MethodHandle" ∧ yX3_saves.cls ≠ "java/lang/invoke/VarHandle" ∧ (parseMethodDescriptor yX3_saves.desc).map (fun d => d.parameters.length) = some 3 := by decide +kernel
theorem md_X3_setting : yX3_setting.cls ≠ "java/lang/invoke/MethodHandle" ∧ yX3_setting.cls ≠ "java/lang/invoke/VarHandle" ∧ (parseMethodDescriptor yX3_setting.desc).map (fun d => d.parameters.length) = some 2 := by decide +kernel
theorem md_X3_settle : yX3_settle.cls ≠ "java/lang/invoke/MethodHandle" ∧ yX3_settle.cls ≠ "java/lang/invoke/VarHandle" ∧ (parseMethodDescriptor yX3_settle.desc).map (fun d => d.parameters.length) = some 2 := by decide +kernel
theorem md_X3_sumOver : yX3_sumOver.cls ≠ "java/lang/invoke/MethodHandle" ∧ yX3_sumOver.cls ≠ "java/lang/invoke/VarHandle" ∧ (parseMethodDescriptor yX3_sumOver.desc).map (fun d => d.parameters.length) = some 2 := by decide +kernel
theorem md_X3_transfer : yX3_transfer.cls ≠ "java/lang/invoke/MethodHandle" ∧ yX3_transfer.cls ≠ "java/lang/invoke/VarHandle" ∧ (parseMethodDescriptor yX3_transfer.desc).map (fun d => d.parameters.length) = some 2 := by decide +kernel
theorem md_X3_transfers : yX3_transfers.cls ≠ "java/lang/invoke/MethodHandle" ∧ yX3_transfers.cls ≠ "java/lang/invoke/VarHandle" ∧ (parseMethodDescriptor yX3_transfers.desc).map (fun d => d.parameters.length) = some 0 := by decide +kernel
theorem md_X3_unitBears : yX3_unitBears.cls ≠ "java/lang/invoke/MethodHandle" ∧ yX3_unitBears.cls ≠ "java/lang/invoke/VarHandle" ∧ (parseMethodDescriptor yX3_unitBears.desc).map (fun d => d.parameters.length) = some 2 := by decide +kernel
theorem md_X3_unitDue : yX3_unitDue.cls ≠ "java/lang/invoke/MethodHandle" ∧ yX3_unitDue.cls ≠ "java/lang/invoke/VarHandle" ∧ (parseMethodDescriptor yX3_unitDue.desc).map (fun d => d.parameters.length) = some 2 := by decide +kernel
theorem md_X3_unitHeads : yX3_unitHeads.cls ≠ "java/lang/invoke/MethodHandle" ∧ yX3_unitHeads.cls ≠ "java/lang/invoke/VarHandle" ∧ (parseMethodDescriptor yX3_unitHeads.desc).map (fun d => d.parameters.length) = some 0 := by decide +kernel
theorem md_X3_weight : yX3_weight.cls ≠ "java/lang/invoke/MethodHandle" ∧ yX3_weight.cls ≠ "java/lang/invoke/VarHandle" ∧ (parseMethodDescriptor yX3_weight.desc).map (fun d => d.parameters.length) = some 2 := by decide +kernel
theorem md_X3_wrong : yX3_wrong.cls ≠ "java/lang/invoke/MethodHandle" ∧ yX3_wrong.cls ≠ "java/lang/invoke/VarHandle" ∧ (parseMethodDescriptor yX3_wrong.desc).map (fun d => d.parameters.length) = some 1 := by decide +kernel
theorem md_X4_adds : yX4_adds.cls ≠ "java/lang/invoke/MethodHandle" ∧ yX4_adds.cls ≠ "java/lang/invoke/VarHandle" ∧ (parseMethodDescriptor yX4_adds.desc).map (fun d => d.parameters.length) = some 5 := by decide +kernel
theorem md_X4_amount : yX4_amount.cls ≠ "java/lang/invoke/MethodHandle" ∧ yX4_amount.cls ≠ "java/lang/invoke/VarHandle" ∧ (parseMethodDescriptor yX4_amount.desc).map (fun d => d.parameters.length) = some 2 := by decide +kernel
theorem md_X4_bestManner : yX4_bestManner.cls ≠ "java/lang/invoke/MethodHandle" ∧ yX4_bestManner.cls ≠ "java/lang/invoke/VarHandle" ∧ (parseMethodDescriptor yX4_bestManner.desc).map (fun d => d.parameters.length) = some 0 := by decide +kernel
theorem md_X4_blame : yX4_blame.cls ≠ "java/lang/invoke/MethodHandle" ∧ yX4_blame.cls ≠ "java/lang/invoke/VarHandle" ∧ (parseMethodDescriptor yX4_blame.desc).map (fun d => d.parameters.length) = some 0 := by decide +kernel
theorem md_X4_broke : yX4_broke.cls ≠ "java/lang/invoke/MethodHandle" ∧ yX4_broke.cls ≠ "java/lang/invoke/VarHandle" ∧ (parseMethodDescriptor yX4_broke.desc).map (fun d => d.parameters.length) = some 2 := by decide +kernel
theorem md_X4_claimant : yX4_claimant.cls ≠ "java/lang/invoke/MethodHandle" ∧ yX4_claimant.cls ≠ "java/lang/invoke/VarHandle" ∧ (parseMethodDescriptor yX4_claimant.desc).map (fun d => d.parameters.length) = some 1 := by decide +kernel
theorem md_X4_clears : yX4_clears.cls ≠ "java/lang/invoke/MethodHandle" ∧ yX4_clears.cls ≠ "java/lang/invoke/VarHandle" ∧ (parseMethodDescriptor yX4_clears.desc).map (fun d => d.parameters.length) = some 1 := by decide +kernel
theorem md_X4_common : yX4_common.cls ≠ "java/lang/invoke/MethodHandle" ∧ yX4_common.cls ≠ "java/lang/invoke/VarHandle" ∧ (parseMethodDescriptor yX4_common.desc).map (fun d => d.parameters.length) = some 2 := by decide +kernel
theorem md_X4_credit : yX4_credit.cls ≠ "java/lang/invoke/MethodHandle" ∧ yX4_credit.cls ≠ "java/lang/invoke/VarHandle" ∧ (parseMethodDescriptor yX4_credit.desc).map (fun d => d.parameters.length) = some 2 := by decide +kernel
theorem md_X4_due : yX4_due.cls ≠ "java/lang/invoke/MethodHandle" ∧ yX4_due.cls ≠ "java/lang/invoke/VarHandle" ∧ (parseMethodDescriptor yX4_due.desc).map (fun d => d.parameters.length) = some 2 := by decide +kernel
theorem md_X4_fair : yX4_fair.cls ≠ "java/lang/invoke/MethodHandle" ∧ yX4_fair.cls ≠ "java/lang/invoke/VarHandle" ∧ (parseMethodDescriptor yX4_fair.desc).map (fun d => d.parameters.length) = some 2 := by decide +kernel
theorem md_X4_findCredit : yX4_findCredit.cls ≠ "java/lang/invoke/MethodHandle" ∧ yX4_findCredit.cls ≠ "java/lang/invoke/VarHandle" ∧ (parseMethodDescriptor yX4_findCredit.desc).map (fun d => d.parameters.length) = some 1 := by decide +kernel
theorem md_X4_findDue : yX4_findDue.cls ≠ "java/lang/invoke/MethodHandle" ∧ yX4_findDue.cls ≠ "java/lang/invoke/VarHandle" ∧ (parseMethodDescriptor yX4_findDue.desc).map (fun d => d.parameters.length) = some 1 := by decide +kernel
theorem md_X4_findDues : yX4_findDues.cls ≠ "java/lang/invoke/MethodHandle" ∧ yX4_findDues.cls ≠ "java/lang/invoke/VarHandle" ∧ (parseMethodDescriptor yX4_findDues.desc).map (fun d => d.parameters.length) = some 0 := by decide +kernel
theorem md_X4_findEntitled : yX4_findEntitled.cls ≠ "java/lang/invoke/MethodHandle" ∧ yX4_findEntitled.cls ≠ "java/lang/invoke/VarHandle" ∧ (parseMethodDescriptor yX4_findEntitled.desc).map (fun d => d.parameters.length) = some 0 := by decide +kernel
theorem md_X4_findFair : yX4_findFair.cls ≠ "java/lang/invoke/MethodHandle" ∧ yX4_findFair.cls ≠ "java/lang/invoke/VarHandle" ∧ (parseMethodDescriptor yX4_findFair.desc).map (fun d => d.parameters.length) = some 1 := by decide +kernel
theorem md_X4_findGets : yX4_findGets.cls ≠ "java/lang/invoke/MethodHandle" ∧ yX4_findGets.cls ≠ "java/lang/invoke/VarHandle" ∧ (parseMethodDescriptor yX4_findGets.desc).map (fun d => d.parameters.length) = some 0 := by decide +kernel
theorem md_X4_findGetsBy : yX4_findGetsBy.cls ≠ "java/lang/invoke/MethodHandle" ∧ yX4_findGetsBy.cls ≠ "java/lang/invoke/VarHandle" ∧ (parseMethodDescriptor yX4_findGetsBy.desc).map (fun d => d.parameters.length) = some 2 := by decide +kernel
theorem md_X4_findOver : yX4_findOver.cls ≠ "java/lang/invoke/MethodHandle" ∧ yX4_findOver.cls ≠ "java/lang/invoke/VarHandle" ∧ (parseMethodDescriptor yX4_findOver.desc).map (fun d => d.parameters.length) = some 1 := by decide +kernel
theorem md_X4_findRest : yX4_findRest.cls ≠ "java/lang/invoke/MethodHandle" ∧ yX4_findRest.cls ≠ "java/lang/invoke/VarHandle" ∧ (parseMethodDescriptor yX4_findRest.desc).map (fun d => d.parameters.length) = some 0 := by decide +kernel
theorem md_X4_findTransfers : yX4_findTransfers.cls ≠ "java/lang/invoke/MethodHandle" ∧ yX4_findTransfers.cls ≠ "java/lang/invoke/VarHandle" ∧ (parseMethodDescriptor yX4_findTransfers.desc).map (fun d => d.parameters.length) = some 0 := by decide +kernel
theorem md_X4_findUnit : yX4_findUnit.cls ≠ "java/lang/invoke/MethodHandle" ∧ yX4_findUnit.cls ≠ "java/lang/invoke/VarHandle" ∧ (parseMethodDescriptor yX4_findUnit.desc).map (fun d => d.parameters.length) = some 4 := by decide +kernel
theorem md_X4_firstWith : yX4_firstWith.cls ≠ "java/lang/invoke/MethodHandle" ∧ yX4_firstWith.cls ≠ "java/lang/invoke/VarHandle" ∧ (parseMethodDescriptor yX4_firstWith.desc).map (fun d => d.parameters.length) = some 1 := by decide +kernel
theorem md_X4_gets : yX4_gets.cls ≠ "java/lang/invoke/MethodHandle" ∧ yX4_gets.cls ≠ "java/lang/invoke/VarHandle" ∧ (parseMethodDescriptor yX4_gets.desc).map (fun d => d.parameters.length) = some 3 := by decide +kernel
theorem md_X4_given : yX4_given.cls ≠ "java/lang/invoke/MethodHandle" ∧ yX4_given.cls ≠ "java/lang/invoke/VarHandle" ∧ (parseMethodDescriptor yX4_given.desc).map (fun d => d.parameters.length) = some 2 := by decide +kernel
theorem md_X4_goesOver : yX4_goesOver.cls ≠ "java/lang/invoke/MethodHandle" ∧ yX4_goesOver.cls ≠ "java/lang/invoke/VarHandle" ∧ (parseMethodDescriptor yX4_goesOver.desc).map (fun d => d.parameters.length) = some 2 := by decide +kernel
theorem md_X4_init : yX4_init.cls ≠ "java/lang/invoke/MethodHandle" ∧ yX4_init.cls ≠ "java/lang/invoke/VarHandle" ∧ (parseMethodDescriptor yX4_init.desc).map (fun d => d.parameters.length) = some 0 := by decide +kernel
theorem md_X4_isThere : yX4_isThere.cls ≠ "java/lang/invoke/MethodHandle" ∧ yX4_isThere.cls ≠ "java/lang/invoke/VarHandle" ∧ (parseMethodDescriptor yX4_isThere.desc).map (fun d => d.parameters.length) = some 1 := by decide +kernel
theorem md_X4_isUnit : yX4_isUnit.cls ≠ "java/lang/invoke/MethodHandle" ∧ yX4_isUnit.cls ≠ "java/lang/invoke/VarHandle" ∧ (parseMethodDescriptor yX4_isUnit.desc).map (fun d => d.parameters.length) = some 1 := by decide +kernel
theorem md_X4_isUnitBroke : yX4_isUnitBroke.cls ≠ "java/lang/invoke/MethodHandle" ∧ yX4_isUnitBroke.cls ≠ "java/lang/invoke/VarHandle" ∧ (parseMethodDescriptor yX4_isUnitBroke.desc).map (fun d => d.parameters.length) = some 1 := by decide +kernel
theorem md_X4_isWhich : yX4_isWhich.cls ≠ "java/lang/invoke/MethodHandle" ∧ yX4_isWhich.cls ≠ "java/lang/invoke/VarHandle" ∧ (parseMethodDescriptor yX4_isWhich.desc).map (fun d => d.parameters.length) = some 1 := by decide +kernel
theorem md_X4_keeps : yX4_keeps.cls ≠ "java/lang/invoke/MethodHandle" ∧ yX4_keeps.cls ≠ "java/lang/invoke/VarHandle" ∧ (parseMethodDescriptor yX4_keeps.desc).map (fun d => d.parameters.length) = some 1 := by decide +kernel
theorem md_X4_leave : yX4_leave.cls ≠ "java/lang/invoke/MethodHandle" ∧ yX4_leave.cls ≠ "java/lang/invoke/VarHandle" ∧ (parseMethodDescriptor yX4_leave.desc).map (fun d => d.parameters.length) = some 1 := by decide +kernel
theorem md_X4_loss : yX4_loss.cls ≠ "java/lang/invoke/MethodHandle" ∧ yX4_loss.cls ≠ "java/lang/invoke/VarHandle" ∧ (parseMethodDescriptor yX4_loss.desc).map (fun d => d.parameters.length) = some 1 := by decide +kernel
theorem md_X4_makes : yX4_makes.cls ≠ "java/lang/invoke/MethodHandle" ∧ yX4_makes.cls ≠ "java/lang/invoke/VarHandle" ∧ (parseMethodDescriptor yX4_makes.desc).map (fun d => d.parameters.length) = some 2 := by decide +kernel
theorem md_X4_many : yX4_many.cls ≠ "java/lang/invoke/MethodHandle" ∧ yX4_many.cls ≠ "java/lang/invoke/VarHandle" ∧ (parseMethodDescriptor yX4_many.desc).map (fun d => d.parameters.length) = some 1 := by decide +kernel
theorem md_X4_manyIn : yX4_manyIn.cls ≠ "java/lang/invoke/MethodHandle" ∧ yX4_manyIn.cls ≠ "java/lang/invoke/VarHandle" ∧ (parseMethodDescriptor yX4_manyIn.desc).map (fun d => d.parameters.length) = some 0 := by decide +kernel
theorem md_X4_manyUnits : yX4_manyUnits.cls ≠ "java/lang/invoke/MethodHandle" ∧ yX4_manyUnits.cls ≠ "java/lang/invoke/VarHandle" ∧ (parseMethodDescriptor yX4_manyUnits.desc).map (fun d => d.parameters.length) = some 2 := by decide +kernel
theorem md_X4_misses : yX4_misses.cls ≠ "java/lang/invoke/MethodHandle" ∧ yX4_misses.cls ≠ "java/lang/invoke/VarHandle" ∧ (parseMethodDescriptor yX4_misses.desc).map (fun d => d.parameters.length) = some 2 := by decide +kernel
theorem md_X4_multiplies : yX4_multiplies.cls ≠ "java/lang/invoke/MethodHandle" ∧ yX4_multiplies.cls ≠ "java/lang/invoke/VarHandle" ∧ (parseMethodDescriptor yX4_multiplies.desc).map (fun d => d.parameters.length) = some 4 := by decide +kernel
theorem md_X4_ofWrong : yX4_ofWrong.cls ≠ "java/lang/invoke/MethodHandle" ∧ yX4_ofWrong.cls ≠ "java/lang/invoke/VarHandle" ∧ (parseMethodDescriptor yX4_ofWrong.desc).map (fun d => d.parameters.length) = some 2 := by decide +kernel
theorem md_X4_openWeight : yX4_openWeight.cls ≠ "java/lang/invoke/MethodHandle" ∧ yX4_openWeight.cls ≠ "java/lang/invoke/VarHandle" ∧ (parseMethodDescriptor yX4_openWeight.desc).map (fun d => d.parameters.length) = some 1 := by decide +kernel
theorem md_X4_over : yX4_over.cls ≠ "java/lang/invoke/MethodHandle" ∧ yX4_over.cls ≠ "java/lang/invoke/VarHandle" ∧ (parseMethodDescriptor yX4_over.desc).map (fun d => d.parameters.length) = some 2 := by decide +kernel
theorem md_X4_owe : yX4_owe.cls ≠ "java/lang/invoke/MethodHandle" ∧ yX4_owe.cls ≠ "java/lang/invoke/VarHandle" ∧ (parseMethodDescriptor yX4_owe.desc).map (fun d => d.parameters.length) = some 0 := by decide +kernel
theorem md_X4_paidAll : yX4_paidAll.cls ≠ "java/lang/invoke/MethodHandle" ∧ yX4_paidAll.cls ≠ "java/lang/invoke/VarHandle" ∧ (parseMethodDescriptor yX4_paidAll.desc).map (fun d => d.parameters.length) = some 0 := by decide +kernel
theorem md_X4_pair : yX4_pair.cls ≠ "java/lang/invoke/MethodHandle" ∧ yX4_pair.cls ≠ "java/lang/invoke/VarHandle" ∧ (parseMethodDescriptor yX4_pair.desc).map (fun d => d.parameters.length) = some 2 := by decide +kernel
theorem md_X4_part : yX4_part.cls ≠ "java/lang/invoke/MethodHandle" ∧ yX4_part.cls ≠ "java/lang/invoke/VarHandle" ∧ (parseMethodDescriptor yX4_part.desc).map (fun d => d.parameters.length) = some 1 := by decide +kernel
theorem md_X4_pay : yX4_pay.cls ≠ "java/lang/invoke/MethodHandle" ∧ yX4_pay.cls ≠ "java/lang/invoke/VarHandle" ∧ (parseMethodDescriptor yX4_pay.desc).map (fun d => d.parameters.length) = some 2 := by decide +kernel
theorem md_X4_refund : yX4_refund.cls ≠ "java/lang/invoke/MethodHandle" ∧ yX4_refund.cls ≠ "java/lang/invoke/VarHandle" ∧ (parseMethodDescriptor yX4_refund.desc).map (fun d => d.parameters.length) = some 1 := by decide +kernel
theorem md_X4_reopen : yX4_reopen.cls ≠ "java/lang/invoke/MethodHandle" ∧ yX4_reopen.cls ≠ "java/lang/invoke/VarHandle" ∧ (parseMethodDescriptor yX4_reopen.desc).map (fun d => d.parameters.length) = some 1 := by decide +kernel
theorem md_X4_saves : yX4_saves.cls ≠ "java/lang/invoke/MethodHandle" ∧ yX4_saves.cls ≠ "java/lang/invoke/VarHandle" ∧ (parseMethodDescriptor yX4_saves.desc).map (fun d => d.parameters.length) = some 3 := by decide +kernel
theorem md_X4_setting : yX4_setting.cls ≠ "java/lang/invoke/MethodHandle" ∧ yX4_setting.cls ≠ "java/lang/invoke/VarHandle" ∧ (parseMethodDescriptor yX4_setting.desc).map (fun d => d.parameters.length) = some 2 := by decide +kernel
theorem md_X4_settle : yX4_settle.cls ≠ "java/lang/invoke/MethodHandle" ∧ yX4_settle.cls ≠ "java/lang/invoke/VarHandle" ∧ (parseMethodDescriptor yX4_settle.desc).map (fun d => d.parameters.length) = some 2 := by decide +kernel
theorem md_X4_settles : yX4_settles.cls ≠ "java/lang/invoke/MethodHandle" ∧ yX4_settles.cls ≠ "java/lang/invoke/VarHandle" ∧ (parseMethodDescriptor yX4_settles.desc).map (fun d => d.parameters.length) = some 2 := by decide +kernel
theorem md_X4_told : yX4_told.cls ≠ "java/lang/invoke/MethodHandle" ∧ yX4_told.cls ≠ "java/lang/invoke/VarHandle" ∧ (parseMethodDescriptor yX4_told.desc).map (fun d => d.parameters.length) = some 1 := by decide +kernel
theorem md_X4_transfer : yX4_transfer.cls ≠ "java/lang/invoke/MethodHandle" ∧ yX4_transfer.cls ≠ "java/lang/invoke/VarHandle" ∧ (parseMethodDescriptor yX4_transfer.desc).map (fun d => d.parameters.length) = some 2 := by decide +kernel
theorem md_X4_transfers : yX4_transfers.cls ≠ "java/lang/invoke/MethodHandle" ∧ yX4_transfers.cls ≠ "java/lang/invoke/VarHandle" ∧ (parseMethodDescriptor yX4_transfers.desc).map (fun d => d.parameters.length) = some 0 := by decide +kernel
theorem md_X4_unitDue : yX4_unitDue.cls ≠ "java/lang/invoke/MethodHandle" ∧ yX4_unitDue.cls ≠ "java/lang/invoke/VarHandle" ∧ (parseMethodDescriptor yX4_unitDue.desc).map (fun d => d.parameters.length) = some 2 := by decide +kernel
theorem md_X4_unitOf : yX4_unitOf.cls ≠ "java/lang/invoke/MethodHandle" ∧ yX4_unitOf.cls ≠ "java/lang/invoke/VarHandle" ∧ (parseMethodDescriptor yX4_unitOf.desc).map (fun d => d.parameters.length) = some 1 := by decide +kernel
theorem md_X4_unitWeight : yX4_unitWeight.cls ≠ "java/lang/invoke/MethodHandle" ∧ yX4_unitWeight.cls ≠ "java/lang/invoke/VarHandle" ∧ (parseMethodDescriptor yX4_unitWeight.desc).map (fun d => d.parameters.length) = some 1 := by decide +kernel
theorem md_X4_weight : yX4_weight.cls ≠ "java/lang/invoke/MethodHandle" ∧ yX4_weight.cls ≠ "java/lang/invoke/VarHandle" ∧ (parseMethodDescriptor yX4_weight.desc).map (fun d => d.parameters.length) = some 2 := by decide +kernel
theorem md_X4_within : yX4_within.cls ≠ "java/lang/invoke/MethodHandle" ∧ yX4_within.cls ≠ "java/lang/invoke/VarHandle" ∧ (parseMethodDescriptor yX4_within.desc).map (fun d => d.parameters.length) = some 3 := by decide +kernel
theorem md_X4_wrong : yX4_wrong.cls ≠ "java/lang/invoke/MethodHandle" ∧ yX4_wrong.cls ≠ "java/lang/invoke/VarHandle" ∧ (parseMethodDescriptor yX4_wrong.desc).map (fun d => d.parameters.length) = some 1 := by decide +kernel
end
section
/-! ===== longs as integers ===== -/
def iL (z : Int) : Int64 := Int64.ofInt z
theorem iL_add (a b : Int) : iL a + iL b = iL (a + b) := (Int64.ofInt_add a b).symm
theorem iL_sub (a b : Int) : iL a - iL b = iL (a - b) := (Int64.ofInt_sub a b).symm
theorem iL_mul (a b : Int) : iL a * iL b = iL (a * b) := (Int64.ofInt_mul a b).symm
theorem iL_neg (a : Int) : -iL a = iL (-a) := (Int64.ofInt_neg a).symm
theorem iL_32 (x : Int32) : x.toInt64 = iL x.toInt := rfl
theorem iL_of (x : Int64) : x = iL x.toInt := (Int64.ofInt_toInt x).symm
/-- far from the ends -/
def rng (a : Int) : Prop := -4611686018427387904 < a ∧ a < 4611686018427387904
theorem iL_t {a : Int} (h : rng a) : (iL a).toInt = a := Int64.toInt_ofInt_of_le (by unfold rng at h; omega) (by unfold rng at h; omega)
theorem iL_le {a b : Int} (ha : rng a) (hb : rng b) : iL a ≤ iL b ↔ a ≤ b := by rw [Int64.le_iff_toInt_le, iL_t ha, iL_t hb]
theorem iL_lt {a b : Int} (ha : rng a) (hb : rng b) : iL a < iL b ↔ a < b := by rw [Int64.lt_iff_toInt_lt, iL_t ha, iL_t hb]
theorem iL_eq {a b : Int} (ha : rng a) (hb : rng b) : iL a = iL b ↔ a = b := by rw [← Int64.toInt_inj, iL_t ha, iL_t hb]
theorem iL_div {a b : Int} (ha : rng a) (hb : rng b) : iL a / iL b = iL (a.tdiv b) := by
  unfold rng at ha hb
  exact (Int64.ofInt_tdiv (by show (-9223372036854775808 : Int) ≤ a; omega) (by show a ≤ (9223372036854775807 : Int); omega) (by show (-9223372036854775808 : Int) ≤ b; omega) (by show b ≤ (9223372036854775807 : Int); omega)).symm
theorem iL_rem {x y : Nat} (hx : rng x) (hy : rng y) : iL x - iL x / iL y * iL y = iL ((x % y : Nat) : Int) := by
  rw [iL_div hx hy, iL_mul, iL_sub]
  congr 1
  rw [Int.tdiv_eq_ediv_of_nonneg (Int.natCast_nonneg x), Int.natCast_emod, Int.emod_def, Int.mul_comm]
theorem rng_0 : rng 0 := by unfold rng; omega
theorem rng_1 : rng 1 := by unfold rng; omega
theorem rng_le {a : Int} {b : Nat} (h : a.natAbs ≤ b) (hb : b < 4611686018427387904) : rng a := by unfold rng; omega
/-! ===== shares ===== -/
theorem rq_num (a b : Int) (hb : 0 < b) : (Rat.divInt a b).num = a.tdiv ((Nat.gcd a.natAbs b.natAbs : Nat) : Int) := by
  rw [Rat.num_divInt, Int.sign_eq_one_of_pos hb, Int.one_mul]
  have e : b.gcd a = Nat.gcd a.natAbs b.natAbs := by rw [Int.gcd_comm]; rfl
  rw [e, Int.tdiv_eq_ediv_of_dvd]
  have := Int.gcd_dvd_left (a := a) (b := b)
  exact this
theorem rq_den (a b : Int) (hb : 0 < b) : ((Rat.divInt a b).den : Int) = b.tdiv ((Nat.gcd a.natAbs b.natAbs : Nat) : Int) := by
  rw [Rat.den_divInt, if_neg (by omega)]
  have e : b.gcd a = Nat.gcd a.natAbs b.natAbs := by rw [Int.gcd_comm]; rfl
  have h : ((Nat.gcd a.natAbs b.natAbs : Nat) : Int) ∣ b := Int.gcd_dvd_right (a := a) (b := b)
  rw [e, Int.tdiv_eq_ediv_of_dvd h]
  rw [Int.natCast_ediv]
  congr 1
  omega
theorem rq_eq (a b : Int) : Rat.divInt a b = (a : Rat) / (b : Rat) := Rat.divInt_eq_div a b
theorem gcd_pos_r {a : Nat} {b : Int} (hb : 0 < b) : 0 < Nat.gcd a b.natAbs := Nat.gcd_pos_of_pos_right _ (by omega)
theorem gcd_le_r {a : Nat} {b : Int} (hb : 0 < b) : ((Nat.gcd a b.natAbs : Nat) : Int) ≤ b := by
  have := Nat.gcd_le_right (n := b.natAbs) a (by omega)
  omega
/-- Euclid's own step, and how fast it goes down -/
theorem eu_step {x y n : Nat} (h1 : y < x) (h0 : y ≠ 0) (h : x * y < 2 ^ (n + 1)) : y * (x % y) < 2 ^ n := by
  have hd := Nat.div_add_mod x y
  have hp : 1 ≤ x / y := Nat.div_pos (by omega) (by omega)
  have h3 : y * 1 ≤ y * (x / y) := Nat.mul_le_mul_left y hp
  have hm : x % y < y := Nat.mod_lt _ (by omega)
  have h4 : 2 * (x % y) < x := by omega
  have h5 : y * (2 * (x % y)) < y * x := Nat.mul_lt_mul_of_pos_left h4 (by omega)
  have h6 : y * (2 * (x % y)) = 2 * (y * (x % y)) := by rw [Nat.mul_left_comm]
  have h7 : y * x = x * y := Nat.mul_comm _ _
  rw [Nat.pow_succ] at h
  omega
/-- what a loop of Euclid's keeps: i steps done of a hundred -/
def eu_I (a b i x y : Nat) : Prop := Nat.gcd x y = Nat.gcd a b ∧ x ≤ max a b ∧ y ≤ max a b ∧ ((i = 0 ∧ x = a ∧ y = b) ∨ (1 ≤ i ∧ y < x ∧ x * y < 2 ^ (97 - i)))
theorem eu_0 (a b : Nat) : eu_I a b 0 a b := ⟨rfl, Nat.le_max_left _ _, Nat.le_max_right _ _, Or.inl ⟨rfl, rfl, rfl⟩⟩
theorem eu_s {a b i x y : Nat} (hb : b < 2 ^ 48) (h : eu_I a b i x y) (h0 : y ≠ 0) : eu_I a b (i + 1) y (x % y) := by
  obtain ⟨h1, h2, h3, h4⟩ := h
  have hm : x % y < y := Nat.mod_lt _ (by omega)
  refine ⟨by rw [← h1, Nat.gcd_comm y, ← Nat.gcd_rec y x, Nat.gcd_comm], h3, by omega, Or.inr ⟨by omega, hm, ?_⟩⟩
  rcases h4 with ⟨rfl, rfl, rfl⟩ | ⟨h5, h6, h7⟩
  · have h8 : y * (x % y) ≤ y * y := Nat.mul_le_mul_left y (by omega)
    have h9 : y * y ≤ (2 ^ 48 - 1) * (2 ^ 48 - 1) := Nat.mul_le_mul (by omega) (by omega)
    have h10 : (2 ^ 48 - 1) * (2 ^ 48 - 1) < 2 ^ (97 - (0 + 1)) := by decide
    omega
  · rcases Nat.lt_or_ge i 97 with h8 | h8
    · have e : 97 - i = (97 - (i + 1)) + 1 := by omega
      rw [e] at h7
      exact eu_step h6 h0 h7
    · have e : 97 - i = 0 := by omega
      rw [e] at h7
      have : 1 * 1 ≤ x * y := Nat.mul_le_mul (by omega) (by omega)
      omega
theorem eu_end {a b x y : Nat} (h : eu_I a b 100 x y) : y = 0 := by
  obtain ⟨-, -, -, h4⟩ := h
  rcases h4 with ⟨h, -, -⟩ | ⟨-, h6, h7⟩
  · omega
  · rcases Nat.eq_zero_or_pos y with h | h
    · exact h
    · have h7 : x * y < 1 := h7
      have : 1 * 1 ≤ x * y := Nat.mul_le_mul (by omega) (by omega)
      omega
theorem eu_out {a b i x : Nat} (h : eu_I a b i x 0) : x = Nat.gcd a b := by rw [← h.1, Nat.gcd_zero_right]
theorem i10 : ((1 : Int32) = 0) = False := eq_false (by decide)
section LI
variable {p : Program} {l : Launch} {e : Env} {R : Room} {s : State} {m : MethodId} {args : Array Value} {below : List Frame} {meth : Method} {c : Code} {H : Heap} {locs : List Loc} {cells slots : Nat} {Q : State → Prop}
variable {pc : Nat} {ls : Array Slot} {rest : List Value} {cc : ByteArray}
theorem li_add (hx : p.tables.exec = Jvm.exec) (hb : c.code = cc) {a b : Int} (hdg : decode cc pc = .ok (.ladd, 1)) (k : W p l e R s m args below meth c H locs cells slots Q (F0 m (pc + 1) ls (.long (iL (a + b)) :: rest))) : W p l e R s m args below meth c H locs cells slots Q (F0 m pc ls (.long (iL b) :: .long (iL a) :: rest)) := lv_ladd hx hb hdg (by rw [iL_add]; exact k)
theorem li_sub (hx : p.tables.exec = Jvm.exec) (hb : c.code = cc) {a b : Int} (hdg : decode cc pc = .ok (.lsub, 1)) (k : W p l e R s m args below meth c H locs cells slots Q (F0 m (pc + 1) ls (.long (iL (a - b)) :: rest))) : W p l e R s m args below meth c H locs cells slots Q (F0 m pc ls (.long (iL b) :: .long (iL a) :: rest)) := lv_lsub hx hb hdg (by rw [iL_sub]; exact k)
theorem li_mul (hx : p.tables.exec = Jvm.exec) (hb : c.code = cc) {a b : Int} (hdg : decode cc pc = .ok (.lmul, 1)) (k : W p l e R s m args below meth c H locs cells slots Q (F0 m (pc + 1) ls (.long (iL (a * b)) :: rest))) : W p l e R s m args below meth c H locs cells slots Q (F0 m pc ls (.long (iL b) :: .long (iL a) :: rest)) := lv_lmul hx hb hdg (by rw [iL_mul]; exact k)
theorem li_neg (hx : p.tables.exec = Jvm.exec) (hb : c.code = cc) {a : Int} (hdg : decode cc pc = .ok (.lneg, 1)) (k : W p l e R s m args below meth c H locs cells slots Q (F0 m (pc + 1) ls (.long (iL (-a)) :: rest))) : W p l e R s m args below meth c H locs cells slots Q (F0 m pc ls (.long (iL a) :: rest)) := lv_lneg hx hb hdg (by rw [iL_neg]; exact k)
theorem li_div (hx : p.tables.exec = Jvm.exec) (hb : c.code = cc) {a b : Int} (ha : rng a) (hb2 : rng b) (h0 : b ≠ 0) (hdg : decode cc pc = .ok (.ldiv, 1)) (k : W p l e R s m args below meth c H locs cells slots Q (F0 m (pc + 1) ls (.long (iL (a.tdiv b)) :: rest))) : W p l e R s m args below meth c H locs cells slots Q (F0 m pc ls (.long (iL b) :: .long (iL a) :: rest)) := lv_ldiv hx hb hdg (fun h => h0 ((iL_eq hb2 rng_0).mp h)) (by rw [iL_div ha hb2]; exact k)
theorem li_rem (hx : p.tables.exec = Jvm.exec) (hb : c.code = cc) {a b : Nat} (ha : rng a) (hb2 : rng b) (h0 : b ≠ 0) (hdg : decode cc pc = .ok (.lrem, 1)) (k : W p l e R s m args below meth c H locs cells slots Q (F0 m (pc + 1) ls (.long (iL ((a % b : Nat) : Int)) :: rest))) : W p l e R s m args below meth c H locs cells slots Q (F0 m pc ls (.long (iL (b : Int)) :: .long (iL (a : Int)) :: rest)) := lv_lrem hx hb hdg (fun h => h0 (by have := (iL_eq hb2 rng_0).mp h; omega)) (by rw [iL_rem ha hb2]; exact k)
theorem topl_eq {x y : Int64} (h : x = y) (k : W p l e R s m args below meth c H locs cells slots Q (F0 m pc ls (.long y :: rest))) : W p l e R s m args below meth c H locs cells slots Q (F0 m pc ls (.long x :: rest)) := h ▸ k
theorem topi_eq {x y : Int32} (h : x = y) (k : W p l e R s m args below meth c H locs cells slots Q (F0 m pc ls (.int y :: rest))) : W p l e R s m args below meth c H locs cells slots Q (F0 m pc ls (.int x :: rest)) := h ▸ k
end LI
end
section
/-! ===== shares as rationals: with a lower number that divides D, and at most V ===== -/
def bd (r : Rat) (D V : Nat) : Prop := ∃ n : Int, r = (n : Rat) / ((D : Int) : Rat) ∧ n.natAbs ≤ V * D
theorem ic_ne {D : Nat} (h : 0 < D) : ((D : Int) : Rat) ≠ 0 := fun h2 => by have := Rat.intCast_eq_zero_iff.mp h2; omega
theorem ii_ne {z : Int} (h : z ≠ 0) : (z : Rat) ≠ 0 := fun h2 => h (Rat.intCast_eq_zero_iff.mp h2)
theorem bd_zero (D V : Nat) : bd 0 D V := ⟨0, by rw [Rat.intCast_zero, Rat.div_def, Rat.zero_mul], by simp⟩
theorem bd_add {r t : Rat} {D V U : Nat} (h1 : bd r D V) (h2 : bd t D U) : bd (r + t) D (V + U) := by
  obtain ⟨a, rfl, ha⟩ := h1
  obtain ⟨b, rfl, hb⟩ := h2
  refine ⟨a + b, ?_, ?_⟩
  · rw [Rat.intCast_add, Rat.div_def, Rat.div_def, Rat.div_def, Rat.add_mul]
  · rw [Nat.add_mul]; omega
theorem bd_sub {r t : Rat} {D V U : Nat} (h1 : bd r D V) (h2 : bd t D U) : bd (r - t) D (V + U) := by
  obtain ⟨a, rfl, ha⟩ := h1
  obtain ⟨b, rfl, hb⟩ := h2
  refine ⟨a - b, ?_, ?_⟩
  · rw [Rat.intCast_sub]; grind
  · rw [Nat.add_mul]; omega
theorem bd_mono {r : Rat} {D V U : Nat} (h : bd r D V) (hV : V ≤ U) : bd r D U := by
  obtain ⟨a, e, ha⟩ := h
  exact ⟨a, e, Nat.le_trans ha (Nat.mul_le_mul_right D hV)⟩
theorem bd_dvd {r : Rat} {D E V : Nat} (h : bd r D V) (hE : 0 < E) (hD : D ∣ E) : bd r E V := by
  obtain ⟨k, rfl⟩ := hD
  obtain ⟨a, rfl, ha⟩ := h
  have h1 : D ≠ 0 := fun h => by subst h; omega
  have h2 : k ≠ 0 := fun h => by subst h; omega
  refine ⟨a * k, ?_, ?_⟩
  · have e1 := ic_ne (D := D) (by omega)
    have e2 := ic_ne (D := k) (by omega)
    rw [Int.natCast_mul, Rat.intCast_mul, Rat.intCast_mul]
    grind
  · rw [Int.natAbs_mul, Int.natAbs_natCast, ← Nat.mul_assoc]
    exact Nat.mul_le_mul_right k ha
theorem bd_mulI {r : Rat} {D V : Nat} (z : Int) (h : bd r D V) : bd (r * (z : Rat)) D (V * z.natAbs) := by
  obtain ⟨a, rfl, ha⟩ := h
  refine ⟨a * z, ?_, ?_⟩
  · rw [Rat.intCast_mul]; grind
  · rw [Int.natAbs_mul, Nat.mul_right_comm]
    exact Nat.mul_le_mul_right _ ha
theorem bd_q {a b : Int} {D V : Nat} (hb : 0 < b) (hD : 0 < D) (hd : b.natAbs ∣ D) (ha : a.natAbs ≤ V * b.natAbs) : bd ((a : Rat) / (b : Rat)) D V := by
  have h : bd ((a : Rat) / (b : Rat)) b.natAbs V := ⟨a, by rw [Int.natAbs_of_nonneg (by omega)], ha⟩
  exact bd_dvd h hD hd
theorem bd_int {z : Int} {D V : Nat} (hD : 0 < D) (h : z.natAbs ≤ V) : bd (z : Rat) D V := by
  refine ⟨z * D, ?_, ?_⟩
  · have := ic_ne hD
    rw [Rat.intCast_mul]; grind
  · rw [Int.natAbs_mul, Int.natAbs_natCast]
    exact Nat.mul_le_mul_right D h
theorem bd_nd {r : Rat} {D V : Nat} (hD : 0 < D) (h : bd r D V) : r.den ∣ D ∧ r.num.natAbs ≤ V * r.den := by
  obtain ⟨n, e, hn⟩ := h
  rw [← rq_eq] at e
  have h1 := rq_num n D (by omega)
  have h2 := rq_den n D (by omega)
  rw [← e] at h1 h2
  rw [Int.natAbs_natCast] at h1 h2
  have hg : 0 < Nat.gcd n.natAbs D := Nat.gcd_pos_of_pos_right _ hD
  obtain ⟨k, hk⟩ := Nat.gcd_dvd_right n.natAbs D
  obtain ⟨j, hj⟩ := Nat.gcd_dvd_left n.natAbs D
  generalize Nat.gcd n.natAbs D = g at h1 h2 hg hk hj
  have e2 : r.den = k := by
    have : (r.den : Int) = (k : Int) := by
      rw [h2, hk, Int.natCast_mul]
      exact Int.mul_tdiv_cancel_left _ (by omega)
    omega
  have e1 : r.num.natAbs = j := by
    rw [h1, Int.natAbs_tdiv, hj, Int.natAbs_natCast]
    exact Nat.mul_div_cancel_left _ hg
  refine ⟨⟨g, by rw [e2, hk, Nat.mul_comm]⟩, ?_⟩
  rw [e1, e2]
  rw [hj, hk] at hn
  have : g * j ≤ g * (V * k) := by rw [Nat.mul_left_comm]; exact hn
  exact Nat.le_of_mul_le_mul_left this hg
theorem bd_den_le {r : Rat} {D V : Nat} (hD : 0 < D) (h : bd r D V) : r.den ≤ D := Nat.le_of_dvd hD (bd_nd hD h).1
theorem bd_num_le {r : Rat} {D V : Nat} (hD : 0 < D) (h : bd r D V) : r.num.natAbs ≤ V * D := Nat.le_trans (bd_nd hD h).2 (Nat.mul_le_mul_left V (bd_den_le hD h))
/-- a share by its two numbers -/
theorem rat_nd (r : Rat) : r = (r.num : Rat) / ((r.den : Int) : Rat) := by
  rw [← rq_eq]; exact (Rat.num_divInt_den r).symm
theorem den_pos (r : Rat) : 0 < r.den := r.den_pos
/-- two shares on the least common lower number -/
theorem lcm_le {a b D : Nat} (hD : 0 < D) (ha : a ∣ D) (hb : b ∣ D) : a * (b / Nat.gcd a b) ≤ D := by
  have : a * (b / Nat.gcd a b) = Nat.lcm a b := by
    rw [Nat.lcm, Nat.mul_div_assoc _ (Nat.gcd_dvd_right a b)]
  rw [this]
  exact Nat.le_of_dvd hD (Nat.lcm_dvd ha hb)
theorem gcd_parts (a b : Nat) (ha : 0 < a) : ∃ g x y, 0 < g ∧ Nat.gcd a b = g ∧ a = g * x ∧ b = g * y ∧ a / Nat.gcd a b = x ∧ b / Nat.gcd a b = y := by
  have hg : 0 < Nat.gcd a b := Nat.gcd_pos_of_pos_left _ ha
  obtain ⟨x, hx⟩ := Nat.gcd_dvd_left a b
  obtain ⟨y, hy⟩ := Nat.gcd_dvd_right a b
  refine ⟨_, x, y, hg, rfl, hx, hy, ?_, ?_⟩
  · conv => lhs; lhs; rw [hx]
    exact Nat.mul_div_cancel_left _ hg
  · conv => lhs; lhs; rw [hy]
    exact Nat.mul_div_cancel_left _ hg
theorem q_comb (x y g a b : Rat) (hg : g ≠ 0) (ha : a ≠ 0) (hb : b ≠ 0) : (x * b + y * a) / ((g * a) * b) = x / (g * a) + y / (g * b) := by grind
/-- x by a and y by b, on the lower number a (b / gcd) -/
theorem comb_eq (x y : Int) (a b : Nat) (ha : 0 < a) (hb : 0 < b) : Rat.divInt (x * ((b / Nat.gcd a b : Nat) : Int) + y * ((a / Nat.gcd a b : Nat) : Int)) ((a * (b / Nat.gcd a b) : Nat) : Int) = (x : Rat) / ((a : Int) : Rat) + (y : Rat) / ((b : Int) : Rat) := by
  obtain ⟨g, u, v, hg, e, ea, eb, h1, h2⟩ := gcd_parts a b ha
  rw [h1, h2, rq_eq]
  have hu : 0 < u := Nat.pos_of_ne_zero (fun h => by subst h; omega)
  have hv : 0 < v := Nat.pos_of_ne_zero (fun h => by subst h; omega)
  rw [ea, eb]
  rw [Rat.intCast_add, Rat.intCast_mul, Rat.intCast_mul, Int.natCast_mul, Int.natCast_mul, Int.natCast_mul, Rat.intCast_mul, Rat.intCast_mul, Rat.intCast_mul]
  exact q_comb _ _ _ _ _ (ic_ne hg) (ic_ne hu) (ic_ne hv)
theorem comb_bd {x y : Int} {a b D V U : Nat} (ha : 0 < a) (hD : 0 < D) (h1 : a ∣ D) (h2 : b ∣ D) (hx : x.natAbs ≤ V * a) (hy : y.natAbs ≤ U * b) : (x * ((b / Nat.gcd a b : Nat) : Int)).natAbs ≤ V * D ∧ (y * ((a / Nat.gcd a b : Nat) : Int)).natAbs ≤ U * D := by
  have hl := lcm_le hD h1 h2
  have hl2 : b * (a / Nat.gcd a b) ≤ D := by have := lcm_le hD h2 h1; rwa [Nat.gcd_comm b a] at this
  rw [Int.natAbs_mul, Int.natAbs_mul, Int.natAbs_natCast, Int.natAbs_natCast]
  constructor
  · exact Nat.le_trans (Nat.mul_le_mul_right _ hx) (by rw [Nat.mul_assoc]; exact Nat.mul_le_mul_left V hl)
  · exact Nat.le_trans (Nat.mul_le_mul_right _ hy) (by rw [Nat.mul_assoc]; exact Nat.mul_le_mul_left U hl2)
theorem iL_abs {a : Int} (h : rng a) : (if 0 < iL a then iL a else -iL a) = iL (a.natAbs : Int) := by
  have h0 : (0 : Int64) < iL a ↔ 0 < a := iL_lt rng_0 h
  by_cases h1 : 0 < a
  · rw [if_pos (h0.mpr h1)]; congr 1; omega
  · rw [if_neg (fun h2 => h1 (h0.mp h2)), iL_neg]; congr 1; omega
theorem iL_max0 {a : Int} (h : rng a) : (if iL 0 < iL a then iL a else iL 0) = iL (if 0 < a then a else 0) := by
  have h0 : iL 0 < iL a ↔ 0 < a := iL_lt rng_0 h
  by_cases h1 : 0 < a
  · rw [if_pos (h0.mpr h1), if_pos h1]
  · rw [if_neg (fun h2 => h1 (h0.mp h2)), if_neg h1]
end
section
variable {l : Launch} {dC : Nat → ClassId} {dI : Nat → Nat → Nat} {cI cJ cZ : ClassId}
variable {q : Nat → Nat} {ln cw ic bs ss : Int32} {se we un sf pa : Nat → Int32}
variable {ct : Int32} {ov gf : Nat → Int64} {gi ta : Nat → Int32}
variable {k : Nat → Nat} {up lo : Int64} {cn tm : Int32} {isI br ma : Nat → Int32} {aU aL uU uL oU oL gU gL : Nat → Int64}

/-- what of a row a set takes, summed -/
def x_sumN (set : Int32) (row : Nat → Int32) : Nat → Int32
  | 0 => 0
  | i + 1 => if bt set i = true then x_sumN set row i + row i else x_sumN set row i
def x_bit (w : Nat) : Int32 := (1 : Int32) <<< (nI w &&& 31)
theorem has_iff (x : Int32) (w : Nat) (hw : w < 32) : (x >>> (nI w &&& 31)) &&& 1 = 0 ↔ bt x w = false := by
  have h1 : ∀ i, i < 32 → bt 1 i = decide (i = 0) := by decide +kernel
  constructor
  · intro h
    have h2 : bt ((x >>> (nI w &&& 31)) &&& 1) 0 = false := by rw [h]; exact b_0 0
    rw [b_and, b_sshr w hw x (by omega), h1 0 (by omega)] at h2
    simpa [hw] using h2
  · intro h
    refine b_ext (fun i hi => ?_)
    rw [b_and, h1 i hi, b_0]
    by_cases h0 : i = 0
    · subst h0
      rw [b_sshr w hw x hi]
      simp [hw, h]
    · simp [h0]
set_option maxHeartbeats 4000000 in
set_option maxRecDepth 100000 in
theorem c_X3_isOutside (v a b : Int32) : Met l yX3_isOutside (wT yX3_isOutside cX3_isOutside 3 (some .boolean)) ({ frames := 0, cells := 0, slots := 0, locals := 0 }) (pR (dC, dI) (ty3 cI cJ cZ) ([] : va_W) [.int v, .int a, .int b]) (vp_Si (fun r => bp r (v < a ∨ b < v))) 0 0 (fun _ => False) := by
  refine Met.ofW (cc := cX3_isOutside) (maxL := 3) (ret := (some .boolean)) (by decide) rfl ?_
  intro p e s m args below meth c s₁ B hml hv
  obtain ⟨rfl, hP, hK⟩ := hv
  have hx := B.exec
  have hb := B.bytes
  have hr := B.returns
  have hts := atoms_spec (ws := wT yX3_isOutside cX3_isOutside 3 (some .boolean)) B.pre
  have hT := wT_T hts
  have hown : s.vm.findClass RX3 = some m.cls := findClass_of_methodNamed B.named
  have hlocks := B.notSynchronized
  have hl := lv_entry ([.int v, .int a, .int b]) (n := 3) (Nat.le_of_ble_eq_true rfl)
  rw [lg_entry_eq]
  generalize (lg_sl ([.int v, .int a, .int b]) ++ List.replicate (3 - (lg_sl ([.int v, .int a, .int b])).length) Slot.unset).toArray = ls at hl ⊢
  have hl : lv_has ls 3 [(0, .int v), (1, .int a), (2, .int b)] := hl
  refine lv_iload_n hx hb dX3_isOutside_0 rfl (lv_at hl 0 rfl) ?_
  refine lv_iload_n hx hb dX3_isOutside_1 rfl (lv_at hl 1 rfl) ?_
  refine lv_icmp_lt (tgt := 10) hx hb dX3_isOutside_2 (by decide) (fun c_2 => ?_) (fun c_2 => ?_)
  · refine lv_iconst (v := 1) hx hb dX3_isOutside_10 (by decide) ?_
    refine lv_goto (tgt := 15) hx hb dX3_isOutside_11 (by decide) ?_
    exact retR_z hx hb hr hlocks (by first | exact Or.inl rfl | exact Or.inr rfl | assumption) (by first | exact Or.inl ⟨rfl, Or.inl c_2⟩ | exact Or.inl ⟨rfl, Or.inr (Int32.not_le.mp c_7)⟩ | exact Or.inr ⟨rfl, fun h => h.elim c_2 (fun h2 => absurd c_7 (Int32.not_le.mpr h2))⟩) dX3_isOutside_15
  · refine lv_iload_n hx hb dX3_isOutside_5 rfl (lv_at hl 0 rfl) ?_
    refine lv_iload_n hx hb dX3_isOutside_6 rfl (lv_at hl 2 rfl) ?_
    refine lv_icmp_le (tgt := 14) hx hb dX3_isOutside_7 (by decide) (fun c_7 => ?_) (fun c_7 => ?_)
    · refine lv_iconst (v := 0) hx hb dX3_isOutside_14 (by decide) ?_
      exact retR_z hx hb hr hlocks (by first | exact Or.inl rfl | exact Or.inr rfl | assumption) (by first | exact Or.inl ⟨rfl, Or.inl c_2⟩ | exact Or.inl ⟨rfl, Or.inr (Int32.not_le.mp c_7)⟩ | exact Or.inr ⟨rfl, fun h => h.elim c_2 (fun h2 => absurd c_7 (Int32.not_le.mpr h2))⟩) dX3_isOutside_15
    · refine lv_iconst (v := 1) hx hb dX3_isOutside_10 (by decide) ?_
      refine lv_goto (tgt := 15) hx hb dX3_isOutside_11 (by decide) ?_
      exact retR_z hx hb hr hlocks (by first | exact Or.inl rfl | exact Or.inr rfl | assumption) (by first | exact Or.inl ⟨rfl, Or.inl c_2⟩ | exact Or.inl ⟨rfl, Or.inr (Int32.not_le.mp c_7)⟩ | exact Or.inr ⟨rfl, fun h => h.elim c_2 (fun h2 => absurd c_7 (Int32.not_le.mpr h2))⟩) dX3_isOutside_15
set_option maxHeartbeats 4000000 in
set_option maxRecDepth 100000 in
theorem c_X3_bit (w : Nat) : Met l yX3_bit (wT yX3_bit cX3_bit 1 (some .int)) ({ frames := 0, cells := 0, slots := 0, locals := 0 }) (pR (dC, dI) (ty3 cI cJ cZ) ([] : va_W) [.int (nI w)]) (vp_Si (fun r => r = x_bit w)) 0 0 (fun _ => False) := by
  refine Met.ofW (cc := cX3_bit) (maxL := 1) (ret := (some .int)) (by decide) rfl ?_
  intro p e s m args below meth c s₁ B hml hv
  obtain ⟨rfl, hP, hK⟩ := hv
  have hx := B.exec
  have hb := B.bytes
  have hr := B.returns
  have hts := atoms_spec (ws := wT yX3_bit cX3_bit 1 (some .int)) B.pre
  have hT := wT_T hts
  have hown : s.vm.findClass RX3 = some m.cls := findClass_of_methodNamed B.named
  have hlocks := B.notSynchronized
  have hl := lv_entry ([.int (nI w)]) (n := 1) (Nat.le_of_ble_eq_true rfl)
  rw [lg_entry_eq]
  generalize (lg_sl ([.int (nI w)]) ++ List.replicate (1 - (lg_sl ([.int (nI w)])).length) Slot.unset).toArray = ls at hl ⊢
  have hl : lv_has ls 1 [(0, .int (nI w))] := hl
  refine lv_iconst (v := 1) hx hb dX3_bit_0 (by decide) ?_
  refine lv_iload_n hx hb dX3_bit_1 rfl (lv_at hl 0 rfl) ?_
  refine lv_ishl hx hb dX3_bit_2 ?_
  exact retR_i hx hb hr hlocks rfl dX3_bit_3
set_option maxHeartbeats 4000000 in
set_option maxRecDepth 100000 in
theorem c_X3_has (x : Int32) (w : Nat) (hw : w < 6) : Met l yX3_has (wT yX3_has cX3_has 2 (some .boolean)) ({ frames := 0, cells := 0, slots := 0, locals := 0 }) (pR (dC, dI) (ty3 cI cJ cZ) ([] : va_W) [.int x, .int (nI w)]) (vp_Si (fun r => bp r (bt x w = true))) 0 0 (fun _ => False) := by
  refine Met.ofW (cc := cX3_has) (maxL := 2) (ret := (some .boolean)) (by decide) rfl ?_
  intro p e s m args below meth c s₁ B hml hv
  obtain ⟨rfl, hP, hK⟩ := hv
  have hx := B.exec
  have hb := B.bytes
  have hr := B.returns
  have hts := atoms_spec (ws := wT yX3_has cX3_has 2 (some .boolean)) B.pre
  have hT := wT_T hts
  have hown : s.vm.findClass RX3 = some m.cls := findClass_of_methodNamed B.named
  have hlocks := B.notSynchronized
  have hl := lv_entry ([.int x, .int (nI w)]) (n := 2) (Nat.le_of_ble_eq_true rfl)
  rw [lg_entry_eq]
  generalize (lg_sl ([.int x, .int (nI w)]) ++ List.replicate (2 - (lg_sl ([.int x, .int (nI w)])).length) Slot.unset).toArray = ls at hl ⊢
  have hl : lv_has ls 2 [(0, .int x), (1, .int (nI w))] := hl
  refine lv_iload_n hx hb dX3_has_0 rfl (lv_at hl 0 rfl) ?_
  refine lv_iload_n hx hb dX3_has_1 rfl (lv_at hl 1 rfl) ?_
  refine lv_ishr hx hb dX3_has_2 ?_
  refine lv_iconst (v := 1) hx hb dX3_has_3 (by decide) ?_
  refine lv_iand hx hb dX3_has_4 ?_
  refine lv_if_eq (tgt := 12) hx hb dX3_has_5 (by decide) (fun c_5 => ?_) (fun c_5 => ?_)
  · refine lv_iconst (v := 0) hx hb dX3_has_12 (by decide) ?_
    exact retR_z hx hb hr hlocks (by first | exact Or.inl rfl | exact Or.inr rfl | assumption) (by first | exact Or.inr ⟨rfl, by rw [(has_iff x w (by omega)).mp c_5]; decide⟩ | exact Or.inl ⟨rfl, by have h := mt (has_iff x w (by omega)).mpr c_5; simpa using h⟩) dX3_has_13
  · refine lv_iconst (v := 1) hx hb dX3_has_8 (by decide) ?_
    refine lv_goto (tgt := 13) hx hb dX3_has_9 (by decide) ?_
    exact retR_z hx hb hr hlocks (by first | exact Or.inl rfl | exact Or.inr rfl | assumption) (by first | exact Or.inr ⟨rfl, by rw [(has_iff x w (by omega)).mp c_5]; decide⟩ | exact Or.inl ⟨rfl, by have h := mt (has_iff x w (by omega)).mpr c_5; simpa using h⟩) dX3_has_13
set_option maxHeartbeats 4000000 in
set_option maxRecDepth 100000 in
theorem c_X3_sumOver {a : Nat} {row : Nat → Int32} (x : Int32) : Met l yX3_sumOver (wT yX3_sumOver cX3_sumOver 4 (some .int)) ({ frames := 1, cells := 0, slots := 0, locals := 21 }) (pR (dC, dI) (ty3 cI cJ cZ) (aW cI a row) [.int x, .ref a]) (vp_Si (fun r => r = x_sumN x row 6)) 0 0 (fun _ => False) := by
  refine Met.ofW (cc := cX3_sumOver) (maxL := 4) (ret := (some .int)) (by decide) rfl ?_
  intro p e s m args below meth c s₁ B hml hv
  obtain ⟨rfl, hP, hK⟩ := hv
  have hx := B.exec
  have hb := B.bytes
  have hr := B.returns
  have hts := atoms_spec (ws := wT yX3_sumOver cX3_sumOver 4 (some .int)) B.pre
  have hT := wT_T hts
  have hown : s.vm.findClass RX3 = some m.cls := findClass_of_methodNamed B.named
  have hlocks := B.notSynchronized
  have hl := lv_entry ([.int x, .ref a]) (n := 4) (Nat.le_of_ble_eq_true rfl)
  rw [lg_entry_eq]
  generalize (lg_sl ([.int x, .ref a]) ++ List.replicate (4 - (lg_sl ([.int x, .ref a])).length) Slot.unset).toArray = ls at hl ⊢
  have hl : lv_has ls 4 [(0, .int x), (1, .ref a)] := hl
  refine lv_iconst (v := 0) hx hb dX3_sumOver_0 (by decide) ?_
  refine lv_istore_n (lv' := [(2, .int 0), (0, .int x), (1, .ref a)]) hx hb dX3_sumOver_1 rfl hl (by decide) rfl (fun ls hl => ?_)
  refine lv_iconst (v := 0) hx hb dX3_sumOver_2 (by decide) ?_
  refine lv_istore_n (lv' := [(3, .int 0), (2, .int 0), (0, .int x), (1, .ref a)]) hx hb dX3_sumOver_3 rfl hl (by decide) rfl (fun ls hl => ?_)
  refine loopR 6 (fun i ls => lv_has ls 4 [(3, .int (nI i)), (2, .int (x_sumN x row i)), (0, .int x), (1, .ref a)]) (i0 := 0) (Nat.zero_le _) (lv_sub hl [0, 1, 2, 3] rfl) (fun i ls hi hl ih => ?_) (fun ls hl => ?_)
  · refine lv_iload_n hx hb dX3_sumOver_4 rfl (lv_at hl 0 rfl) ?_
    refine lv_aload_n hx hb dX3_sumOver_5 rfl (lv_at hl 3 rfl) ?_
    refine va_alen hx hb hK hP 0 0 rfl rfl (v := 6) rfl dX3_sumOver_6 ?_
    refine lv_icmp_ge (tgt := 30) hx hb dX3_sumOver_7 (by decide) (fun h => absurd h (nI_ge (b := 6) hi (by decide))) (fun c_7 => ?_)
    refine lv_iload_n hx hb dX3_sumOver_10 rfl (lv_at hl 2 rfl) ?_
    refine lv_iload_n hx hb dX3_sumOver_11 rfl (lv_at hl 0 rfl) ?_
    refine vp_callSi (rRS (As := [.int x, .int (nI i)]) (rest := []) ⟨hx, hb, hml, hown, hT⟩ (c_X3_has (l := l) x i (by first | assumption | omega)) (cwTS 2 hT kc_X3_has km_X3_49 kt_X3_has kn_X3 rfl rfl md_X3_has ⟨Nat.le_of_ble_eq_true rfl, Nat.le_of_ble_eq_true rfl⟩) nilP hK  rfl hl.1 rfl (Nat.le_of_ble_eq_true rfl) dX3_sumOver_12 ⟨Nat.le_of_ble_eq_true rfl, Nat.le_of_ble_eq_true rfl⟩) (fun r_12 hw_12 => ?_)
    rcases hw_12 with ⟨rfl, hw_12⟩ | ⟨rfl, hw_12⟩
    · refine lv_if_eq (tgt := 24) hx hb dX3_sumOver_15 (by decide) (fun h => absurd h (by decide)) (fun c_15 => ?_)
      refine lv_iload_n hx hb dX3_sumOver_18 rfl (lv_at hl 1 rfl) ?_
      refine lv_aload_n hx hb dX3_sumOver_19 rfl (lv_at hl 3 rfl) ?_
      refine lv_iload_n hx hb dX3_sumOver_20 rfl (lv_at hl 0 rfl) ?_
      refine ald_i hx hb hK hP 0 0 rfl rfl (by decide) (w := i) rfl (by omega) dX3_sumOver_21 ?_
      refine lv_iadd hx hb dX3_sumOver_22 ?_
      refine lv_istore_n (lv' := [(2, .int ((x_sumN x row i) + (row i))), (3, .int (nI i)), (0, .int x), (1, .ref a)]) hx hb dX3_sumOver_23 rfl hl (by decide) rfl (fun ls hl => ?_)
      refine lv_iinc (v := (nI (i + 1))) (lv' := [(3, .int (nI (i + 1))), (2, .int ((x_sumN x row i) + (row i))), (0, .int x), (1, .ref a)]) hx hb dX3_sumOver_24 hl (k := 1) rfl (nI_1 i) (by decide) rfl (fun ls hl => ?_)
      refine lv_goto (tgt := 4) hx hb dX3_sumOver_27 (by decide) ?_
      have es0 : ((x_sumN x row i) + (row i) : Int32) = (x_sumN x row (i + 1)) := by simp only [x_sumN, hw_12, ↓reduceIte, Bool.false_eq_true]
      exact ih _ (by rw [← es0]; exact lv_sub hl [0, 1, 2, 3] rfl)
    · refine lv_if_eq (tgt := 24) hx hb dX3_sumOver_15 (by decide) (fun c_15 => ?_) (fun h => absurd h (by decide))
      refine lv_iinc (v := (nI (i + 1))) (lv' := [(3, .int (nI (i + 1))), (2, .int (x_sumN x row i)), (0, .int x), (1, .ref a)]) hx hb dX3_sumOver_24 hl (k := 0) rfl (nI_1 i) (by decide) rfl (fun ls hl => ?_)
      refine lv_goto (tgt := 4) hx hb dX3_sumOver_27 (by decide) ?_
      have es0 : (x_sumN x row i : Int32) = (x_sumN x row (i + 1)) := by simp only [x_sumN, hw_12, ↓reduceIte, Bool.false_eq_true]
      exact ih _ (by rw [← es0]; exact lv_sub hl [0, 1, 2, 3] rfl)
  · refine lv_iload_n hx hb dX3_sumOver_4 rfl (lv_at hl 0 rfl) ?_
    refine lv_aload_n hx hb dX3_sumOver_5 rfl (lv_at hl 3 rfl) ?_
    refine va_alen hx hb hK hP 0 0 rfl rfl (v := 6) rfl dX3_sumOver_6 ?_
    refine lv_icmp_ge (tgt := 30) hx hb dX3_sumOver_7 (by decide) (fun c_7 => ?_) (fun h => absurd h (by decide))
    refine lv_iload_n hx hb dX3_sumOver_30 rfl (lv_at hl 1 rfl) ?_
    exact retR_i hx hb hr hlocks rfl dX3_sumOver_31
set_option maxHeartbeats 4000000 in
set_option maxRecDepth 100000 in
theorem c_X3_firstOf (x : Int32) : Met l yX3_firstOf (wT yX3_firstOf cX3_firstOf 2 (some .int)) ({ frames := 1, cells := 0, slots := 0, locals := 21 }) (pR (dC, dI) (ty3 cI cJ cZ) ([] : va_W) [.int x]) (vp_Si (fun r => (∃ w, w < 6 ∧ r = nI w ∧ bt x w = true ∧ ∀ j, j < w → ¬ bt x j = true) ∨ (r = -9 ∧ ∀ j, j < 6 → ¬ bt x j = true))) 0 0 (fun _ => False) := by
  refine Met.ofW (cc := cX3_firstOf) (maxL := 2) (ret := (some .int)) (by decide) rfl ?_
  intro p e s m args below meth c s₁ B hml hv
  obtain ⟨rfl, hP, hK⟩ := hv
  have hx := B.exec
  have hb := B.bytes
  have hr := B.returns
  have hts := atoms_spec (ws := wT yX3_firstOf cX3_firstOf 2 (some .int)) B.pre
  have hT := wT_T hts
  have hown : s.vm.findClass RX3 = some m.cls := findClass_of_methodNamed B.named
  have hlocks := B.notSynchronized
  have hl := lv_entry ([.int x]) (n := 2) (Nat.le_of_ble_eq_true rfl)
  rw [lg_entry_eq]
  generalize (lg_sl ([.int x]) ++ List.replicate (2 - (lg_sl ([.int x])).length) Slot.unset).toArray = ls at hl ⊢
  have hl : lv_has ls 2 [(0, .int x)] := hl
  refine lv_iconst (v := 0) hx hb dX3_firstOf_0 (by decide) ?_
  refine lv_istore_n (lv' := [(1, .int 0), (0, .int x)]) hx hb dX3_firstOf_1 rfl hl (by decide) rfl (fun ls hl => ?_)
  refine loopR 6 (fun i ls => lv_has ls 2 [(1, .int (nI i)), (0, .int x)] ∧ (∀ j, j < i → ¬ bt x j = true)) (i0 := 0) (Nat.zero_le _) ⟨(lv_sub hl [0, 1] rfl), fun j hj => absurd hj (Nat.not_lt_zero j)⟩ (fun i ls hi hl ih => ?_) (fun ls hl => ?_)
  · obtain ⟨hl, hf⟩ := hl
    refine lv_iload_n hx hb dX3_firstOf_2 rfl (lv_at hl 0 rfl) ?_
    refine lv_bipush (v := 6) hx hb dX3_firstOf_3 (by decide) ?_
    refine lv_icmp_ge (tgt := 24) hx hb dX3_firstOf_5 (by decide) (fun h => absurd h (nI_ge (b := 6) hi (by decide))) (fun c_5 => ?_)
    refine lv_iload_n hx hb dX3_firstOf_8 rfl (lv_at hl 1 rfl) ?_
    refine lv_iload_n hx hb dX3_firstOf_9 rfl (lv_at hl 0 rfl) ?_
    refine vp_callSi (rRS (As := [.int x, .int (nI i)]) (rest := []) ⟨hx, hb, hml, hown, hT⟩ (c_X3_has (l := l) x i (by first | assumption | omega)) (cwTS 2 hT kc_X3_has km_X3_49 kt_X3_has kn_X3 rfl rfl md_X3_has ⟨Nat.le_of_ble_eq_true rfl, Nat.le_of_ble_eq_true rfl⟩) nilP hK  rfl hl.1 rfl (Nat.le_of_ble_eq_true rfl) dX3_firstOf_10 ⟨Nat.le_of_ble_eq_true rfl, Nat.le_of_ble_eq_true rfl⟩) (fun r_10 hw_10 => ?_)
    rcases hw_10 with ⟨rfl, hw_10⟩ | ⟨rfl, hw_10⟩
    · refine lv_if_eq (tgt := 18) hx hb dX3_firstOf_13 (by decide) (fun h => absurd h (by decide)) (fun c_13 => ?_)
      refine lv_iload_n hx hb dX3_firstOf_16 rfl (lv_at hl 0 rfl) ?_
      exact retR_i hx hb hr hlocks (by first | exact Or.inl ⟨i, hi, rfl, by assumption, hf⟩ | exact Or.inr ⟨rfl, hf⟩) dX3_firstOf_17
    · refine lv_if_eq (tgt := 18) hx hb dX3_firstOf_13 (by decide) (fun c_13 => ?_) (fun h => absurd h (by decide))
      refine lv_iinc (v := (nI (i + 1))) (lv' := [(1, .int (nI (i + 1))), (0, .int x)]) hx hb dX3_firstOf_18 hl (k := 0) rfl (nI_1 i) (by decide) rfl (fun ls hl => ?_)
      refine lv_goto (tgt := 2) hx hb dX3_firstOf_21 (by decide) ?_
      exact ih _ ⟨by exact lv_sub hl [0, 1] rfl, lt_s hf (by assumption)⟩
  · obtain ⟨hl, hf⟩ := hl
    refine lv_iload_n hx hb dX3_firstOf_2 rfl (lv_at hl 0 rfl) ?_
    refine lv_bipush (v := 6) hx hb dX3_firstOf_3 (by decide) ?_
    refine lv_icmp_ge (tgt := 24) hx hb dX3_firstOf_5 (by decide) (fun c_5 => ?_) (fun h => absurd h (by decide))
    refine lv_bipush (v := (-9)) hx hb dX3_firstOf_24 (by decide) ?_
    exact retR_i hx hb hr hlocks (by first | exact Or.inl ⟨i, hi, rfl, by assumption, hf⟩ | exact Or.inr ⟨rfl, hf⟩) dX3_firstOf_26
end
section
variable {l : Launch} {dC : Nat → ClassId} {dI : Nat → Nat → Nat} {cI cJ cZ : ClassId}
variable {q : Nat → Nat} {ln cw ic bs ss : Int32} {se we un sf pa : Nat → Int32}
variable {ct : Int32} {ov gf : Nat → Int64} {gi ta : Nat → Int32}
variable {k : Nat → Nat} {up lo : Int64} {cn tm : Int32} {isI br ma : Nat → Int32} {aU aL uU uL oU oL gU gL : Nat → Int64}

theorem kn_of {v : Int32} (h1 : ¬ v < 0) (h2 : ¬ 6 ≤ v) : ∃ j : Nat, j < 6 ∧ v = nI j := by
  obtain ⟨j, hj, rfl⟩ := nI_of h1
  refine ⟨j, ?_, rfl⟩
  rcases Nat.lt_or_ge j 6 with h | h
  · exact h
  · exact absurd (nI_le (a := 6) h hj) h2
theorem kn_neg {v : Int32} (h : v < 0) {P : Nat → Prop} : ¬ ∃ j, j < 6 ∧ v = nI j ∧ P j := by
  rintro ⟨j, hj, rfl, -⟩
  exact nI_pos (by omega) h
theorem kn_big {v : Int32} (h : 6 ≤ v) {P : Nat → Prop} : ¬ ∃ j, j < 6 ∧ v = nI j ∧ P j := by
  rintro ⟨j, hj, rfl, -⟩
  exact nI_ge (b := 6) hj (by decide) h
theorem kn_not {j : Nat} (hj : j < 6) {P : Nat → Prop} (h : ¬ P j) : ¬ ∃ i, i < 6 ∧ nI j = nI i ∧ P i := by
  rintro ⟨i, h1, h2, h3⟩
  have := (nI_eq (by omega) (by omega)).mp h2
  subst this
  exact h h3
def x_headsN (ic : Int32) (un : Nat → Int32) : Nat → Int32
  | 0 => 0
  | i + 1 => if bt ic i = true then x_headsN ic un i ||| (un i &&& -(un i)) else x_headsN ic un i
def x_obN (ic : Int32) (un : Nat → Int32) (st br : Int32) : Nat → Int32
  | 0 => 0
  | i + 1 => if bt (ic &&& (st ^^^ (-1))) i = true then (if un i &&& (br ^^^ (-1)) = 0 then x_obN ic un st br i ||| x_bit i else x_obN ic un st br i) else x_obN ic un st br i
def x_blame (cw ic : Int32) (we : Nat → Int32) : Int32 := cw + x_sumN ic we 6
def x_bd (cw ic : Int32) (we : Nat → Int32) : Int32 := if x_blame cw ic we < 1 then 1 else x_blame cw ic we
def x_ent (ln cw ic : Int32) (se we : Nat → Int32) : Int64 := if 100 * cw ≤ se 2 * x_blame cw ic we then ln.toInt64 * (x_blame cw ic we - cw).toInt64 else 0
def x_cred (ln : Int32) (we un sf : Nat → Int32) (w : Nat) (mn dn : Int32) : Int64 := if mn = 0 then (sf w).toInt64 * dn.toInt64 else if mn = 1 then ln.toInt64 * (x_sumN (un w) we 6).toInt64 else if ln.toInt64 * (x_sumN (un w) we 6).toInt64 < (sf w).toInt64 * dn.toInt64 then (sf w).toInt64 * dn.toInt64 else ln.toInt64 * (x_sumN (un w) we 6).toInt64
def x_credsN (ln ic : Int32) (we un sf : Nat → Int32) (mn st dn : Int32) : Nat → Int64
  | 0 => 0
  | i + 1 => if bt (x_headsN ic un 6 &&& st) i = true then x_credsN ln ic we un sf mn st dn i + x_cred ln we un sf i mn dn else x_credsN ln ic we un sf mn st dn i
def x_ub (ic bs : Int32) (we un : Nat → Int32) (w : Nat) (st : Int32) : Int32 := if bt st w = true then 0 else if bt (x_obN ic un st bs 6) w = true then 0 else x_sumN (un w) we 6
def x_bears (bs ss : Int32) (we un : Nat → Int32) (w : Nat) : Int32 := if bt (ss ||| bs) w = true then 0 else if un w &&& bs = 0 then we w else x_sumN (un w) we 6
def x_fairUp (ic bs ss : Int32) (we un pa : Nat → Int32) (w : Nat) (du : Int64) : Int64 := if du = 0 then 0 else (x_sumN ic pa 6).toInt64 * (x_bears bs ss we un w).toInt64
def x_overUp (ic bs ss : Int32) (we un pa : Nat → Int32) (w : Nat) (du fd : Int64) : Int64 := (pa w).toInt64 * fd - x_fairUp ic bs ss we un pa w du
set_option maxHeartbeats 4000000 in
set_option maxRecDepth 100000 in
theorem c_X3_isKnown (v : Int32) : Met l yX3_isKnown (wT yX3_isKnown cX3_isKnown 2 (some .boolean)) ({ frames := 1, cells := 0, slots := 0, locals := 21 }) (pR (dC, dI) (ty3 cI cJ cZ) (xW cI q ln cw ic bs ss se we un sf pa) [.ref (q 0), .int v]) (vp_Si (fun r => bp r (∃ j, j < 6 ∧ v = nI j ∧ bt ic j = true))) 0 0 (fun _ => False) := by
  refine Met.ofW (cc := cX3_isKnown) (maxL := 2) (ret := (some .boolean)) (by decide) rfl ?_
  intro p e s m args below meth c s₁ B hml hv
  obtain ⟨rfl, hP, hK⟩ := hv
  have hx := B.exec
  have hb := B.bytes
  have hr := B.returns
  have hts := atoms_spec (ws := wT yX3_isKnown cX3_isKnown 2 (some .boolean)) B.pre
  have hT := wT_T hts
  have hown : s.vm.findClass RX3 = some m.cls := findClass_of_methodNamed B.named
  have hlocks := B.notSynchronized
  have hl := lv_entry ([.ref (q 0), .int v]) (n := 2) (Nat.le_of_ble_eq_true rfl)
  rw [lg_entry_eq]
  generalize (lg_sl ([.ref (q 0), .int v]) ++ List.replicate (2 - (lg_sl ([.ref (q 0), .int v])).length) Slot.unset).toArray = ls at hl ⊢
  have hl : lv_has ls 2 [(0, .ref (q 0)), (1, .int v)] := hl
  refine lv_iload_n hx hb dX3_isKnown_0 rfl (lv_at hl 1 rfl) ?_
  refine lv_if_lt (tgt := 25) hx hb dX3_isKnown_1 (by decide) (fun c_1 => ?_) (fun c_1 => ?_)
  · refine lv_iconst (v := 0) hx hb dX3_isKnown_25 (by decide) ?_
    exact retR_z hx hb hr hlocks (by first | exact Or.inl rfl | exact Or.inr rfl | assumption) (by first | exact Or.inr ⟨rfl, kn_neg c_1⟩ | exact Or.inr ⟨rfl, kn_big c_7⟩ | exact Or.inl ⟨rfl, j, hj, rfl, hw_15⟩ | exact Or.inr ⟨rfl, kn_not hj hw_15⟩) dX3_isKnown_26
  · refine lv_iload_n hx hb dX3_isKnown_4 rfl (lv_at hl 1 rfl) ?_
    refine lv_bipush (v := 6) hx hb dX3_isKnown_5 (by decide) ?_
    refine lv_icmp_ge (tgt := 25) hx hb dX3_isKnown_7 (by decide) (fun c_7 => ?_) (fun c_7 => ?_)
    · refine lv_iconst (v := 0) hx hb dX3_isKnown_25 (by decide) ?_
      exact retR_z hx hb hr hlocks (by first | exact Or.inl rfl | exact Or.inr rfl | assumption) (by first | exact Or.inr ⟨rfl, kn_neg c_1⟩ | exact Or.inr ⟨rfl, kn_big c_7⟩ | exact Or.inl ⟨rfl, j, hj, rfl, hw_15⟩ | exact Or.inr ⟨rfl, kn_not hj hw_15⟩) dX3_isKnown_26
    · obtain ⟨j, hj, rfl⟩ : ∃ j : Nat, j < 6 ∧ v = nI j := kn_of c_1 c_7
      refine lv_aload_n hx hb dX3_isKnown_10 rfl (lv_at hl 0 rfl) ?_
      refine va_get (D := (dC, dI)) (ci := 3) (v := .int ic) (C := RX3) (T := TX3) (N := 11) hx hb hT hiX3 hown hK hP 0 rfl rfl 3 (by decide) (hT _ kf_X3_46) (fun _ h9 => h9) rfl dX3_isKnown_11 ?_
      refine lv_iload_n hx hb dX3_isKnown_14 rfl (lv_at hl 1 rfl) ?_
      refine vp_callSi (rRS (As := [.int ic, .int (nI j)]) (rest := []) ⟨hx, hb, hml, hown, hT⟩ (c_X3_has (l := l) ic j (by first | assumption | omega)) (cwTS 2 hT kc_X3_has km_X3_49 kt_X3_has kn_X3 rfl rfl md_X3_has ⟨Nat.le_of_ble_eq_true rfl, Nat.le_of_ble_eq_true rfl⟩) nilP hK  rfl hl.1 rfl (Nat.le_of_ble_eq_true rfl) dX3_isKnown_15 ⟨Nat.le_of_ble_eq_true rfl, Nat.le_of_ble_eq_true rfl⟩) (fun r_15 hw_15 => ?_)
      rcases hw_15 with ⟨rfl, hw_15⟩ | ⟨rfl, hw_15⟩
      · refine lv_if_eq (tgt := 25) hx hb dX3_isKnown_18 (by decide) (fun h => absurd h (by decide)) (fun c_18 => ?_)
        refine lv_iconst (v := 1) hx hb dX3_isKnown_21 (by decide) ?_
        refine lv_goto (tgt := 26) hx hb dX3_isKnown_22 (by decide) ?_
        exact retR_z hx hb hr hlocks (by first | exact Or.inl rfl | exact Or.inr rfl | assumption) (by first | exact Or.inr ⟨rfl, kn_neg c_1⟩ | exact Or.inr ⟨rfl, kn_big c_7⟩ | exact Or.inl ⟨rfl, j, hj, rfl, hw_15⟩ | exact Or.inr ⟨rfl, kn_not hj hw_15⟩) dX3_isKnown_26
      · refine lv_if_eq (tgt := 25) hx hb dX3_isKnown_18 (by decide) (fun c_18 => ?_) (fun h => absurd h (by decide))
        refine lv_iconst (v := 0) hx hb dX3_isKnown_25 (by decide) ?_
        exact retR_z hx hb hr hlocks (by first | exact Or.inl rfl | exact Or.inr rfl | assumption) (by first | exact Or.inr ⟨rfl, kn_neg c_1⟩ | exact Or.inr ⟨rfl, kn_big c_7⟩ | exact Or.inl ⟨rfl, j, hj, rfl, hw_15⟩ | exact Or.inr ⟨rfl, kn_not hj hw_15⟩) dX3_isKnown_26
set_option maxHeartbeats 4000000 in
set_option maxRecDepth 100000 in
theorem c_X3_isPaired (w : Nat) (hw : w < 6) : Met l yX3_isPaired (wT yX3_isPaired cX3_isPaired 2 (some .boolean)) ({ frames := 1, cells := 0, slots := 0, locals := 20 }) (pR (dC, dI) (ty3 cI cJ cZ) (xW cI q ln cw ic bs ss se we un sf pa) [.ref (q 0), .int (nI w)]) (vp_Si (fun r => bp r (¬ un w = x_bit w))) 0 0 (fun _ => False) := by
  refine Met.ofW (cc := cX3_isPaired) (maxL := 2) (ret := (some .boolean)) (by decide) rfl ?_
  intro p e s m args below meth c s₁ B hml hv
  obtain ⟨rfl, hP, hK⟩ := hv
  have hx := B.exec
  have hb := B.bytes
  have hr := B.returns
  have hts := atoms_spec (ws := wT yX3_isPaired cX3_isPaired 2 (some .boolean)) B.pre
  have hT := wT_T hts
  have hown : s.vm.findClass RX3 = some m.cls := findClass_of_methodNamed B.named
  have hlocks := B.notSynchronized
  have hl := lv_entry ([.ref (q 0), .int (nI w)]) (n := 2) (Nat.le_of_ble_eq_true rfl)
  rw [lg_entry_eq]
  generalize (lg_sl ([.ref (q 0), .int (nI w)]) ++ List.replicate (2 - (lg_sl ([.ref (q 0), .int (nI w)])).length) Slot.unset).toArray = ls at hl ⊢
  have hl : lv_has ls 2 [(0, .ref (q 0)), (1, .int (nI w))] := hl
  refine lv_aload_n hx hb dX3_isPaired_0 rfl (lv_at hl 0 rfl) ?_
  refine va_get (D := (dC, dI)) (ci := 3) (v := .ref (q 3)) (C := RX3) (T := TX3) (N := 11) hx hb hT hiX3 hown hK hP 0 rfl rfl 7 (by decide) (hT _ kf_X3_18) (fun _ h9 => h9) rfl dX3_isPaired_1 ?_
  refine lv_iload_n hx hb dX3_isPaired_4 rfl (lv_at hl 1 rfl) ?_
  refine ald_i hx hb hK hP 3 0 rfl rfl (by decide) (w := w) rfl (by omega) dX3_isPaired_5 ?_
  refine lv_iload_n hx hb dX3_isPaired_6 rfl (lv_at hl 1 rfl) ?_
  refine vp_callSi (rRS (As := [.int (nI w)]) (rest := [.int (un w)]) ⟨hx, hb, hml, hown, hT⟩ (c_X3_bit (l := l) w) (cwTS 1 hT kc_X3_bit km_X3_53 kt_X3_bit kn_X3 rfl rfl md_X3_bit ⟨Nat.le_of_ble_eq_true rfl, Nat.le_of_ble_eq_true rfl⟩) nilP hK  rfl hl.1 rfl (Nat.le_of_ble_eq_true rfl) dX3_isPaired_7 ⟨Nat.le_of_ble_eq_true rfl, Nat.le_of_ble_eq_true rfl⟩) (fun r_7 hw_7 => ?_)
  subst hw_7
  refine lv_icmp_eq (tgt := 17) hx hb dX3_isPaired_10 (by decide) (fun c_10 => ?_) (fun c_10 => ?_)
  · refine lv_iconst (v := 0) hx hb dX3_isPaired_17 (by decide) ?_
    exact retR_z hx hb hr hlocks (by first | exact Or.inl rfl | exact Or.inr rfl | assumption) (by first | exact Or.inr ⟨rfl, fun h => h c_10⟩ | exact Or.inl ⟨rfl, c_10⟩) dX3_isPaired_18
  · refine lv_iconst (v := 1) hx hb dX3_isPaired_13 (by decide) ?_
    refine lv_goto (tgt := 18) hx hb dX3_isPaired_14 (by decide) ?_
    exact retR_z hx hb hr hlocks (by first | exact Or.inl rfl | exact Or.inr rfl | assumption) (by first | exact Or.inr ⟨rfl, fun h => h c_10⟩ | exact Or.inl ⟨rfl, c_10⟩) dX3_isPaired_18
set_option maxHeartbeats 4000000 in
set_option maxRecDepth 100000 in
theorem c_X3_unitHeads  : Met l yX3_unitHeads (wT yX3_unitHeads cX3_unitHeads 3 (some .int)) ({ frames := 1, cells := 0, slots := 0, locals := 21 }) (pR (dC, dI) (ty3 cI cJ cZ) (xW cI q ln cw ic bs ss se we un sf pa) [.ref (q 0)]) (vp_Si (fun r => r = x_headsN ic un 6)) 0 0 (fun _ => False) := by
  refine Met.ofW (cc := cX3_unitHeads) (maxL := 3) (ret := (some .int)) (by decide) rfl ?_
  intro p e s m args below meth c s₁ B hml hv
  obtain ⟨rfl, hP, hK⟩ := hv
  have hx := B.exec
  have hb := B.bytes
  have hr := B.returns
  have hts := atoms_spec (ws := wT yX3_unitHeads cX3_unitHeads 3 (some .int)) B.pre
  have hT := wT_T hts
  have hown : s.vm.findClass RX3 = some m.cls := findClass_of_methodNamed B.named
  have hlocks := B.notSynchronized
  have hl := lv_entry ([.ref (q 0)]) (n := 3) (Nat.le_of_ble_eq_true rfl)
  rw [lg_entry_eq]
  generalize (lg_sl ([.ref (q 0)]) ++ List.replicate (3 - (lg_sl ([.ref (q 0)])).length) Slot.unset).toArray = ls at hl ⊢
  have hl : lv_has ls 3 [(0, .ref (q 0))] := hl
  refine lv_iconst (v := 0) hx hb dX3_unitHeads_0 (by decide) ?_
  refine lv_istore_n (lv' := [(1, .int 0), (0, .ref (q 0))]) hx hb dX3_unitHeads_1 rfl hl (by decide) rfl (fun ls hl => ?_)
  refine lv_iconst (v := 0) hx hb dX3_unitHeads_2 (by decide) ?_
  refine lv_istore_n (lv' := [(2, .int 0), (1, .int 0), (0, .ref (q 0))]) hx hb dX3_unitHeads_3 rfl hl (by decide) rfl (fun ls hl => ?_)
  refine loopR 6 (fun i ls => lv_has ls 3 [(2, .int (nI i)), (1, .int (x_headsN ic un i)), (0, .ref (q 0))]) (i0 := 0) (Nat.zero_le _) (lv_sub hl [0, 1, 2] rfl) (fun i ls hi hl ih => ?_) (fun ls hl => ?_)
  · refine lv_iload_n hx hb dX3_unitHeads_4 rfl (lv_at hl 0 rfl) ?_
    refine lv_bipush (v := 6) hx hb dX3_unitHeads_5 (by decide) ?_
    refine lv_icmp_ge (tgt := 44) hx hb dX3_unitHeads_7 (by decide) (fun h => absurd h (nI_ge (b := 6) hi (by decide))) (fun c_7 => ?_)
    refine lv_aload_n hx hb dX3_unitHeads_10 rfl (lv_at hl 2 rfl) ?_
    refine va_get (D := (dC, dI)) (ci := 3) (v := .int ic) (C := RX3) (T := TX3) (N := 11) hx hb hT hiX3 hown hK hP 0 rfl rfl 3 (by decide) (hT _ kf_X3_46) (fun _ h9 => h9) rfl dX3_unitHeads_11 ?_
    refine lv_iload_n hx hb dX3_unitHeads_14 rfl (lv_at hl 0 rfl) ?_
    refine vp_callSi (rRS (As := [.int ic, .int (nI i)]) (rest := []) ⟨hx, hb, hml, hown, hT⟩ (c_X3_has (l := l) ic i (by first | assumption | omega)) (cwTS 2 hT kc_X3_has km_X3_49 kt_X3_has kn_X3 rfl rfl md_X3_has ⟨Nat.le_of_ble_eq_true rfl, Nat.le_of_ble_eq_true rfl⟩) nilP hK  rfl hl.1 rfl (Nat.le_of_ble_eq_true rfl) dX3_unitHeads_15 ⟨Nat.le_of_ble_eq_true rfl, Nat.le_of_ble_eq_true rfl⟩) (fun r_15 hw_15 => ?_)
    rcases hw_15 with ⟨rfl, hw_15⟩ | ⟨rfl, hw_15⟩
    · refine lv_if_eq (tgt := 38) hx hb dX3_unitHeads_18 (by decide) (fun h => absurd h (by decide)) (fun c_18 => ?_)
      refine lv_iload_n hx hb dX3_unitHeads_21 rfl (lv_at hl 1 rfl) ?_
      refine lv_aload_n hx hb dX3_unitHeads_22 rfl (lv_at hl 2 rfl) ?_
      refine va_get (D := (dC, dI)) (ci := 3) (v := .ref (q 3)) (C := RX3) (T := TX3) (N := 11) hx hb hT hiX3 hown hK hP 0 rfl rfl 7 (by decide) (hT _ kf_X3_18) (fun _ h9 => h9) rfl dX3_unitHeads_23 ?_
      refine lv_iload_n hx hb dX3_unitHeads_26 rfl (lv_at hl 0 rfl) ?_
      refine ald_i hx hb hK hP 3 0 rfl rfl (by decide) (w := i) rfl (by omega) dX3_unitHeads_27 ?_
      refine lv_aload_n hx hb dX3_unitHeads_28 rfl (lv_at hl 2 rfl) ?_
      refine va_get (D := (dC, dI)) (ci := 3) (v := .ref (q 3)) (C := RX3) (T := TX3) (N := 11) hx hb hT hiX3 hown hK hP 0 rfl rfl 7 (by decide) (hT _ kf_X3_18) (fun _ h9 => h9) rfl dX3_unitHeads_29 ?_
      refine lv_iload_n hx hb dX3_unitHeads_32 rfl (lv_at hl 0 rfl) ?_
      refine ald_i hx hb hK hP 3 0 rfl rfl (by decide) (w := i) rfl (by omega) dX3_unitHeads_33 ?_
      refine lv_ineg hx hb dX3_unitHeads_34 ?_
      refine lv_iand hx hb dX3_unitHeads_35 ?_
      refine lv_ior hx hb dX3_unitHeads_36 ?_
      refine lv_istore_n (lv' := [(1, .int ((x_headsN ic un i) ||| ((un i) &&& (-(un i))))), (2, .int (nI i)), (0, .ref (q 0))]) hx hb dX3_unitHeads_37 rfl hl (by decide) rfl (fun ls hl => ?_)
      refine lv_iinc (v := (nI (i + 1))) (lv' := [(2, .int (nI (i + 1))), (1, .int ((x_headsN ic un i) ||| ((un i) &&& (-(un i))))), (0, .ref (q 0))]) hx hb dX3_unitHeads_38 hl (k := 1) rfl (nI_1 i) (by decide) rfl (fun ls hl => ?_)
      refine lv_goto (tgt := 4) hx hb dX3_unitHeads_41 (by decide) ?_
      have es0 : ((x_headsN ic un i) ||| ((un i) &&& (-(un i))) : Int32) = (x_headsN ic un (i + 1)) := by simp only [x_headsN, hw_15, ↓reduceIte, Bool.false_eq_true, i10]
      exact ih _ (by rw [← es0]; exact lv_sub hl [0, 1, 2] rfl)
    · refine lv_if_eq (tgt := 38) hx hb dX3_unitHeads_18 (by decide) (fun c_18 => ?_) (fun h => absurd h (by decide))
      refine lv_iinc (v := (nI (i + 1))) (lv' := [(2, .int (nI (i + 1))), (1, .int (x_headsN ic un i)), (0, .ref (q 0))]) hx hb dX3_unitHeads_38 hl (k := 0) rfl (nI_1 i) (by decide) rfl (fun ls hl => ?_)
      refine lv_goto (tgt := 4) hx hb dX3_unitHeads_41 (by decide) ?_
      have es0 : (x_headsN ic un i : Int32) = (x_headsN ic un (i + 1)) := by simp only [x_headsN, hw_15, ↓reduceIte, Bool.false_eq_true, i10]
      exact ih _ (by rw [← es0]; exact lv_sub hl [0, 1, 2] rfl)
  · refine lv_iload_n hx hb dX3_unitHeads_4 rfl (lv_at hl 0 rfl) ?_
    refine lv_bipush (v := 6) hx hb dX3_unitHeads_5 (by decide) ?_
    refine lv_icmp_ge (tgt := 44) hx hb dX3_unitHeads_7 (by decide) (fun c_7 => ?_) (fun h => absurd h (by decide))
    refine lv_iload_n hx hb dX3_unitHeads_44 rfl (lv_at hl 1 rfl) ?_
    exact retR_i hx hb hr hlocks rfl dX3_unitHeads_45
set_option maxHeartbeats 4000000 in
set_option maxRecDepth 100000 in
theorem c_X3_openBroke (st br : Int32) : Met l yX3_openBroke (wT yX3_openBroke cX3_openBroke 5 (some .int)) ({ frames := 1, cells := 0, slots := 0, locals := 21 }) (pR (dC, dI) (ty3 cI cJ cZ) (xW cI q ln cw ic bs ss se we un sf pa) [.ref (q 0), .int st, .int br]) (vp_Si (fun r => r = x_obN ic un st br 6)) 0 0 (fun _ => False) := by
  refine Met.ofW (cc := cX3_openBroke) (maxL := 5) (ret := (some .int)) (by decide) rfl ?_
  intro p e s m args below meth c s₁ B hml hv
  obtain ⟨rfl, hP, hK⟩ := hv
  have hx := B.exec
  have hb := B.bytes
  have hr := B.returns
  have hts := atoms_spec (ws := wT yX3_openBroke cX3_openBroke 5 (some .int)) B.pre
  have hT := wT_T hts
  have hown : s.vm.findClass RX3 = some m.cls := findClass_of_methodNamed B.named
  have hlocks := B.notSynchronized
  have hl := lv_entry ([.ref (q 0), .int st, .int br]) (n := 5) (Nat.le_of_ble_eq_true rfl)
  rw [lg_entry_eq]
  generalize (lg_sl ([.ref (q 0), .int st, .int br]) ++ List.replicate (5 - (lg_sl ([.ref (q 0), .int st, .int br])).length) Slot.unset).toArray = ls at hl ⊢
  have hl : lv_has ls 5 [(0, .ref (q 0)), (1, .int st), (2, .int br)] := hl
  refine lv_iconst (v := 0) hx hb dX3_openBroke_0 (by decide) ?_
  refine lv_istore_n (lv' := [(3, .int 0), (0, .ref (q 0)), (1, .int st), (2, .int br)]) hx hb dX3_openBroke_1 rfl hl (by decide) rfl (fun ls hl => ?_)
  refine lv_iconst (v := 0) hx hb dX3_openBroke_2 (by decide) ?_
  refine lv_istore (lv' := [(4, .int 0), (3, .int 0), (0, .ref (q 0)), (1, .int st), (2, .int br)]) hx hb dX3_openBroke_3 hl (by decide) rfl (fun ls hl => ?_)
  refine loopR 6 (fun i ls => lv_has ls 5 [(4, .int (nI i)), (3, .int (x_obN ic un st br i)), (0, .ref (q 0)), (1, .int st), (2, .int br)]) (i0 := 0) (Nat.zero_le _) (lv_sub hl [0, 1, 2, 3, 4] rfl) (fun i ls hi hl ih => ?_) (fun ls hl => ?_)
  · refine lv_iload hx hb dX3_openBroke_5 (lv_at hl 0 rfl) ?_
    refine lv_bipush (v := 6) hx hb dX3_openBroke_7 (by decide) ?_
    refine lv_icmp_ge (tgt := 56) hx hb dX3_openBroke_9 (by decide) (fun h => absurd h (nI_ge (b := 6) hi (by decide))) (fun c_9 => ?_)
    refine lv_aload_n hx hb dX3_openBroke_12 rfl (lv_at hl 2 rfl) ?_
    refine va_get (D := (dC, dI)) (ci := 3) (v := .int ic) (C := RX3) (T := TX3) (N := 11) hx hb hT hiX3 hown hK hP 0 rfl rfl 3 (by decide) (hT _ kf_X3_46) (fun _ h9 => h9) rfl dX3_openBroke_13 ?_
    refine lv_iload_n hx hb dX3_openBroke_16 rfl (lv_at hl 3 rfl) ?_
    refine lv_iconst (v := (-1)) hx hb dX3_openBroke_17 (by decide) ?_
    refine lv_ixor hx hb dX3_openBroke_18 ?_
    refine lv_iand hx hb dX3_openBroke_19 ?_
    refine lv_iload hx hb dX3_openBroke_20 (lv_at hl 0 rfl) ?_
    refine vp_callSi (rRS (As := [.int (ic &&& (st ^^^ (-1))), .int (nI i)]) (rest := []) ⟨hx, hb, hml, hown, hT⟩ (c_X3_has (l := l) (ic &&& (st ^^^ (-1))) i (by first | assumption | omega)) (cwTS 2 hT kc_X3_has km_X3_49 kt_X3_has kn_X3 rfl rfl md_X3_has ⟨Nat.le_of_ble_eq_true rfl, Nat.le_of_ble_eq_true rfl⟩) nilP hK  rfl hl.1 rfl (Nat.le_of_ble_eq_true rfl) dX3_openBroke_22 ⟨Nat.le_of_ble_eq_true rfl, Nat.le_of_ble_eq_true rfl⟩) (fun r_22 hw_22 => ?_)
    rcases hw_22 with ⟨rfl, hw_22⟩ | ⟨rfl, hw_22⟩
    · refine lv_if_eq (tgt := 50) hx hb dX3_openBroke_25 (by decide) (fun h => absurd h (by decide)) (fun c_25 => ?_)
      refine lv_aload_n hx hb dX3_openBroke_28 rfl (lv_at hl 2 rfl) ?_
      refine va_get (D := (dC, dI)) (ci := 3) (v := .ref (q 3)) (C := RX3) (T := TX3) (N := 11) hx hb hT hiX3 hown hK hP 0 rfl rfl 7 (by decide) (hT _ kf_X3_18) (fun _ h9 => h9) rfl dX3_openBroke_29 ?_
      refine lv_iload hx hb dX3_openBroke_32 (lv_at hl 0 rfl) ?_
      refine ald_i hx hb hK hP 3 0 rfl rfl (by decide) (w := i) rfl (by omega) dX3_openBroke_34 ?_
      refine lv_iload_n hx hb dX3_openBroke_35 rfl (lv_at hl 4 rfl) ?_
      refine lv_iconst (v := (-1)) hx hb dX3_openBroke_36 (by decide) ?_
      refine lv_ixor hx hb dX3_openBroke_37 ?_
      refine lv_iand hx hb dX3_openBroke_38 ?_
      refine lv_if_ne (tgt := 50) hx hb dX3_openBroke_39 (by decide) (fun c_39 => ?_) (fun c_39 => ?_)
      · refine lv_iinc (v := (nI (i + 1))) (lv' := [(4, .int (nI (i + 1))), (3, .int (x_obN ic un st br i)), (0, .ref (q 0)), (1, .int st), (2, .int br)]) hx hb dX3_openBroke_50 hl (k := 0) rfl (nI_1 i) (by decide) rfl (fun ls hl => ?_)
        refine lv_goto (tgt := 5) hx hb dX3_openBroke_53 (by decide) ?_
        have es0 : (x_obN ic un st br i : Int32) = (x_obN ic un st br (i + 1)) := by simp only [x_obN, hw_22, c_39, ↓reduceIte, Bool.false_eq_true, i10]
        exact ih _ (by rw [← es0]; exact lv_sub hl [0, 1, 2, 3, 4] rfl)
      · refine lv_iload_n hx hb dX3_openBroke_42 rfl (lv_at hl 1 rfl) ?_
        refine lv_iload hx hb dX3_openBroke_43 (lv_at hl 0 rfl) ?_
        refine vp_callSi (rRS (As := [.int (nI i)]) (rest := [.int (x_obN ic un st br i)]) ⟨hx, hb, hml, hown, hT⟩ (c_X3_bit (l := l) i) (cwTS 1 hT kc_X3_bit km_X3_53 kt_X3_bit kn_X3 rfl rfl md_X3_bit ⟨Nat.le_of_ble_eq_true rfl, Nat.le_of_ble_eq_true rfl⟩) nilP hK  rfl hl.1 rfl (Nat.le_of_ble_eq_true rfl) dX3_openBroke_45 ⟨Nat.le_of_ble_eq_true rfl, Nat.le_of_ble_eq_true rfl⟩) (fun r_45 hw_45 => ?_)
        subst hw_45
        refine lv_ior hx hb dX3_openBroke_48 ?_
        refine lv_istore_n (lv' := [(3, .int ((x_obN ic un st br i) ||| (x_bit i))), (4, .int (nI i)), (0, .ref (q 0)), (1, .int st), (2, .int br)]) hx hb dX3_openBroke_49 rfl hl (by decide) rfl (fun ls hl => ?_)
        refine lv_iinc (v := (nI (i + 1))) (lv' := [(4, .int (nI (i + 1))), (3, .int ((x_obN ic un st br i) ||| (x_bit i))), (0, .ref (q 0)), (1, .int st), (2, .int br)]) hx hb dX3_openBroke_50 hl (k := 1) rfl (nI_1 i) (by decide) rfl (fun ls hl => ?_)
        refine lv_goto (tgt := 5) hx hb dX3_openBroke_53 (by decide) ?_
        have es0 : ((x_obN ic un st br i) ||| (x_bit i) : Int32) = (x_obN ic un st br (i + 1)) := by simp only [x_obN, hw_22, c_39, ↓reduceIte, Bool.false_eq_true, i10]
        exact ih _ (by rw [← es0]; exact lv_sub hl [0, 1, 2, 3, 4] rfl)
    · refine lv_if_eq (tgt := 50) hx hb dX3_openBroke_25 (by decide) (fun c_25 => ?_) (fun h => absurd h (by decide))
      refine lv_iinc (v := (nI (i + 1))) (lv' := [(4, .int (nI (i + 1))), (3, .int (x_obN ic un st br i)), (0, .ref (q 0)), (1, .int st), (2, .int br)]) hx hb dX3_openBroke_50 hl (k := 0) rfl (nI_1 i) (by decide) rfl (fun ls hl => ?_)
      refine lv_goto (tgt := 5) hx hb dX3_openBroke_53 (by decide) ?_
      have es0 : (x_obN ic un st br i : Int32) = (x_obN ic un st br (i + 1)) := by simp only [x_obN, hw_22, ↓reduceIte, Bool.false_eq_true, i10]
      exact ih _ (by rw [← es0]; exact lv_sub hl [0, 1, 2, 3, 4] rfl)
  · refine lv_iload hx hb dX3_openBroke_5 (lv_at hl 0 rfl) ?_
    refine lv_bipush (v := 6) hx hb dX3_openBroke_7 (by decide) ?_
    refine lv_icmp_ge (tgt := 56) hx hb dX3_openBroke_9 (by decide) (fun c_9 => ?_) (fun h => absurd h (by decide))
    refine lv_iload_n hx hb dX3_openBroke_56 rfl (lv_at hl 1 rfl) ?_
    exact retR_i hx hb hr hlocks rfl dX3_openBroke_57
set_option maxHeartbeats 4000000 in
set_option maxRecDepth 100000 in
theorem c_X3_blame  : Met l yX3_blame (wT yX3_blame cX3_blame 1 (some .int)) ({ frames := 2, cells := 0, slots := 0, locals := 44 }) (pR (dC, dI) (ty3 cI cJ cZ) (xW cI q ln cw ic bs ss se we un sf pa) [.ref (q 0)]) (vp_Si (fun r => r = x_blame cw ic we)) 0 0 (fun _ => False) := by
  refine Met.ofW (cc := cX3_blame) (maxL := 1) (ret := (some .int)) (by decide) rfl ?_
  intro p e s m args below meth c s₁ B hml hv
  obtain ⟨rfl, hP, hK⟩ := hv
  have hx := B.exec
  have hb := B.bytes
  have hr := B.returns
  have hts := atoms_spec (ws := wT yX3_blame cX3_blame 1 (some .int)) B.pre
  have hT := wT_T hts
  have hown : s.vm.findClass RX3 = some m.cls := findClass_of_methodNamed B.named
  have hlocks := B.notSynchronized
  have hl := lv_entry ([.ref (q 0)]) (n := 1) (Nat.le_of_ble_eq_true rfl)
  rw [lg_entry_eq]
  generalize (lg_sl ([.ref (q 0)]) ++ List.replicate (1 - (lg_sl ([.ref (q 0)])).length) Slot.unset).toArray = ls at hl ⊢
  have hl : lv_has ls 1 [(0, .ref (q 0))] := hl
  refine lv_aload_n hx hb dX3_blame_0 rfl (lv_at hl 0 rfl) ?_
  refine va_get (D := (dC, dI)) (ci := 3) (v := .int cw) (C := RX3) (T := TX3) (N := 11) hx hb hT hiX3 hown hK hP 0 rfl rfl 1 (by decide) (hT _ kf_X3_43) (fun _ h9 => h9) rfl dX3_blame_1 ?_
  refine lv_aload_n hx hb dX3_blame_4 rfl (lv_at hl 0 rfl) ?_
  refine va_get (D := (dC, dI)) (ci := 3) (v := .int ic) (C := RX3) (T := TX3) (N := 11) hx hb hT hiX3 hown hK hP 0 rfl rfl 3 (by decide) (hT _ kf_X3_46) (fun _ h9 => h9) rfl dX3_blame_5 ?_
  refine lv_aload_n hx hb dX3_blame_8 rfl (lv_at hl 0 rfl) ?_
  refine va_get (D := (dC, dI)) (ci := 3) (v := .ref (q 2)) (C := RX3) (T := TX3) (N := 11) hx hb hT hiX3 hown hK hP 0 rfl rfl 6 (by decide) (hT _ kf_X3_15) (fun _ h9 => h9) rfl dX3_blame_9 ?_
  refine vp_callSi (rRS (As := [.int ic, .ref (q 2)]) (rest := [.int cw]) ⟨hx, hb, hml, hown, hT⟩ (c_X3_sumOver (l := l) ic) (cwTS 2 hT kc_X3_sumOver km_X3_82 kt_X3_sumOver kn_X3 rfl rfl md_X3_sumOver ⟨Nat.le_of_ble_eq_true rfl, Nat.le_of_ble_eq_true rfl⟩) (va_P.sub (ws' := aW cI (q 2) we) hP [2] rfl) hK  rfl hl.1 rfl (Nat.le_of_ble_eq_true rfl) dX3_blame_12 ⟨Nat.le_of_ble_eq_true rfl, Nat.le_of_ble_eq_true rfl⟩) (fun r_12 hw_12 => ?_)
  subst hw_12
  refine lv_iadd hx hb dX3_blame_15 ?_
  exact retR_i hx hb hr hlocks rfl dX3_blame_16
set_option maxHeartbeats 4000000 in
set_option maxRecDepth 100000 in
theorem c_X3_blameDown  : Met l yX3_blameDown (wT yX3_blameDown cX3_blameDown 1 (some .int)) ({ frames := 3, cells := 0, slots := 0, locals := 64 }) (pR (dC, dI) (ty3 cI cJ cZ) (xW cI q ln cw ic bs ss se we un sf pa) [.ref (q 0)]) (vp_Si (fun r => r = x_bd cw ic we)) 0 0 (fun _ => False) := by
  refine Met.ofW (cc := cX3_blameDown) (maxL := 1) (ret := (some .int)) (by decide) rfl ?_
  intro p e s m args below meth c s₁ B hml hv
  obtain ⟨rfl, hP, hK⟩ := hv
  have hx := B.exec
  have hb := B.bytes
  have hr := B.returns
  have hts := atoms_spec (ws := wT yX3_blameDown cX3_blameDown 1 (some .int)) B.pre
  have hT := wT_T hts
  have hown : s.vm.findClass RX3 = some m.cls := findClass_of_methodNamed B.named
  have hlocks := B.notSynchronized
  have hl := lv_entry ([.ref (q 0)]) (n := 1) (Nat.le_of_ble_eq_true rfl)
  rw [lg_entry_eq]
  generalize (lg_sl ([.ref (q 0)]) ++ List.replicate (1 - (lg_sl ([.ref (q 0)])).length) Slot.unset).toArray = ls at hl ⊢
  have hl : lv_has ls 1 [(0, .ref (q 0))] := hl
  refine lv_aload_n hx hb dX3_blameDown_0 rfl (lv_at hl 0 rfl) ?_
  refine vp_callSi (rRV (As := []) (rest := []) ⟨hx, hb, hml, hown, hT⟩ (c_X3_blame (l := l) ) (cwTV 0 hT kc_X3_blame km_X3_210 ki_X3_blame ks_X3_blame kn_X3 rfl rfl md_X3_blame ⟨Nat.le_of_ble_eq_true rfl, Nat.le_of_ble_eq_true rfl⟩) hP hK (va_recv hK hP (ci := 3) (q0 := 0) rfl rfl) rfl hl.1 rfl (Nat.le_of_ble_eq_true rfl) dX3_blameDown_1 ⟨Nat.le_of_ble_eq_true rfl, Nat.le_of_ble_eq_true rfl⟩) (fun r_1 hw_1 => ?_)
  subst hw_1
  refine lv_iconst (v := 1) hx hb dX3_blameDown_4 (by decide) ?_
  refine va_mmax hx hb (by rw [hml]; exact hl.1.symm) hown (hT _ km_X3_213) (hT _ kt_max) (hT _ kn_J9) (hT _ kc_max) (Nat.le_of_ble_eq_true rfl) (Nat.le_of_ble_eq_true rfl) (Nat.le_of_ble_eq_true rfl) (Nat.le_of_ble_eq_true rfl) dX3_blameDown_5 ?_
  exact retR_i hx hb hr hlocks rfl dX3_blameDown_8
set_option maxHeartbeats 4000000 in
set_option maxRecDepth 100000 in
theorem c_X3_entitledUp  : Met l yX3_entitledUp (wT yX3_entitledUp cX3_entitledUp 2 (some .long)) ({ frames := 3, cells := 0, slots := 0, locals := 64 }) (pR (dC, dI) (ty3 cI cJ cZ) (xW cI q ln cw ic bs ss se we un sf pa) [.ref (q 0)]) (vp_Sl (fun r => r = x_ent ln cw ic se we)) 0 0 (fun _ => False) := by
  refine Met.ofW (cc := cX3_entitledUp) (maxL := 2) (ret := (some .long)) (by decide) rfl ?_
  intro p e s m args below meth c s₁ B hml hv
  obtain ⟨rfl, hP, hK⟩ := hv
  have hx := B.exec
  have hb := B.bytes
  have hr := B.returns
  have hts := atoms_spec (ws := wT yX3_entitledUp cX3_entitledUp 2 (some .long)) B.pre
  have hT := wT_T hts
  have hown : s.vm.findClass RX3 = some m.cls := findClass_of_methodNamed B.named
  have hlocks := B.notSynchronized
  have hl := lv_entry ([.ref (q 0)]) (n := 2) (Nat.le_of_ble_eq_true rfl)
  rw [lg_entry_eq]
  generalize (lg_sl ([.ref (q 0)]) ++ List.replicate (2 - (lg_sl ([.ref (q 0)])).length) Slot.unset).toArray = ls at hl ⊢
  have hl : lv_has ls 2 [(0, .ref (q 0))] := hl
  refine lv_aload_n hx hb dX3_entitledUp_0 rfl (lv_at hl 0 rfl) ?_
  refine vp_callSi (rRV (As := []) (rest := []) ⟨hx, hb, hml, hown, hT⟩ (c_X3_blame (l := l) ) (cwTV 0 hT kc_X3_blame km_X3_210 ki_X3_blame ks_X3_blame kn_X3 rfl rfl md_X3_blame ⟨Nat.le_of_ble_eq_true rfl, Nat.le_of_ble_eq_true rfl⟩) hP hK (va_recv hK hP (ci := 3) (q0 := 0) rfl rfl) rfl hl.1 rfl (Nat.le_of_ble_eq_true rfl) dX3_entitledUp_1 ⟨Nat.le_of_ble_eq_true rfl, Nat.le_of_ble_eq_true rfl⟩) (fun r_1 hw_1 => ?_)
  subst hw_1
  refine lv_istore_n (lv' := [(1, .int (x_blame cw ic we)), (0, .ref (q 0))]) hx hb dX3_entitledUp_4 rfl hl (by decide) rfl (fun ls hl => ?_)
  refine lv_bipush (v := 100) hx hb dX3_entitledUp_5 (by decide) ?_
  refine lv_aload_n hx hb dX3_entitledUp_7 rfl (lv_at hl 1 rfl) ?_
  refine va_get (D := (dC, dI)) (ci := 3) (v := .int cw) (C := RX3) (T := TX3) (N := 11) hx hb hT hiX3 hown hK hP 0 rfl rfl 1 (by decide) (hT _ kf_X3_43) (fun _ h9 => h9) rfl dX3_entitledUp_8 ?_
  refine lv_imul hx hb dX3_entitledUp_11 ?_
  refine lv_aload_n hx hb dX3_entitledUp_12 rfl (lv_at hl 1 rfl) ?_
  refine va_get (D := (dC, dI)) (ci := 3) (v := .ref (q 1)) (C := RX3) (T := TX3) (N := 11) hx hb hT hiX3 hown hK hP 0 rfl rfl 2 (by decide) (hT _ kf_X3_9) (fun _ h9 => h9) rfl dX3_entitledUp_13 ?_
  refine lv_iconst (v := 2) hx hb dX3_entitledUp_16 (by decide) ?_
  refine ald_i hx hb hK hP 1 0 rfl rfl (by decide) (w := 2) rfl (by decide) dX3_entitledUp_17 ?_
  refine lv_iload_n hx hb dX3_entitledUp_18 rfl (lv_at hl 0 rfl) ?_
  refine lv_imul hx hb dX3_entitledUp_19 ?_
  refine lv_icmp_le (tgt := 25) hx hb dX3_entitledUp_20 (by decide) (fun c_20 => ?_) (fun c_20 => ?_)
  · refine lv_aload_n hx hb dX3_entitledUp_25 rfl (lv_at hl 1 rfl) ?_
    refine va_get (D := (dC, dI)) (ci := 3) (v := .int ln) (C := RX3) (T := TX3) (N := 11) hx hb hT hiX3 hown hK hP 0 rfl rfl 0 (by decide) (hT _ kf_X3_39) (fun _ h9 => h9) rfl dX3_entitledUp_26 ?_
    refine lv_i2l hx hb dX3_entitledUp_29 rfl ?_
    refine lv_iload_n hx hb dX3_entitledUp_30 rfl (lv_at hl 0 rfl) ?_
    refine lv_aload_n hx hb dX3_entitledUp_31 rfl (lv_at hl 1 rfl) ?_
    refine va_get (D := (dC, dI)) (ci := 3) (v := .int cw) (C := RX3) (T := TX3) (N := 11) hx hb hT hiX3 hown hK hP 0 rfl rfl 1 (by decide) (hT _ kf_X3_43) (fun _ h9 => h9) rfl dX3_entitledUp_32 ?_
    refine lv_isub hx hb dX3_entitledUp_35 ?_
    refine lv_i2l hx hb dX3_entitledUp_36 rfl ?_
    refine lv_lmul hx hb dX3_entitledUp_37 ?_
    exact retR_l hx hb hr hlocks (by simp only [x_ent, c_20, ↓reduceIte, Bool.false_eq_true, i10]) dX3_entitledUp_38
  · refine lv_lconst (v := 0) hx hb dX3_entitledUp_23 (by decide) ?_
    exact retR_l hx hb hr hlocks (by simp only [x_ent, c_20, ↓reduceIte, Bool.false_eq_true, i10]) dX3_entitledUp_24
set_option maxHeartbeats 4000000 in
set_option maxRecDepth 100000 in
theorem c_X3_creditUp (w : Nat) (mn dn : Int32) (hw : w < 6) : Met l yX3_creditUp (wT yX3_creditUp cX3_creditUp 8 (some .long)) ({ frames := 2, cells := 0, slots := 0, locals := 44 }) (pR (dC, dI) (ty3 cI cJ cZ) (xW cI q ln cw ic bs ss se we un sf pa) [.ref (q 0), .int (nI w), .int mn, .int dn]) (vp_Sl (fun r => r = x_cred ln we un sf w mn dn)) 0 0 (fun _ => False) := by
  refine Met.ofW (cc := cX3_creditUp) (maxL := 8) (ret := (some .long)) (by decide) rfl ?_
  intro p e s m args below meth c s₁ B hml hv
  obtain ⟨rfl, hP, hK⟩ := hv
  have hx := B.exec
  have hb := B.bytes
  have hr := B.returns
  have hts := atoms_spec (ws := wT yX3_creditUp cX3_creditUp 8 (some .long)) B.pre
  have hT := wT_T hts
  have hown : s.vm.findClass RX3 = some m.cls := findClass_of_methodNamed B.named
  have hlocks := B.notSynchronized
  have hl := lv_entry ([.ref (q 0), .int (nI w), .int mn, .int dn]) (n := 8) (Nat.le_of_ble_eq_true rfl)
  rw [lg_entry_eq]
  generalize (lg_sl ([.ref (q 0), .int (nI w), .int mn, .int dn]) ++ List.replicate (8 - (lg_sl ([.ref (q 0), .int (nI w), .int mn, .int dn])).length) Slot.unset).toArray = ls at hl ⊢
  have hl : lv_has ls 8 [(0, .ref (q 0)), (1, .int (nI w)), (2, .int mn), (3, .int dn)] := hl
  refine lv_aload_n hx hb dX3_creditUp_0 rfl (lv_at hl 0 rfl) ?_
  refine va_get (D := (dC, dI)) (ci := 3) (v := .ref (q 4)) (C := RX3) (T := TX3) (N := 11) hx hb hT hiX3 hown hK hP 0 rfl rfl 8 (by decide) (hT _ kf_X3_21) (fun _ h9 => h9) rfl dX3_creditUp_1 ?_
  refine lv_iload_n hx hb dX3_creditUp_4 rfl (lv_at hl 1 rfl) ?_
  refine ald_i hx hb hK hP 4 0 rfl rfl (by decide) (w := w) rfl (by omega) dX3_creditUp_5 ?_
  refine lv_i2l hx hb dX3_creditUp_6 rfl ?_
  refine lv_iload_n hx hb dX3_creditUp_7 rfl (lv_at hl 3 rfl) ?_
  refine lv_i2l hx hb dX3_creditUp_8 rfl ?_
  refine lv_lmul hx hb dX3_creditUp_9 ?_
  refine lv_lstore (lv' := [(4, .long ((sf w).toInt64 * (dn).toInt64)), (0, .ref (q 0)), (1, .int (nI w)), (2, .int mn), (3, .int dn)]) hx hb dX3_creditUp_10 hl (by decide) rfl (fun ls hl => ?_)
  refine lv_aload_n hx hb dX3_creditUp_12 rfl (lv_at hl 1 rfl) ?_
  refine va_get (D := (dC, dI)) (ci := 3) (v := .int ln) (C := RX3) (T := TX3) (N := 11) hx hb hT hiX3 hown hK hP 0 rfl rfl 0 (by decide) (hT _ kf_X3_39) (fun _ h9 => h9) rfl dX3_creditUp_13 ?_
  refine lv_i2l hx hb dX3_creditUp_16 rfl ?_
  refine lv_aload_n hx hb dX3_creditUp_17 rfl (lv_at hl 1 rfl) ?_
  refine va_get (D := (dC, dI)) (ci := 3) (v := .ref (q 3)) (C := RX3) (T := TX3) (N := 11) hx hb hT hiX3 hown hK hP 0 rfl rfl 7 (by decide) (hT _ kf_X3_18) (fun _ h9 => h9) rfl dX3_creditUp_18 ?_
  refine lv_iload_n hx hb dX3_creditUp_21 rfl (lv_at hl 2 rfl) ?_
  refine ald_i hx hb hK hP 3 0 rfl rfl (by decide) (w := w) rfl (by omega) dX3_creditUp_22 ?_
  refine lv_aload_n hx hb dX3_creditUp_23 rfl (lv_at hl 1 rfl) ?_
  refine va_get (D := (dC, dI)) (ci := 3) (v := .ref (q 2)) (C := RX3) (T := TX3) (N := 11) hx hb hT hiX3 hown hK hP 0 rfl rfl 6 (by decide) (hT _ kf_X3_15) (fun _ h9 => h9) rfl dX3_creditUp_24 ?_
  refine vp_callSi (rRS (As := [.int (un w), .ref (q 2)]) (rest := [.long ((ln).toInt64)]) ⟨hx, hb, hml, hown, hT⟩ (c_X3_sumOver (l := l) (un w)) (cwTS 2 hT kc_X3_sumOver km_X3_82 kt_X3_sumOver kn_X3 rfl rfl md_X3_sumOver ⟨Nat.le_of_ble_eq_true rfl, Nat.le_of_ble_eq_true rfl⟩) (va_P.sub (ws' := aW cI (q 2) we) hP [2] rfl) hK  rfl hl.1 rfl (Nat.le_of_ble_eq_true rfl) dX3_creditUp_27 ⟨Nat.le_of_ble_eq_true rfl, Nat.le_of_ble_eq_true rfl⟩) (fun r_27 hw_27 => ?_)
  subst hw_27
  refine lv_i2l hx hb dX3_creditUp_30 rfl ?_
  refine lv_lmul hx hb dX3_creditUp_31 ?_
  refine lv_lstore (lv' := [(6, .long ((ln).toInt64 * (x_sumN (un w) we 6).toInt64)), (4, .long ((sf w).toInt64 * (dn).toInt64)), (0, .ref (q 0)), (1, .int (nI w)), (2, .int mn), (3, .int dn)]) hx hb dX3_creditUp_32 hl (by decide) rfl (fun ls hl => ?_)
  refine lv_iload_n hx hb dX3_creditUp_34 rfl (lv_at hl 4 rfl) ?_
  refine lv_if_ne (tgt := 41) hx hb dX3_creditUp_35 (by decide) (fun c_35 => ?_) (fun c_35 => ?_)
  · refine lv_iload_n hx hb dX3_creditUp_41 rfl (lv_at hl 4 rfl) ?_
    refine lv_iconst (v := 1) hx hb dX3_creditUp_42 (by decide) ?_
    refine lv_icmp_ne (tgt := 51) hx hb dX3_creditUp_43 (by decide) (fun c_43 => ?_) (fun c_43 => ?_)
    · refine lv_lload hx hb dX3_creditUp_51 (lv_at hl 1 rfl) ?_
      refine lv_lload hx hb dX3_creditUp_53 (lv_at hl 0 rfl) ?_
      refine va_mmax_long hx hb (by rw [hml]; exact hl.1.symm) hown (hT _ km_X3_218) (hT _ kt_maxl) (hT _ kn_J9) (hT _ kc_maxl) (Nat.le_of_ble_eq_true rfl) (Nat.le_of_ble_eq_true rfl) (Nat.le_of_ble_eq_true rfl) (Nat.le_of_ble_eq_true rfl) dX3_creditUp_55 ?_
      exact retR_l hx hb hr hlocks (by simp only [x_cred, c_35, c_43, ↓reduceIte, Bool.false_eq_true, i10]) dX3_creditUp_58
    · refine lv_lload hx hb dX3_creditUp_46 (lv_at hl 0 rfl) ?_
      refine lv_goto (tgt := 58) hx hb dX3_creditUp_48 (by decide) ?_
      exact retR_l hx hb hr hlocks (by simp only [x_cred, c_35, c_43, ↓reduceIte, Bool.false_eq_true, i10]) dX3_creditUp_58
  · refine lv_lload hx hb dX3_creditUp_38 (lv_at hl 1 rfl) ?_
    exact retR_l hx hb hr hlocks (by simp only [x_cred, c_35, ↓reduceIte, Bool.false_eq_true, i10]) dX3_creditUp_40
set_option maxHeartbeats 4000000 in
set_option maxRecDepth 100000 in
theorem c_X3_creditsUp (mn st dn : Int32) : Met l yX3_creditsUp (wT yX3_creditsUp cX3_creditsUp 8 (some .long)) ({ frames := 3, cells := 0, slots := 0, locals := 71 }) (pR (dC, dI) (ty3 cI cJ cZ) (xW cI q ln cw ic bs ss se we un sf pa) [.ref (q 0), .int mn, .int st, .int dn]) (vp_Sl (fun r => r = x_credsN ln ic we un sf mn st dn 6)) 0 0 (fun _ => False) := by
  refine Met.ofW (cc := cX3_creditsUp) (maxL := 8) (ret := (some .long)) (by decide) rfl ?_
  intro p e s m args below meth c s₁ B hml hv
  obtain ⟨rfl, hP, hK⟩ := hv
  have hx := B.exec
  have hb := B.bytes
  have hr := B.returns
  have hts := atoms_spec (ws := wT yX3_creditsUp cX3_creditsUp 8 (some .long)) B.pre
  have hT := wT_T hts
  have hown : s.vm.findClass RX3 = some m.cls := findClass_of_methodNamed B.named
  have hlocks := B.notSynchronized
  have hl := lv_entry ([.ref (q 0), .int mn, .int st, .int dn]) (n := 8) (Nat.le_of_ble_eq_true rfl)
  rw [lg_entry_eq]
  generalize (lg_sl ([.ref (q 0), .int mn, .int st, .int dn]) ++ List.replicate (8 - (lg_sl ([.ref (q 0), .int mn, .int st, .int dn])).length) Slot.unset).toArray = ls at hl ⊢
  have hl : lv_has ls 8 [(0, .ref (q 0)), (1, .int mn), (2, .int st), (3, .int dn)] := hl
  refine lv_aload_n hx hb dX3_creditsUp_0 rfl (lv_at hl 0 rfl) ?_
  refine vp_callSi (rRV (As := []) (rest := []) ⟨hx, hb, hml, hown, hT⟩ (c_X3_unitHeads (l := l) ) (cwTV 0 hT kc_X3_unitHeads km_X3_204 ki_X3_unitHeads ks_X3_unitHeads kn_X3 rfl rfl md_X3_unitHeads ⟨Nat.le_of_ble_eq_true rfl, Nat.le_of_ble_eq_true rfl⟩) hP hK (va_recv hK hP (ci := 3) (q0 := 0) rfl rfl) rfl hl.1 rfl (Nat.le_of_ble_eq_true rfl) dX3_creditsUp_1 ⟨Nat.le_of_ble_eq_true rfl, Nat.le_of_ble_eq_true rfl⟩) (fun r_1 hw_1 => ?_)
  subst hw_1
  refine lv_iload_n hx hb dX3_creditsUp_4 rfl (lv_at hl 2 rfl) ?_
  refine lv_iand hx hb dX3_creditsUp_5 ?_
  refine lv_istore (lv' := [(4, .int ((x_headsN ic un 6) &&& st)), (0, .ref (q 0)), (1, .int mn), (2, .int st), (3, .int dn)]) hx hb dX3_creditsUp_6 hl (by decide) rfl (fun ls hl => ?_)
  refine lv_lconst (v := 0) hx hb dX3_creditsUp_8 (by decide) ?_
  refine lv_lstore (lv' := [(5, .long 0), (4, .int ((x_headsN ic un 6) &&& st)), (0, .ref (q 0)), (1, .int mn), (2, .int st), (3, .int dn)]) hx hb dX3_creditsUp_9 hl (by decide) rfl (fun ls hl => ?_)
  refine lv_iconst (v := 0) hx hb dX3_creditsUp_11 (by decide) ?_
  refine lv_istore (lv' := [(7, .int 0), (5, .long 0), (4, .int ((x_headsN ic un 6) &&& st)), (0, .ref (q 0)), (1, .int mn), (2, .int st), (3, .int dn)]) hx hb dX3_creditsUp_12 hl (by decide) rfl (fun ls hl => ?_)
  refine loopR 6 (fun i ls => lv_has ls 8 [(7, .int (nI i)), (5, .long (x_credsN ln ic we un sf mn st dn i)), (4, .int ((x_headsN ic un 6) &&& st)), (0, .ref (q 0)), (1, .int mn), (2, .int st), (3, .int dn)]) (i0 := 0) (Nat.zero_le _) (lv_sub hl [0, 1, 2, 3, 4, 5, 6] rfl) (fun i ls hi hl ih => ?_) (fun ls hl => ?_)
  · refine lv_iload hx hb dX3_creditsUp_14 (lv_at hl 0 rfl) ?_
    refine lv_bipush (v := 6) hx hb dX3_creditsUp_16 (by decide) ?_
    refine lv_icmp_ge (tgt := 50) hx hb dX3_creditsUp_18 (by decide) (fun h => absurd h (nI_ge (b := 6) hi (by decide))) (fun c_18 => ?_)
    refine lv_iload hx hb dX3_creditsUp_21 (lv_at hl 2 rfl) ?_
    refine lv_iload hx hb dX3_creditsUp_23 (lv_at hl 0 rfl) ?_
    refine vp_callSi (rRS (As := [.int ((x_headsN ic un 6) &&& st), .int (nI i)]) (rest := []) ⟨hx, hb, hml, hown, hT⟩ (c_X3_has (l := l) ((x_headsN ic un 6) &&& st) i (by first | assumption | omega)) (cwTS 2 hT kc_X3_has km_X3_49 kt_X3_has kn_X3 rfl rfl md_X3_has ⟨Nat.le_of_ble_eq_true rfl, Nat.le_of_ble_eq_true rfl⟩) nilP hK  rfl hl.1 rfl (Nat.le_of_ble_eq_true rfl) dX3_creditsUp_25 ⟨Nat.le_of_ble_eq_true rfl, Nat.le_of_ble_eq_true rfl⟩) (fun r_25 hw_25 => ?_)
    rcases hw_25 with ⟨rfl, hw_25⟩ | ⟨rfl, hw_25⟩
    · refine lv_if_eq (tgt := 44) hx hb dX3_creditsUp_28 (by decide) (fun h => absurd h (by decide)) (fun c_28 => ?_)
      refine lv_lload hx hb dX3_creditsUp_31 (lv_at hl 1 rfl) ?_
      refine lv_aload_n hx hb dX3_creditsUp_33 rfl (lv_at hl 3 rfl) ?_
      refine lv_iload hx hb dX3_creditsUp_34 (lv_at hl 0 rfl) ?_
      refine lv_iload_n hx hb dX3_creditsUp_36 rfl (lv_at hl 4 rfl) ?_
      refine lv_iload_n hx hb dX3_creditsUp_37 rfl (lv_at hl 6 rfl) ?_
      refine vp_callSl (rRV (As := [.int (nI i), .int mn, .int dn]) (rest := [.long (x_credsN ln ic we un sf mn st dn i)]) ⟨hx, hb, hml, hown, hT⟩ (c_X3_creditUp (l := l) i mn dn (by first | assumption | omega)) (cwTV 3 hT kc_X3_creditUp km_X3_130 ki_X3_creditUp ks_X3_creditUp kn_X3 rfl rfl md_X3_creditUp ⟨Nat.le_of_ble_eq_true rfl, Nat.le_of_ble_eq_true rfl⟩) hP hK (va_recv hK hP (ci := 3) (q0 := 0) rfl rfl) rfl hl.1 rfl (Nat.le_of_ble_eq_true rfl) dX3_creditsUp_38 ⟨Nat.le_of_ble_eq_true rfl, Nat.le_of_ble_eq_true rfl⟩) (fun r_38 hw_38 => ?_)
      subst hw_38
      refine lv_ladd hx hb dX3_creditsUp_41 ?_
      refine lv_lstore (lv' := [(5, .long ((x_credsN ln ic we un sf mn st dn i) + (x_cred ln we un sf i mn dn))), (7, .int (nI i)), (4, .int ((x_headsN ic un 6) &&& st)), (0, .ref (q 0)), (1, .int mn), (2, .int st), (3, .int dn)]) hx hb dX3_creditsUp_42 hl (by decide) rfl (fun ls hl => ?_)
      refine lv_iinc (v := (nI (i + 1))) (lv' := [(7, .int (nI (i + 1))), (5, .long ((x_credsN ln ic we un sf mn st dn i) + (x_cred ln we un sf i mn dn))), (4, .int ((x_headsN ic un 6) &&& st)), (0, .ref (q 0)), (1, .int mn), (2, .int st), (3, .int dn)]) hx hb dX3_creditsUp_44 hl (k := 1) rfl (nI_1 i) (by decide) rfl (fun ls hl => ?_)
      refine lv_goto (tgt := 14) hx hb dX3_creditsUp_47 (by decide) ?_
      have es0 : ((x_credsN ln ic we un sf mn st dn i) + (x_cred ln we un sf i mn dn) : Int64) = (x_credsN ln ic we un sf mn st dn (i + 1)) := by simp only [x_credsN, hw_25, ↓reduceIte, Bool.false_eq_true, i10]
      exact ih _ (by rw [← es0]; exact lv_sub hl [0, 1, 2, 3, 4, 5, 6] rfl)
    · refine lv_if_eq (tgt := 44) hx hb dX3_creditsUp_28 (by decide) (fun c_28 => ?_) (fun h => absurd h (by decide))
      refine lv_iinc (v := (nI (i + 1))) (lv' := [(7, .int (nI (i + 1))), (5, .long (x_credsN ln ic we un sf mn st dn i)), (4, .int ((x_headsN ic un 6) &&& st)), (0, .ref (q 0)), (1, .int mn), (2, .int st), (3, .int dn)]) hx hb dX3_creditsUp_44 hl (k := 0) rfl (nI_1 i) (by decide) rfl (fun ls hl => ?_)
      refine lv_goto (tgt := 14) hx hb dX3_creditsUp_47 (by decide) ?_
      have es0 : (x_credsN ln ic we un sf mn st dn i : Int64) = (x_credsN ln ic we un sf mn st dn (i + 1)) := by simp only [x_credsN, hw_25, ↓reduceIte, Bool.false_eq_true, i10]
      exact ih _ (by rw [← es0]; exact lv_sub hl [0, 1, 2, 3, 4, 5, 6] rfl)
  · refine lv_iload hx hb dX3_creditsUp_14 (lv_at hl 0 rfl) ?_
    refine lv_bipush (v := 6) hx hb dX3_creditsUp_16 (by decide) ?_
    refine lv_icmp_ge (tgt := 50) hx hb dX3_creditsUp_18 (by decide) (fun c_18 => ?_) (fun h => absurd h (by decide))
    refine lv_lload hx hb dX3_creditsUp_50 (lv_at hl 1 rfl) ?_
    exact retR_l hx hb hr hlocks rfl dX3_creditsUp_52
set_option maxHeartbeats 4000000 in
set_option maxRecDepth 100000 in
theorem c_X3_unitBears (w : Nat) (st : Int32) (hw : w < 6) : Met l yX3_unitBears (wT yX3_unitBears cX3_unitBears 4 (some .int)) ({ frames := 2, cells := 0, slots := 0, locals := 45 }) (pR (dC, dI) (ty3 cI cJ cZ) (xW cI q ln cw ic bs ss se we un sf pa) [.ref (q 0), .int (nI w), .int st]) (vp_Si (fun r => r = x_ub ic bs we un w st)) 0 0 (fun _ => False) := by
  refine Met.ofW (cc := cX3_unitBears) (maxL := 4) (ret := (some .int)) (by decide) rfl ?_
  intro p e s m args below meth c s₁ B hml hv
  obtain ⟨rfl, hP, hK⟩ := hv
  have hx := B.exec
  have hb := B.bytes
  have hr := B.returns
  have hts := atoms_spec (ws := wT yX3_unitBears cX3_unitBears 4 (some .int)) B.pre
  have hT := wT_T hts
  have hown : s.vm.findClass RX3 = some m.cls := findClass_of_methodNamed B.named
  have hlocks := B.notSynchronized
  have hl := lv_entry ([.ref (q 0), .int (nI w), .int st]) (n := 4) (Nat.le_of_ble_eq_true rfl)
  rw [lg_entry_eq]
  generalize (lg_sl ([.ref (q 0), .int (nI w), .int st]) ++ List.replicate (4 - (lg_sl ([.ref (q 0), .int (nI w), .int st])).length) Slot.unset).toArray = ls at hl ⊢
  have hl : lv_has ls 4 [(0, .ref (q 0)), (1, .int (nI w)), (2, .int st)] := hl
  refine lv_iload_n hx hb dX3_unitBears_0 rfl (lv_at hl 2 rfl) ?_
  refine lv_iload_n hx hb dX3_unitBears_1 rfl (lv_at hl 1 rfl) ?_
  refine vp_callSi (rRS (As := [.int st, .int (nI w)]) (rest := []) ⟨hx, hb, hml, hown, hT⟩ (c_X3_has (l := l) st w (by first | assumption | omega)) (cwTS 2 hT kc_X3_has km_X3_49 kt_X3_has kn_X3 rfl rfl md_X3_has ⟨Nat.le_of_ble_eq_true rfl, Nat.le_of_ble_eq_true rfl⟩) nilP hK  rfl hl.1 rfl (Nat.le_of_ble_eq_true rfl) dX3_unitBears_2 ⟨Nat.le_of_ble_eq_true rfl, Nat.le_of_ble_eq_true rfl⟩) (fun r_2 hw_2 => ?_)
  rcases hw_2 with ⟨rfl, hw_2⟩ | ⟨rfl, hw_2⟩
  · refine lv_if_ne (tgt := 28) hx hb dX3_unitBears_5 (by decide) (fun c_5 => ?_) (fun h => absurd h (by decide))
    refine lv_iconst (v := 0) hx hb dX3_unitBears_28 (by decide) ?_
    refine lv_istore_n (lv' := [(3, .int 0), (0, .ref (q 0)), (1, .int (nI w)), (2, .int st)]) hx hb dX3_unitBears_29 rfl hl (by decide) rfl (fun ls hl => ?_)
    refine lv_iload_n hx hb dX3_unitBears_30 rfl (lv_at hl 0 rfl) ?_
    refine lv_if_eq (tgt := 50) hx hb dX3_unitBears_31 (by decide) (fun c_31 => ?_) (fun h => absurd h (by decide))
    refine lv_iconst (v := 0) hx hb dX3_unitBears_50 (by decide) ?_
    exact retR_i hx hb hr hlocks (by simp only [x_ub, hw_2, ↓reduceIte, Bool.false_eq_true, i10]) dX3_unitBears_51
  · refine lv_if_ne (tgt := 28) hx hb dX3_unitBears_5 (by decide) (fun h => absurd h (by decide)) (fun c_5 => ?_)
    refine lv_aload_n hx hb dX3_unitBears_8 rfl (lv_at hl 0 rfl) ?_
    refine lv_iload_n hx hb dX3_unitBears_9 rfl (lv_at hl 2 rfl) ?_
    refine lv_aload_n hx hb dX3_unitBears_10 rfl (lv_at hl 0 rfl) ?_
    refine va_get (D := (dC, dI)) (ci := 3) (v := .int bs) (C := RX3) (T := TX3) (N := 11) hx hb hT hiX3 hown hK hP 0 rfl rfl 4 (by decide) (hT _ kf_X3_68) (fun _ h9 => h9) rfl dX3_unitBears_11 ?_
    refine vp_callSi (rRV (As := [.int st, .int bs]) (rest := []) ⟨hx, hb, hml, hown, hT⟩ (c_X3_openBroke (l := l) st bs) (cwTV 2 hT kc_X3_openBroke km_X3_207 ki_X3_openBroke ks_X3_openBroke kn_X3 rfl rfl md_X3_openBroke ⟨Nat.le_of_ble_eq_true rfl, Nat.le_of_ble_eq_true rfl⟩) hP hK (va_recv hK hP (ci := 3) (q0 := 0) rfl rfl) rfl hl.1 rfl (Nat.le_of_ble_eq_true rfl) dX3_unitBears_14 ⟨Nat.le_of_ble_eq_true rfl, Nat.le_of_ble_eq_true rfl⟩) (fun r_14 hw_14 => ?_)
    subst hw_14
    refine lv_iload_n hx hb dX3_unitBears_17 rfl (lv_at hl 1 rfl) ?_
    refine vp_callSi (rRS (As := [.int (x_obN ic un st bs 6), .int (nI w)]) (rest := []) ⟨hx, hb, hml, hown, hT⟩ (c_X3_has (l := l) (x_obN ic un st bs 6) w (by first | assumption | omega)) (cwTS 2 hT kc_X3_has km_X3_49 kt_X3_has kn_X3 rfl rfl md_X3_has ⟨Nat.le_of_ble_eq_true rfl, Nat.le_of_ble_eq_true rfl⟩) nilP hK  rfl hl.1 rfl (Nat.le_of_ble_eq_true rfl) dX3_unitBears_18 ⟨Nat.le_of_ble_eq_true rfl, Nat.le_of_ble_eq_true rfl⟩) (fun r_18 hw_18 => ?_)
    rcases hw_18 with ⟨rfl, hw_18⟩ | ⟨rfl, hw_18⟩
    · refine lv_if_ne (tgt := 28) hx hb dX3_unitBears_21 (by decide) (fun c_21 => ?_) (fun h => absurd h (by decide))
      refine lv_iconst (v := 0) hx hb dX3_unitBears_28 (by decide) ?_
      refine lv_istore_n (lv' := [(3, .int 0), (0, .ref (q 0)), (1, .int (nI w)), (2, .int st)]) hx hb dX3_unitBears_29 rfl hl (by decide) rfl (fun ls hl => ?_)
      refine lv_iload_n hx hb dX3_unitBears_30 rfl (lv_at hl 0 rfl) ?_
      refine lv_if_eq (tgt := 50) hx hb dX3_unitBears_31 (by decide) (fun c_31 => ?_) (fun h => absurd h (by decide))
      refine lv_iconst (v := 0) hx hb dX3_unitBears_50 (by decide) ?_
      exact retR_i hx hb hr hlocks (by simp only [x_ub, hw_2, hw_18, ↓reduceIte, Bool.false_eq_true, i10]) dX3_unitBears_51
    · refine lv_if_ne (tgt := 28) hx hb dX3_unitBears_21 (by decide) (fun h => absurd h (by decide)) (fun c_21 => ?_)
      refine lv_iconst (v := 1) hx hb dX3_unitBears_24 (by decide) ?_
      refine lv_goto (tgt := 29) hx hb dX3_unitBears_25 (by decide) ?_
      refine lv_istore_n (lv' := [(3, .int 1), (0, .ref (q 0)), (1, .int (nI w)), (2, .int st)]) hx hb dX3_unitBears_29 rfl hl (by decide) rfl (fun ls hl => ?_)
      refine lv_iload_n hx hb dX3_unitBears_30 rfl (lv_at hl 0 rfl) ?_
      refine lv_if_eq (tgt := 50) hx hb dX3_unitBears_31 (by decide) (fun h => absurd h (by decide)) (fun c_31 => ?_)
      refine lv_aload_n hx hb dX3_unitBears_34 rfl (lv_at hl 1 rfl) ?_
      refine va_get (D := (dC, dI)) (ci := 3) (v := .ref (q 3)) (C := RX3) (T := TX3) (N := 11) hx hb hT hiX3 hown hK hP 0 rfl rfl 7 (by decide) (hT _ kf_X3_18) (fun _ h9 => h9) rfl dX3_unitBears_35 ?_
      refine lv_iload_n hx hb dX3_unitBears_38 rfl (lv_at hl 2 rfl) ?_
      refine ald_i hx hb hK hP 3 0 rfl rfl (by decide) (w := w) rfl (by omega) dX3_unitBears_39 ?_
      refine lv_aload_n hx hb dX3_unitBears_40 rfl (lv_at hl 1 rfl) ?_
      refine va_get (D := (dC, dI)) (ci := 3) (v := .ref (q 2)) (C := RX3) (T := TX3) (N := 11) hx hb hT hiX3 hown hK hP 0 rfl rfl 6 (by decide) (hT _ kf_X3_15) (fun _ h9 => h9) rfl dX3_unitBears_41 ?_
      refine vp_callSi (rRS (As := [.int (un w), .ref (q 2)]) (rest := []) ⟨hx, hb, hml, hown, hT⟩ (c_X3_sumOver (l := l) (un w)) (cwTS 2 hT kc_X3_sumOver km_X3_82 kt_X3_sumOver kn_X3 rfl rfl md_X3_sumOver ⟨Nat.le_of_ble_eq_true rfl, Nat.le_of_ble_eq_true rfl⟩) (va_P.sub (ws' := aW cI (q 2) we) hP [2] rfl) hK  rfl hl.1 rfl (Nat.le_of_ble_eq_true rfl) dX3_unitBears_44 ⟨Nat.le_of_ble_eq_true rfl, Nat.le_of_ble_eq_true rfl⟩) (fun r_44 hw_44 => ?_)
      subst hw_44
      refine lv_goto (tgt := 51) hx hb dX3_unitBears_47 (by decide) ?_
      exact retR_i hx hb hr hlocks (by simp only [x_ub, hw_2, hw_18, ↓reduceIte, Bool.false_eq_true, i10]) dX3_unitBears_51
set_option maxHeartbeats 4000000 in
set_option maxRecDepth 100000 in
theorem c_X3_bears (w : Nat) (hw : w < 6) : Met l yX3_bears (wT yX3_bears cX3_bears 3 (some .int)) ({ frames := 2, cells := 0, slots := 0, locals := 44 }) (pR (dC, dI) (ty3 cI cJ cZ) (xW cI q ln cw ic bs ss se we un sf pa) [.ref (q 0), .int (nI w)]) (vp_Si (fun r => r = x_bears bs ss we un w)) 0 0 (fun _ => False) := by
  refine Met.ofW (cc := cX3_bears) (maxL := 3) (ret := (some .int)) (by decide) rfl ?_
  intro p e s m args below meth c s₁ B hml hv
  obtain ⟨rfl, hP, hK⟩ := hv
  have hx := B.exec
  have hb := B.bytes
  have hr := B.returns
  have hts := atoms_spec (ws := wT yX3_bears cX3_bears 3 (some .int)) B.pre
  have hT := wT_T hts
  have hown : s.vm.findClass RX3 = some m.cls := findClass_of_methodNamed B.named
  have hlocks := B.notSynchronized
  have hl := lv_entry ([.ref (q 0), .int (nI w)]) (n := 3) (Nat.le_of_ble_eq_true rfl)
  rw [lg_entry_eq]
  generalize (lg_sl ([.ref (q 0), .int (nI w)]) ++ List.replicate (3 - (lg_sl ([.ref (q 0), .int (nI w)])).length) Slot.unset).toArray = ls at hl ⊢
  have hl : lv_has ls 3 [(0, .ref (q 0)), (1, .int (nI w))] := hl
  refine lv_aload_n hx hb dX3_bears_0 rfl (lv_at hl 0 rfl) ?_
  refine va_get (D := (dC, dI)) (ci := 3) (v := .int ss) (C := RX3) (T := TX3) (N := 11) hx hb hT hiX3 hown hK hP 0 rfl rfl 5 (by decide) (hT _ kf_X3_79) (fun _ h9 => h9) rfl dX3_bears_1 ?_
  refine lv_aload_n hx hb dX3_bears_4 rfl (lv_at hl 0 rfl) ?_
  refine va_get (D := (dC, dI)) (ci := 3) (v := .int bs) (C := RX3) (T := TX3) (N := 11) hx hb hT hiX3 hown hK hP 0 rfl rfl 4 (by decide) (hT _ kf_X3_68) (fun _ h9 => h9) rfl dX3_bears_5 ?_
  refine lv_ior hx hb dX3_bears_8 ?_
  refine lv_iload_n hx hb dX3_bears_9 rfl (lv_at hl 1 rfl) ?_
  refine vp_callSi (rRS (As := [.int (ss ||| bs), .int (nI w)]) (rest := []) ⟨hx, hb, hml, hown, hT⟩ (c_X3_has (l := l) (ss ||| bs) w (by first | assumption | omega)) (cwTS 2 hT kc_X3_has km_X3_49 kt_X3_has kn_X3 rfl rfl md_X3_has ⟨Nat.le_of_ble_eq_true rfl, Nat.le_of_ble_eq_true rfl⟩) nilP hK  rfl hl.1 rfl (Nat.le_of_ble_eq_true rfl) dX3_bears_10 ⟨Nat.le_of_ble_eq_true rfl, Nat.le_of_ble_eq_true rfl⟩) (fun r_10 hw_10 => ?_)
  rcases hw_10 with ⟨rfl, hw_10⟩ | ⟨rfl, hw_10⟩
  · refine lv_if_eq (tgt := 18) hx hb dX3_bears_13 (by decide) (fun h => absurd h (by decide)) (fun c_13 => ?_)
    refine lv_iconst (v := 0) hx hb dX3_bears_16 (by decide) ?_
    exact retR_i hx hb hr hlocks (by simp only [x_bears, hw_10, ↓reduceIte, Bool.false_eq_true, i10]) dX3_bears_17
  · refine lv_if_eq (tgt := 18) hx hb dX3_bears_13 (by decide) (fun c_13 => ?_) (fun h => absurd h (by decide))
    refine lv_aload_n hx hb dX3_bears_18 rfl (lv_at hl 0 rfl) ?_
    refine va_get (D := (dC, dI)) (ci := 3) (v := .ref (q 3)) (C := RX3) (T := TX3) (N := 11) hx hb hT hiX3 hown hK hP 0 rfl rfl 7 (by decide) (hT _ kf_X3_18) (fun _ h9 => h9) rfl dX3_bears_19 ?_
    refine lv_iload_n hx hb dX3_bears_22 rfl (lv_at hl 1 rfl) ?_
    refine ald_i hx hb hK hP 3 0 rfl rfl (by decide) (w := w) rfl (by omega) dX3_bears_23 ?_
    refine lv_aload_n hx hb dX3_bears_24 rfl (lv_at hl 0 rfl) ?_
    refine va_get (D := (dC, dI)) (ci := 3) (v := .int bs) (C := RX3) (T := TX3) (N := 11) hx hb hT hiX3 hown hK hP 0 rfl rfl 4 (by decide) (hT _ kf_X3_68) (fun _ h9 => h9) rfl dX3_bears_25 ?_
    refine lv_iand hx hb dX3_bears_28 ?_
    refine lv_if_eq (tgt := 36) hx hb dX3_bears_29 (by decide) (fun c_29 => ?_) (fun c_29 => ?_)
    · refine lv_iconst (v := 0) hx hb dX3_bears_36 (by decide) ?_
      refine lv_istore_n (lv' := [(2, .int 0), (0, .ref (q 0)), (1, .int (nI w))]) hx hb dX3_bears_37 rfl hl (by decide) rfl (fun ls hl => ?_)
      refine lv_iload_n hx hb dX3_bears_38 rfl (lv_at hl 0 rfl) ?_
      refine lv_if_eq (tgt := 58) hx hb dX3_bears_39 (by decide) (fun c_39 => ?_) (fun h => absurd h (by decide))
      refine lv_aload_n hx hb dX3_bears_58 rfl (lv_at hl 1 rfl) ?_
      refine va_get (D := (dC, dI)) (ci := 3) (v := .ref (q 2)) (C := RX3) (T := TX3) (N := 11) hx hb hT hiX3 hown hK hP 0 rfl rfl 6 (by decide) (hT _ kf_X3_15) (fun _ h9 => h9) rfl dX3_bears_59 ?_
      refine lv_iload_n hx hb dX3_bears_62 rfl (lv_at hl 2 rfl) ?_
      refine ald_i hx hb hK hP 2 0 rfl rfl (by decide) (w := w) rfl (by omega) dX3_bears_63 ?_
      exact retR_i hx hb hr hlocks (by simp only [x_bears, hw_10, c_29, ↓reduceIte, Bool.false_eq_true, i10]) dX3_bears_64
    · refine lv_iconst (v := 1) hx hb dX3_bears_32 (by decide) ?_
      refine lv_goto (tgt := 37) hx hb dX3_bears_33 (by decide) ?_
      refine lv_istore_n (lv' := [(2, .int 1), (0, .ref (q 0)), (1, .int (nI w))]) hx hb dX3_bears_37 rfl hl (by decide) rfl (fun ls hl => ?_)
      refine lv_iload_n hx hb dX3_bears_38 rfl (lv_at hl 0 rfl) ?_
      refine lv_if_eq (tgt := 58) hx hb dX3_bears_39 (by decide) (fun h => absurd h (by decide)) (fun c_39 => ?_)
      refine lv_aload_n hx hb dX3_bears_42 rfl (lv_at hl 1 rfl) ?_
      refine va_get (D := (dC, dI)) (ci := 3) (v := .ref (q 3)) (C := RX3) (T := TX3) (N := 11) hx hb hT hiX3 hown hK hP 0 rfl rfl 7 (by decide) (hT _ kf_X3_18) (fun _ h9 => h9) rfl dX3_bears_43 ?_
      refine lv_iload_n hx hb dX3_bears_46 rfl (lv_at hl 2 rfl) ?_
      refine ald_i hx hb hK hP 3 0 rfl rfl (by decide) (w := w) rfl (by omega) dX3_bears_47 ?_
      refine lv_aload_n hx hb dX3_bears_48 rfl (lv_at hl 1 rfl) ?_
      refine va_get (D := (dC, dI)) (ci := 3) (v := .ref (q 2)) (C := RX3) (T := TX3) (N := 11) hx hb hT hiX3 hown hK hP 0 rfl rfl 6 (by decide) (hT _ kf_X3_15) (fun _ h9 => h9) rfl dX3_bears_49 ?_
      refine vp_callSi (rRS (As := [.int (un w), .ref (q 2)]) (rest := []) ⟨hx, hb, hml, hown, hT⟩ (c_X3_sumOver (l := l) (un w)) (cwTS 2 hT kc_X3_sumOver km_X3_82 kt_X3_sumOver kn_X3 rfl rfl md_X3_sumOver ⟨Nat.le_of_ble_eq_true rfl, Nat.le_of_ble_eq_true rfl⟩) (va_P.sub (ws' := aW cI (q 2) we) hP [2] rfl) hK  rfl hl.1 rfl (Nat.le_of_ble_eq_true rfl) dX3_bears_52 ⟨Nat.le_of_ble_eq_true rfl, Nat.le_of_ble_eq_true rfl⟩) (fun r_52 hw_52 => ?_)
      subst hw_52
      refine lv_goto (tgt := 64) hx hb dX3_bears_55 (by decide) ?_
      exact retR_i hx hb hr hlocks (by simp only [x_bears, hw_10, c_29, ↓reduceIte, Bool.false_eq_true, i10]) dX3_bears_64
set_option maxHeartbeats 4000000 in
set_option maxRecDepth 100000 in
theorem c_X3_allPaid  : Met l yX3_allPaid (wT yX3_allPaid cX3_allPaid 1 (some .int)) ({ frames := 2, cells := 0, slots := 0, locals := 44 }) (pR (dC, dI) (ty3 cI cJ cZ) (xW cI q ln cw ic bs ss se we un sf pa) [.ref (q 0)]) (vp_Si (fun r => r = x_sumN ic pa 6)) 0 0 (fun _ => False) := by
  refine Met.ofW (cc := cX3_allPaid) (maxL := 1) (ret := (some .int)) (by decide) rfl ?_
  intro p e s m args below meth c s₁ B hml hv
  obtain ⟨rfl, hP, hK⟩ := hv
  have hx := B.exec
  have hb := B.bytes
  have hr := B.returns
  have hts := atoms_spec (ws := wT yX3_allPaid cX3_allPaid 1 (some .int)) B.pre
  have hT := wT_T hts
  have hown : s.vm.findClass RX3 = some m.cls := findClass_of_methodNamed B.named
  have hlocks := B.notSynchronized
  have hl := lv_entry ([.ref (q 0)]) (n := 1) (Nat.le_of_ble_eq_true rfl)
  rw [lg_entry_eq]
  generalize (lg_sl ([.ref (q 0)]) ++ List.replicate (1 - (lg_sl ([.ref (q 0)])).length) Slot.unset).toArray = ls at hl ⊢
  have hl : lv_has ls 1 [(0, .ref (q 0))] := hl
  refine lv_aload_n hx hb dX3_allPaid_0 rfl (lv_at hl 0 rfl) ?_
  refine va_get (D := (dC, dI)) (ci := 3) (v := .int ic) (C := RX3) (T := TX3) (N := 11) hx hb hT hiX3 hown hK hP 0 rfl rfl 3 (by decide) (hT _ kf_X3_46) (fun _ h9 => h9) rfl dX3_allPaid_1 ?_
  refine lv_aload_n hx hb dX3_allPaid_4 rfl (lv_at hl 0 rfl) ?_
  refine va_get (D := (dC, dI)) (ci := 3) (v := .ref (q 5)) (C := RX3) (T := TX3) (N := 11) hx hb hT hiX3 hown hK hP 0 rfl rfl 9 (by decide) (hT _ kf_X3_24) (fun _ h9 => h9) rfl dX3_allPaid_5 ?_
  refine vp_callSi (rRS (As := [.int ic, .ref (q 5)]) (rest := []) ⟨hx, hb, hml, hown, hT⟩ (c_X3_sumOver (l := l) ic) (cwTS 2 hT kc_X3_sumOver km_X3_82 kt_X3_sumOver kn_X3 rfl rfl md_X3_sumOver ⟨Nat.le_of_ble_eq_true rfl, Nat.le_of_ble_eq_true rfl⟩) (va_P.sub (ws' := aW cI (q 5) pa) hP [5] rfl) hK  rfl hl.1 rfl (Nat.le_of_ble_eq_true rfl) dX3_allPaid_8 ⟨Nat.le_of_ble_eq_true rfl, Nat.le_of_ble_eq_true rfl⟩) (fun r_8 hw_8 => ?_)
  subst hw_8
  exact retR_i hx hb hr hlocks rfl dX3_allPaid_11
set_option maxHeartbeats 4000000 in
set_option maxRecDepth 100000 in
theorem c_X3_fairUp {o e1 e2 e3 e4 e5 e6 : Nat} {fd du dd : Int64} (w : Nat) (hw : w < 6) : Met l yX3_fairUp (wT yX3_fairUp cX3_fairUp 3 (some .long)) ({ frames := 3, cells := 0, slots := 0, locals := 66 }) (pR (dC, dI) (ty3 cI cJ cZ) ((xW cI q ln cw ic bs ss se we un sf pa) ++ (owW  o e1 e2 e3 e4 e5 e6 fd) ++ (shW  e5 du dd)) [.ref (q 0), .int (nI w), .ref o]) (vp_Sl (fun r => r = x_fairUp ic bs ss we un pa w du)) 0 0 (fun _ => False) := by
  refine Met.ofW (cc := cX3_fairUp) (maxL := 3) (ret := (some .long)) (by decide) rfl ?_
  intro p e s m args below meth c s₁ B hml hv
  obtain ⟨rfl, hP, hK⟩ := hv
  have hx := B.exec
  have hb := B.bytes
  have hr := B.returns
  have hts := atoms_spec (ws := wT yX3_fairUp cX3_fairUp 3 (some .long)) B.pre
  have hT := wT_T hts
  have hown : s.vm.findClass RX3 = some m.cls := findClass_of_methodNamed B.named
  have hlocks := B.notSynchronized
  have hl := lv_entry ([.ref (q 0), .int (nI w), .ref o]) (n := 3) (Nat.le_of_ble_eq_true rfl)
  rw [lg_entry_eq]
  generalize (lg_sl ([.ref (q 0), .int (nI w), .ref o]) ++ List.replicate (3 - (lg_sl ([.ref (q 0), .int (nI w), .ref o])).length) Slot.unset).toArray = ls at hl ⊢
  have hl : lv_has ls 3 [(0, .ref (q 0)), (1, .int (nI w)), (2, .ref o)] := hl
  refine lv_aload_n hx hb dX3_fairUp_0 rfl (lv_at hl 2 rfl) ?_
  refine va_get (D := (dC, dI)) (ci := 1) (v := .ref e5) (C := RX1) (T := TX1) (N := 7) hx hb hT hiX1 hown hK hP 6 rfl rfl 4 (by decide) (hT _ kf_X3_123) (fun _ h9 => h9) rfl dX3_fairUp_1 ?_
  refine va_get (D := (dC, dI)) (ci := 2) (v := .long du) (C := RX2) (T := TX2) (N := 2) hx hb hT hiX2 hown hK hP 7 rfl rfl 0 (by decide) (hT _ kf_X3_160) (fun _ h9 => h9) rfl dX3_fairUp_4 ?_
  refine lv_lconst (v := 0) hx hb dX3_fairUp_7 (by decide) ?_
  refine lc_ne (tgt := 16) hx hb dX3_fairUp_8 dX3_fairUp_9 (by decide) (fun c_8 => ?_) (fun c_8 => ?_)
  · refine lv_aload_n hx hb dX3_fairUp_16 rfl (lv_at hl 0 rfl) ?_
    refine vp_callSi (rRV (As := []) (rest := []) ⟨hx, hb, hml, hown, hT⟩ (c_X3_allPaid (l := l) ) (cwTV 0 hT kc_X3_allPaid km_X3_171 ki_X3_allPaid ks_X3_allPaid kn_X3 rfl rfl md_X3_allPaid ⟨Nat.le_of_ble_eq_true rfl, Nat.le_of_ble_eq_true rfl⟩) (va_P.sub (ws' := xW cI q ln cw ic bs ss se we un sf pa) hP [0, 1, 2, 3, 4, 5] rfl) hK (va_recv hK hP (ci := 3) (q0 := 0) rfl rfl) rfl hl.1 rfl (Nat.le_of_ble_eq_true rfl) dX3_fairUp_17 ⟨Nat.le_of_ble_eq_true rfl, Nat.le_of_ble_eq_true rfl⟩) (fun r_17 hw_17 => ?_)
    subst hw_17
    refine lv_i2l hx hb dX3_fairUp_20 rfl ?_
    refine lv_aload_n hx hb dX3_fairUp_21 rfl (lv_at hl 0 rfl) ?_
    refine lv_iload_n hx hb dX3_fairUp_22 rfl (lv_at hl 1 rfl) ?_
    refine vp_callSi (rRV (As := [.int (nI w)]) (rest := [.long ((x_sumN ic pa 6).toInt64)]) ⟨hx, hb, hml, hown, hT⟩ (c_X3_bears (l := l) w (by first | assumption | omega)) (cwTV 1 hT kc_X3_bears km_X3_149 ki_X3_bears ks_X3_bears kn_X3 rfl rfl md_X3_bears ⟨Nat.le_of_ble_eq_true rfl, Nat.le_of_ble_eq_true rfl⟩) (va_P.sub (ws' := xW cI q ln cw ic bs ss se we un sf pa) hP [0, 1, 2, 3, 4, 5] rfl) hK (va_recv hK hP (ci := 3) (q0 := 0) rfl rfl) rfl hl.1 rfl (Nat.le_of_ble_eq_true rfl) dX3_fairUp_23 ⟨Nat.le_of_ble_eq_true rfl, Nat.le_of_ble_eq_true rfl⟩) (fun r_23 hw_23 => ?_)
    subst hw_23
    refine lv_i2l hx hb dX3_fairUp_26 rfl ?_
    refine lv_lmul hx hb dX3_fairUp_27 ?_
    exact retR_l hx hb hr hlocks (by simp only [x_fairUp, c_8, ↓reduceIte, Bool.false_eq_true, i10]) dX3_fairUp_28
  · refine lv_lconst (v := 0) hx hb dX3_fairUp_12 (by decide) ?_
    refine lv_goto (tgt := 28) hx hb dX3_fairUp_13 (by decide) ?_
    exact retR_l hx hb hr hlocks (by simp only [x_fairUp, c_8, ↓reduceIte, Bool.false_eq_true, i10]) dX3_fairUp_28
set_option maxHeartbeats 4000000 in
set_option maxRecDepth 100000 in
theorem c_X3_overUp {o e1 e2 e3 e4 e5 e6 : Nat} {fd du dd : Int64} (w : Nat) (hw : w < 6) : Met l yX3_overUp (wT yX3_overUp cX3_overUp 3 (some .long)) ({ frames := 4, cells := 0, slots := 0, locals := 88 }) (pR (dC, dI) (ty3 cI cJ cZ) ((xW cI q ln cw ic bs ss se we un sf pa) ++ (owW  o e1 e2 e3 e4 e5 e6 fd) ++ (shW  e5 du dd)) [.ref (q 0), .int (nI w), .ref o]) (vp_Sl (fun r => r = x_overUp ic bs ss we un pa w du fd)) 0 0 (fun _ => False) := by
  refine Met.ofW (cc := cX3_overUp) (maxL := 3) (ret := (some .long)) (by decide) rfl ?_
  intro p e s m args below meth c s₁ B hml hv
  obtain ⟨rfl, hP, hK⟩ := hv
  have hx := B.exec
  have hb := B.bytes
  have hr := B.returns
  have hts := atoms_spec (ws := wT yX3_overUp cX3_overUp 3 (some .long)) B.pre
  have hT := wT_T hts
  have hown : s.vm.findClass RX3 = some m.cls := findClass_of_methodNamed B.named
  have hlocks := B.notSynchronized
  have hl := lv_entry ([.ref (q 0), .int (nI w), .ref o]) (n := 3) (Nat.le_of_ble_eq_true rfl)
  rw [lg_entry_eq]
  generalize (lg_sl ([.ref (q 0), .int (nI w), .ref o]) ++ List.replicate (3 - (lg_sl ([.ref (q 0), .int (nI w), .ref o])).length) Slot.unset).toArray = ls at hl ⊢
  have hl : lv_has ls 3 [(0, .ref (q 0)), (1, .int (nI w)), (2, .ref o)] := hl
  refine lv_aload_n hx hb dX3_overUp_0 rfl (lv_at hl 0 rfl) ?_
  refine va_get (D := (dC, dI)) (ci := 3) (v := .ref (q 5)) (C := RX3) (T := TX3) (N := 11) hx hb hT hiX3 hown hK hP 0 rfl rfl 9 (by decide) (hT _ kf_X3_24) (fun _ h9 => h9) rfl dX3_overUp_1 ?_
  refine lv_iload_n hx hb dX3_overUp_4 rfl (lv_at hl 1 rfl) ?_
  refine ald_i hx hb hK hP 5 0 rfl rfl (by decide) (w := w) rfl (by omega) dX3_overUp_5 ?_
  refine lv_i2l hx hb dX3_overUp_6 rfl ?_
  refine lv_aload_n hx hb dX3_overUp_7 rfl (lv_at hl 2 rfl) ?_
  refine va_get (D := (dC, dI)) (ci := 1) (v := .long fd) (C := RX1) (T := TX1) (N := 7) hx hb hT hiX1 hown hK hP 6 rfl rfl 6 (by decide) (hT _ kf_X3_178) (fun _ h9 => h9) rfl dX3_overUp_8 ?_
  refine lv_lmul hx hb dX3_overUp_11 ?_
  refine lv_aload_n hx hb dX3_overUp_12 rfl (lv_at hl 0 rfl) ?_
  refine lv_iload_n hx hb dX3_overUp_13 rfl (lv_at hl 1 rfl) ?_
  refine lv_aload_n hx hb dX3_overUp_14 rfl (lv_at hl 2 rfl) ?_
  refine vp_callSl (rRV (As := [.int (nI w), .ref o]) (rest := [.long ((pa w).toInt64 * fd)]) ⟨hx, hb, hml, hown, hT⟩ (c_X3_fairUp (l := l) w (by first | assumption | omega)) (cwTV 2 hT kc_X3_fairUp km_X3_174 ki_X3_fairUp ks_X3_fairUp kn_X3 rfl rfl md_X3_fairUp ⟨Nat.le_of_ble_eq_true rfl, Nat.le_of_ble_eq_true rfl⟩) hP hK (va_recv hK hP (ci := 3) (q0 := 0) rfl rfl) rfl hl.1 rfl (Nat.le_of_ble_eq_true rfl) dX3_overUp_15 ⟨Nat.le_of_ble_eq_true rfl, Nat.le_of_ble_eq_true rfl⟩) (fun r_15 hw_15 => ?_)
  subst hw_15
  refine lv_lsub hx hb dX3_overUp_18 ?_
  exact retR_l hx hb hr hlocks rfl dX3_overUp_19
end
section
variable {l : Launch} {dC : Nat → ClassId} {dI : Nat → Nat → Nat} {cI cJ cZ : ClassId}
variable {q : Nat → Nat} {ln cw ic bs ss : Int32} {se we un sf pa : Nat → Int32}
variable {ct : Int32} {ov gf : Nat → Int64} {gi ta : Nat → Int32}
variable {k : Nat → Nat} {up lo : Int64} {cn tm : Int32} {isI br ma : Nat → Int32} {aU aL uU uL oU oL gU gL : Nat → Int64}

abbrev iQ (z : Int) : Rat := (z : Rat)
abbrev shQ (a : Nat) (r : Rat) : va_W := [(a, .inr (2, [.long (iL r.num), .long (iL (r.den : Int))]))]
theorem of_zero (a : Int) {b : Int} (h0 : 0 ≤ b) (h : iL b ≤ iL 0) (hb : b < 2 ^ 48) : b = 0 := by
  have := (iL_le (by unfold rng; omega) rng_0).mp h
  omega
theorem of_pos {b : Int} (h0 : 0 ≤ b) (h : ¬ iL b ≤ iL 0) (hb : b < 2 ^ 48) : 0 < b := by
  have := mt (iL_le (by unfold rng; omega) rng_0).mpr h
  omega
theorem rng_of {a : Int} (h1 : 0 ≤ a) (h2 : a < 2 ^ 48) : rng a := by unfold rng; omega
theorem rng_nat {a : Nat} (h2 : a < 2 ^ 62) : rng a := by unfold rng; omega
theorem nat_tdiv (a b : Nat) : Int.tdiv (a : Int) (b : Int) = ((a / b : Nat) : Int) := by rw [Int.tdiv_eq_ediv_of_nonneg (Int.natCast_nonneg a)]; exact (Int.natCast_ediv a b).symm
theorem t_mul (r : Rat) (f : Int) : Rat.divInt (r.num * f) (r.den : Int) = r * (f : Rat) := by
  have h := rat_nd r
  have h2 := ic_ne r.den_pos
  rw [rq_eq, Rat.intCast_mul]
  generalize ((r.den : Int) : Rat) = d at h h2 ⊢
  generalize ((r.num : Int) : Rat) = n at h ⊢
  rw [h]; grind
theorem t_add (r : Rat) (f : Int) : Rat.divInt (r.num + f * (r.den : Int)) (r.den : Int) = r + (f : Rat) := by
  have h := rat_nd r
  have h2 := ic_ne r.den_pos
  rw [rq_eq, Rat.intCast_add, Rat.intCast_mul]
  generalize ((r.den : Int) : Rat) = d at h h2 ⊢
  generalize ((r.num : Int) : Rat) = n at h ⊢
  rw [h]; grind
theorem t_sub (r t : Rat) : Rat.divInt (r.num * ((t.den / Nat.gcd r.den t.den : Nat) : Int) - t.num * ((r.den / Nat.gcd r.den t.den : Nat) : Int)) ((r.den : Int) * ((t.den / Nat.gcd r.den t.den : Nat) : Int)) = r - t := by
  have h := comb_eq r.num (-t.num) r.den t.den r.den_pos t.den_pos
  have e1 := rat_nd r
  have e2 := rat_nd t
  rw [Int.natCast_mul, Int.neg_mul, ← Int.sub_eq_add_neg] at h
  rw [h, Rat.intCast_neg]
  grind
set_option maxHeartbeats 4000000 in
set_option maxRecDepth 100000 in
theorem c_X2_init (sz : Nat) {a : Nat} {u0 d0 : Int64} (u1 d1 : Int64) : Met l yX2_init (wT yX2_init cX2_init 5 none) ({ frames := 1, cells := 0, slots := 0, locals := 12 }) (pM (dC, dI) (ty3 cI cJ cZ) (shW  a u0 d0) [.ref a, .long u1, .long d1] sz) (va_Qv (S := Unit) (fun _ => True) (fun u t9 => bM (dC, dI) (ty3 cI cJ cZ) (va_A (shW  a u0 d0) sz) (shW a u1 d1) t9) (va_A (shW  a u0 d0) sz)) 0 0 (va_A (shW  a u0 d0) sz) := by
  refine Met.ofW (cc := cX2_init) (maxL := 5) (ret := none) (by decide) rfl ?_
  intro p e s m args below meth c s₁ B hml hv
  obtain ⟨rfl, hsz, hP, hK, hD0⟩ := hv
  have hx := B.exec
  have hb := B.bytes
  have hr := B.returns
  have hts := atoms_spec (ws := wT yX2_init cX2_init 5 none) B.pre
  have hT := wT_T hts
  have hown : s.vm.findClass RX2 = some m.cls := findClass_of_methodNamed B.named
  have hlocks := B.notSynchronized
  have hin : meth.name = "<init>" := (name_of_methodNamed B.named B.method).1
  subst hsz
  have hD := hD0.self (sz := s.heap.size)
  generalize hAe : va_A (shW  a u0 d0) s.heap.size = A at hD ⊢
  have hA : ∀ q : Nat, s.heap.size ≤ q → A q := fun q h => by rw [← hAe]; exact Or.inr h
  have hS : va_S A s.heap s.heap [] := va_S.rf
  have hl := lv_entry ([.ref a, .long u1, .long d1]) (n := 5) (Nat.le_of_ble_eq_true rfl)
  rw [lg_entry_eq]
  generalize (lg_sl ([.ref a, .long u1, .long d1]) ++ List.replicate (5 - (lg_sl ([.ref a, .long u1, .long d1])).length) Slot.unset).toArray = ls at hl ⊢
  have hl : lv_has ls 5 [(0, .ref a), (1, .long u1), (3, .long d1)] := hl
  refine lv_aload_n hx hb dX2_init_0 rfl (lv_at hl 0 rfl) ?_
  refine W.objInit hx hb hown (hT _ km_X2_1) (hT _ ki_obj) (hT _ kc_obj) rfl (by rw [hml]; exact hl.1) rfl dX2_init_1 (Nat.le_of_ble_eq_true rfl) (Nat.le_of_ble_eq_true rfl) ?_
  refine W.eq (g2 := F0 m 4 ls []) rfl ?_
  refine lv_aload_n hx hb dX2_init_4 rfl (lv_at hl 0 rfl) ?_
  refine lv_lload_n hx hb dX2_init_5 rfl (lv_at hl 1 rfl) ?_
  refine va_putF (D := (dC, dI)) (ci := 2) (v := .long u1) (ty := .long) (C := RX2) (T := TX2) (N := 2) hx hb hT hiX2 tyX2 tyX2_ok nmX2 hown hK hP hD hS 0 rfl rfl 0 (by decide) (hT _ kf_X2_7) (fun _ h9 => h9) rfl hin rfl (by decide +kernel) rfl rfl (Nat.le_of_ble_eq_true rfl) dX2_init_6 (fun H locs hP hD hS => ?_)
  have hP : va_P (dC, dI) vwCl (shW  a u1 d0) H := hP
  have hD : va_D A (shW  a u1 d0) := hD
  refine lv_aload_n hx hb dX2_init_9 rfl (lv_at hl 0 rfl) ?_
  refine lv_lload_n hx hb dX2_init_10 rfl (lv_at hl 2 rfl) ?_
  refine va_putF (D := (dC, dI)) (ci := 2) (v := .long d1) (ty := .long) (C := RX2) (T := TX2) (N := 2) hx hb hT hiX2 tyX2 tyX2_ok nmX2 hown hK hP hD hS 0 rfl rfl 1 (by decide) (hT _ kf_X2_13) (fun _ h9 => h9) rfl hin rfl (by decide +kernel) rfl rfl (Nat.le_of_ble_eq_true rfl) dX2_init_11 (fun H locs hP hD hS => ?_)
  have hP : va_P (dC, dI) vwCl (shW  a u1 d1) H := hP
  have hD : va_D A (shW  a u1 d1) := hD
  exact retM_v (w2 := fun u => shW a u1 d1) () hx hb hr hlocks trivial hP hK hD hS dX2_init_14
set_option maxHeartbeats 4000000 in
set_option maxRecDepth 100000 in
theorem c_X2_commonDivisor (a b : Nat) (ha : a < 2 ^ 62) (h0 : 0 < b) (hbb : b < 2 ^ 48) : Met l yX2_commonDivisor (wT yX2_commonDivisor cX2_commonDivisor 11 (some .long)) ({ frames := 0, cells := 0, slots := 0, locals := 0 }) (pR (dC, dI) (ty3 cI cJ cZ) ([] : va_W) [.long (iL (a : Int)), .long (iL (b : Int))]) (vp_Sl (fun r9 => r9 = iL ((Nat.gcd a b : Nat) : Int))) 0 0 (fun _ => False) := by
  refine Met.ofW (cc := cX2_commonDivisor) (maxL := 11) (ret := (some .long)) (by decide) rfl ?_
  intro p e s m args below meth c s₁ B hml hv
  obtain ⟨rfl, hP, hK⟩ := hv
  have hx := B.exec
  have hb := B.bytes
  have hr := B.returns
  have hts := atoms_spec (ws := wT yX2_commonDivisor cX2_commonDivisor 11 (some .long)) B.pre
  have hT := wT_T hts
  have hown : s.vm.findClass RX2 = some m.cls := findClass_of_methodNamed B.named
  have hlocks := B.notSynchronized
  have hl := lv_entry ([.long (iL (a : Int)), .long (iL (b : Int))]) (n := 11) (Nat.le_of_ble_eq_true rfl)
  rw [lg_entry_eq]
  generalize (lg_sl ([.long (iL (a : Int)), .long (iL (b : Int))]) ++ List.replicate (11 - (lg_sl ([.long (iL (a : Int)), .long (iL (b : Int))])).length) Slot.unset).toArray = ls at hl ⊢
  have hl : lv_has ls 11 [(0, .long (iL (a : Int))), (2, .long (iL (b : Int)))] := hl
  refine lv_lload_n hx hb dX2_commonDivisor_0 rfl (lv_at hl 0 rfl) ?_
  refine lv_lstore (lv' := [(4, .long (iL (a : Int))), (0, .long (iL (a : Int))), (2, .long (iL (b : Int)))]) hx hb dX2_commonDivisor_1 hl (by decide) rfl (fun ls hl => ?_)
  refine lv_lload_n hx hb dX2_commonDivisor_3 rfl (lv_at hl 2 rfl) ?_
  refine lv_lstore (lv' := [(6, .long (iL (b : Int))), (4, .long (iL (a : Int))), (0, .long (iL (a : Int))), (2, .long (iL (b : Int)))]) hx hb dX2_commonDivisor_4 hl (by decide) rfl (fun ls hl => ?_)
  refine lv_iconst (v := 0) hx hb dX2_commonDivisor_6 (by decide) ?_
  refine lv_istore (lv' := [(8, .int 0), (6, .long (iL (b : Int))), (4, .long (iL (a : Int))), (0, .long (iL (a : Int))), (2, .long (iL (b : Int)))]) hx hb dX2_commonDivisor_7 hl (by decide) rfl (fun ls hl => ?_)
  refine loopR 100 (fun i ls => ∃ x y : Nat, lv_has ls 11 [(8, .int (nI i)), (6, .long (iL ((y : Nat) : Int))), (4, .long (iL ((x : Nat) : Int))), (0, .long (iL (a : Int))), (2, .long (iL (b : Int)))] ∧ (eu_I a b i x y)) (i0 := 0) (Nat.zero_le _) ⟨a, b, (lv_sub hl [0, 1, 2, 3, 4] rfl), eu_0 a b⟩ (fun i ls hi hl ih => ?_) (fun ls hl => ?_)
  · obtain ⟨x, y, hl, hf⟩ := hl
    have hmx : max a b < 2 ^ 62 := by omega
    have hxr : rng x := rng_nat (by have := hf.2.1; omega)
    have hyr : rng y := rng_nat (by have := hf.2.2.1; omega)
    refine lv_iload hx hb dX2_commonDivisor_9 (lv_at hl 0 rfl) ?_
    refine lv_bipush (v := 100) hx hb dX2_commonDivisor_11 (by decide) ?_
    refine lv_icmp_ge (tgt := 44) hx hb dX2_commonDivisor_13 (by decide) (fun h => absurd h (nI_ge (b := 100) hi (by decide))) (fun c_13 => ?_)
    refine lv_lload hx hb dX2_commonDivisor_16 (lv_at hl 1 rfl) ?_
    refine lv_lconst (v := iL 0) hx hb dX2_commonDivisor_18 rfl ?_
    refine lc_eq (tgt := 44) hx hb dX2_commonDivisor_19 dX2_commonDivisor_20 (by decide) (fun c_19 => ?_) (fun c_19 => ?_)
    · have hy : y = 0 := by have := (iL_eq hyr rng_0).mp c_19; omega
      subst hy
      have hg : x = Nat.gcd a b := eu_out hf
      refine lv_lload hx hb dX2_commonDivisor_44 (lv_at hl 2 rfl) ?_
      refine lv_lconst (v := iL 0) hx hb dX2_commonDivisor_46 rfl ?_
      refine lc_le (tgt := 56) hx hb dX2_commonDivisor_47 dX2_commonDivisor_48 (by decide) (fun h => absurd ((iL_le hxr rng_0).mp h) (by have := Nat.gcd_pos_of_pos_right a h0; omega)) (fun c_47 => ?_)
      refine lv_lload hx hb dX2_commonDivisor_51 (lv_at hl 2 rfl) ?_
      refine lv_goto (tgt := 57) hx hb dX2_commonDivisor_53 (by decide) ?_
      exact retR_l hx hb hr hlocks (by rw [hg]) dX2_commonDivisor_57
    · have hy0 : y ≠ 0 := fun h => c_19 (by rw [h]; rfl)
      refine lv_lload hx hb dX2_commonDivisor_23 (lv_at hl 2 rfl) ?_
      refine lv_lload hx hb dX2_commonDivisor_25 (lv_at hl 1 rfl) ?_
      refine li_rem hx hb (a := x) (b := y) hxr hyr hy0 dX2_commonDivisor_27 ?_
      refine lv_lstore (lv' := [(9, .long (iL ((x % y : Nat) : Int))), (8, .int (nI i)), (6, .long (iL ((y : Nat) : Int))), (4, .long (iL ((x : Nat) : Int))), (0, .long (iL (a : Int))), (2, .long (iL (b : Int)))]) hx hb dX2_commonDivisor_28 hl (by decide) rfl (fun ls hl => ?_)
      refine lv_lload hx hb dX2_commonDivisor_30 (lv_at hl 2 rfl) ?_
      refine lv_lstore (lv' := [(4, .long (iL ((y : Nat) : Int))), (9, .long (iL ((x % y : Nat) : Int))), (8, .int (nI i)), (6, .long (iL ((y : Nat) : Int))), (0, .long (iL (a : Int))), (2, .long (iL (b : Int)))]) hx hb dX2_commonDivisor_32 hl (by decide) rfl (fun ls hl => ?_)
      refine lv_lload hx hb dX2_commonDivisor_34 (lv_at hl 1 rfl) ?_
      refine lv_lstore (lv' := [(6, .long (iL ((x % y : Nat) : Int))), (4, .long (iL ((y : Nat) : Int))), (9, .long (iL ((x % y : Nat) : Int))), (8, .int (nI i)), (0, .long (iL (a : Int))), (2, .long (iL (b : Int)))]) hx hb dX2_commonDivisor_36 hl (by decide) rfl (fun ls hl => ?_)
      refine lv_iinc (v := (nI (i + 1))) (lv' := [(8, .int (nI (i + 1))), (6, .long (iL ((x % y : Nat) : Int))), (4, .long (iL ((y : Nat) : Int))), (9, .long (iL ((x % y : Nat) : Int))), (0, .long (iL (a : Int))), (2, .long (iL (b : Int)))]) hx hb dX2_commonDivisor_38 hl (k := 3) rfl (nI_1 i) (by decide) rfl (fun ls hl => ?_)
      refine lv_goto (tgt := 9) hx hb dX2_commonDivisor_41 (by decide) ?_
      exact ih _ ⟨y, (x % y), by exact lv_sub hl [0, 1, 2, 4, 5] rfl, eu_s hbb hf hy0⟩
  · obtain ⟨x, y, hl, hf⟩ := hl
    have hmx : max a b < 2 ^ 62 := by omega
    have hxr : rng x := rng_nat (by have := hf.2.1; omega)
    have hy : y = 0 := eu_end hf
    subst hy
    have hg : x = Nat.gcd a b := eu_out hf
    refine lv_iload hx hb dX2_commonDivisor_9 (lv_at hl 0 rfl) ?_
    refine lv_bipush (v := 100) hx hb dX2_commonDivisor_11 (by decide) ?_
    refine lv_icmp_ge (tgt := 44) hx hb dX2_commonDivisor_13 (by decide) (fun c_13 => ?_) (fun h => absurd h (by decide))
    refine lv_lload hx hb dX2_commonDivisor_44 (lv_at hl 2 rfl) ?_
    refine lv_lconst (v := iL 0) hx hb dX2_commonDivisor_46 rfl ?_
    refine lc_le (tgt := 56) hx hb dX2_commonDivisor_47 dX2_commonDivisor_48 (by decide) (fun h => absurd ((iL_le hxr rng_0).mp h) (by have := Nat.gcd_pos_of_pos_right a h0; omega)) (fun c_47 => ?_)
    refine lv_lload hx hb dX2_commonDivisor_51 (lv_at hl 2 rfl) ?_
    refine lv_goto (tgt := 57) hx hb dX2_commonDivisor_53 (by decide) ?_
    exact retR_l hx hb hr hlocks (by rw [hg]) dX2_commonDivisor_57
set_option maxHeartbeats 4000000 in
set_option maxRecDepth 100000 in
theorem c_X2_of (sz : Nat) (a b : Int) (ha : rng a) (h0 : 0 ≤ b) (hbb : b < 2 ^ 48) : Met l yX2_of (wT yX2_of cX2_of 6 (some (.object "SharedFault$Share"))) ({ frames := 2, cells := 1, slots := 2, locals := 36 }) (pN (dC, dI) (ty3 cI cJ cZ) ([] : va_W) [.long (iL a), .long (iL b)] sz) (va_Qr (S := Unit) (fun _ => True) (fun u b9 t9 => bM (dC, dI) (ty3 cI cJ cZ) (fun q : Nat => sz ≤ q) (shQ b9 (Rat.divInt a b)) t9) (fun q : Nat => sz ≤ q)) 1 2 (fun q : Nat => sz ≤ q) := by
  refine Met.ofW (cc := cX2_of) (maxL := 6) (ret := (some (.object "SharedFault$Share"))) (by decide) rfl ?_
  intro p e s m args below meth c s₁ B hml hv
  obtain ⟨rfl, hsz, hP0, hK⟩ := hv
  have hx := B.exec
  have hb := B.bytes
  have hr := B.returns
  have hts := atoms_spec (ws := wT yX2_of cX2_of 6 (some (.object "SharedFault$Share"))) B.pre
  have hT := wT_T hts
  have hown : s.vm.findClass RX2 = some m.cls := findClass_of_methodNamed B.named
  have hlocks := B.notSynchronized
  subst hsz
  have hA : ∀ q : Nat, s.heap.size ≤ q → (fun q : Nat => s.heap.size ≤ q) q := fun q h => h
  have hS : va_S (fun q : Nat => s.heap.size ≤ q) s.heap s.heap [] := va_S.rf
  have hP : va_P (dC, dI) vwCl [] s.heap := nilP
  have hD : va_D (fun q : Nat => s.heap.size ≤ q) [] := nilD
  have hl := lv_entry ([.long (iL a), .long (iL b)]) (n := 6) (Nat.le_of_ble_eq_true rfl)
  rw [lg_entry_eq]
  generalize (lg_sl ([.long (iL a), .long (iL b)]) ++ List.replicate (6 - (lg_sl ([.long (iL a), .long (iL b)])).length) Slot.unset).toArray = ls at hl ⊢
  have hl : lv_has ls 6 [(0, .long (iL a)), (2, .long (iL b))] := hl
  refine lv_lload_n hx hb dX2_of_0 rfl (lv_at hl 1 rfl) ?_
  refine lv_lconst (v := iL 0) hx hb dX2_of_1 rfl ?_
  refine lc_gt (tgt := 16) hx hb dX2_of_2 dX2_of_3 (by decide) (fun c_2 => ?_) (fun c_2 => ?_)
  · have hb0 : 0 < b := (iL_lt rng_0 (rng_of h0 hbb)).mp c_2
    refine lv_lload_n hx hb dX2_of_16 rfl (lv_at hl 0 rfl) ?_
    refine va_mabs_long hx hb (by rw [hml]; exact hl.1.symm) hown (hT _ km_X2_19) (hT _ kt_absl) (hT _ kn_J9) (hT _ kc_absl) (Nat.le_of_ble_eq_true rfl) (Nat.le_of_ble_eq_true rfl) (Nat.le_of_ble_eq_true rfl) (Nat.le_of_ble_eq_true rfl) dX2_of_17 ?_
    refine topl_eq (y := (iL (a.natAbs : Int))) (iL_abs ha) ?_
    refine lv_lload_n hx hb dX2_of_20 rfl (lv_at hl 1 rfl) ?_
    refine topl_eq (y := (iL (b.natAbs : Int))) (by congr 1; omega) ?_
    refine vp_callSl (rRS (As := [.long (iL (a.natAbs : Int)), .long (iL (b.natAbs : Int))]) (rest := []) ⟨hx, hb, hml, hown, hT⟩ (c_X2_commonDivisor (l := l) a.natAbs b.natAbs (by unfold rng at ha; omega) (by omega) (by omega)) (cwTS 2 hT kc_X2_commonDivisor km_X2_25 kt_X2_commonDivisor kn_X2 rfl rfl md_X2_commonDivisor ⟨Nat.le_of_ble_eq_true rfl, Nat.le_of_ble_eq_true rfl⟩) nilP hK  rfl hl.1 rfl (Nat.le_of_ble_eq_true rfl) dX2_of_21 ⟨Nat.le_of_ble_eq_true rfl, Nat.le_of_ble_eq_true rfl⟩) (fun r_21 hw_21 => ?_)
    have hg1 := gcd_pos_r (a := a.natAbs) hb0
    have hg2 := gcd_le_r (a := a.natAbs) hb0
    have hgr : rng ((Nat.gcd a.natAbs b.natAbs : Nat) : Int) := rng_of (by omega) (by omega)
    have hg0 : ((Nat.gcd a.natAbs b.natAbs : Nat) : Int) ≠ 0 := by omega
    subst hw_21
    refine lv_lstore (lv' := [(4, .long (iL ((Nat.gcd a.natAbs b.natAbs : Nat) : Int))), (0, .long (iL a)), (2, .long (iL b))]) hx hb dX2_of_24 hl (by decide) rfl (fun ls hl => ?_)
    refine va_new (ci := 2) (fs := [.long 0, .long 0]) (C := RX2) (T := TX2) (N := 2) hx hb hT hiX2 tyX2 tyX2_ok hown (hT _ kcl_X2_8) (hT _ kin_X2) (hT _ kn_X2) hK hP hD hS hA rfl (fun j hj => by rcases (show j = 0 ∨ j = 1 by omega) with rfl | rfl <;> rfl) (Nat.le_of_ble_eq_true rfl) (Nat.le_of_ble_eq_true rfl) dX2_of_26 (fun q26 H hP hD hS => ?_)
    have hP : va_P (dC, dI) vwCl (shW  q26 0 0) H := hP
    have hD : va_D (fun q : Nat => s.heap.size ≤ q) (shW  q26 0 0) := hD
    refine lv_dup hx hb dX2_of_29 rfl ?_
    refine lv_lload_n hx hb dX2_of_30 rfl (lv_at hl 1 rfl) ?_
    refine lv_lload hx hb dX2_of_31 (lv_at hl 0 rfl) ?_
    refine li_div hx hb (a := a) (b := ((Nat.gcd a.natAbs b.natAbs : Nat) : Int)) ha hgr hg0 dX2_of_33 ?_
    refine topl_eq (y := (iL (Rat.divInt a b).num)) (by rw [rq_num a b hb0]) ?_
    refine lv_lload_n hx hb dX2_of_34 rfl (lv_at hl 2 rfl) ?_
    refine lv_lload hx hb dX2_of_35 (lv_at hl 0 rfl) ?_
    refine li_div hx hb (a := b) (b := ((Nat.gcd a.natAbs b.natAbs : Nat) : Int)) (rng_of h0 hbb) hgr hg0 dX2_of_37 ?_
    refine topl_eq (y := (iL ((Rat.divInt a b).den : Int))) (by rw [rq_den a b hb0]) ?_
    refine fM_v (wc := shW  q26 0 0) (wr := []) (rMI (wc := shW  q26 0 0) (As := [.long (iL (Rat.divInt a b).num), .long (iL ((Rat.divInt a b).den : Int))]) (rest := [.ref q26]) ⟨hx, hb, hml, hown, hT⟩ (c_X2_init (l := l) H.size (iL (Rat.divInt a b).num) (iL ((Rat.divInt a b).den : Int))) (cwTI 2 hT kc_X2_init km_X2_16 ki_X2_init kn_X2 rfl rfl rfl md_X2_init ⟨Nat.le_of_ble_eq_true rfl, Nat.le_of_ble_eq_true rfl⟩) hP hD hK  rfl hl.1 rfl (Nat.le_of_ble_eq_true rfl) dX2_of_38 ⟨Nat.le_of_ble_eq_true rfl, Nat.le_of_ble_eq_true rfl⟩) hP hD hS hA (fun u_38 H locs hw_38 hP hD hS => ?_)
    have hP : va_P (dC, dI) vwCl (shW  q26 (iL (Rat.divInt a b).num) (iL ((Rat.divInt a b).den : Int))) H := hP
    have hD : va_D (fun q : Nat => s.heap.size ≤ q) (shW  q26 (iL (Rat.divInt a b).num) (iL ((Rat.divInt a b).den : Int))) := hD
    exact retM_r (w2 := fun u b9 => shQ b9 (Rat.divInt a b)) () hx hb hr hlocks trivial hP hK hD hS dX2_of_41
  · have hbz : b = 0 := by have := mt (iL_lt rng_0 (rng_of h0 hbb)).mpr c_2; omega
    refine va_new (ci := 2) (fs := [.long 0, .long 0]) (C := RX2) (T := TX2) (N := 2) hx hb hT hiX2 tyX2 tyX2_ok hown (hT _ kcl_X2_8) (hT _ kin_X2) (hT _ kn_X2) hK hP hD hS hA rfl (fun j hj => by rcases (show j = 0 ∨ j = 1 by omega) with rfl | rfl <;> rfl) (Nat.le_of_ble_eq_true rfl) (Nat.le_of_ble_eq_true rfl) dX2_of_6 (fun q6 H hP hD hS => ?_)
    have hP : va_P (dC, dI) vwCl (shW  q6 0 0) H := hP
    have hD : va_D (fun q : Nat => s.heap.size ≤ q) (shW  q6 0 0) := hD
    refine lv_dup hx hb dX2_of_9 rfl ?_
    refine lv_lconst (v := iL 0) hx hb dX2_of_10 rfl ?_
    refine lv_lconst (v := iL 1) hx hb dX2_of_11 rfl ?_
    refine fM_v (wc := shW  q6 0 0) (wr := []) (rMI (wc := shW  q6 0 0) (As := [.long (iL 0), .long (iL 1)]) (rest := [.ref q6]) ⟨hx, hb, hml, hown, hT⟩ (c_X2_init (l := l) H.size (iL 0) (iL 1)) (cwTI 2 hT kc_X2_init km_X2_16 ki_X2_init kn_X2 rfl rfl rfl md_X2_init ⟨Nat.le_of_ble_eq_true rfl, Nat.le_of_ble_eq_true rfl⟩) hP hD hK  rfl hl.1 rfl (Nat.le_of_ble_eq_true rfl) dX2_of_12 ⟨Nat.le_of_ble_eq_true rfl, Nat.le_of_ble_eq_true rfl⟩) hP hD hS hA (fun u_12 H locs hw_12 hP hD hS => ?_)
    have hP : va_P (dC, dI) vwCl (shW  q6 (iL 0) (iL 1)) H := hP
    have hD : va_D (fun q : Nat => s.heap.size ≤ q) (shW  q6 (iL 0) (iL 1)) := hD
    exact retM_r (w2 := fun u b9 => shQ b9 (Rat.divInt a b)) () hx hb hr hlocks trivial (by show va_P (dC, dI) vwCl (shQ q6 (Rat.divInt a b)) H; rw [hbz, Rat.divInt_zero]; exact hP) hK (by show va_D _ (shQ q6 (Rat.divInt a b)); rw [hbz, Rat.divInt_zero]; exact hD) hS dX2_of_15
set_option maxHeartbeats 4000000 in
set_option maxRecDepth 100000 in
theorem c_X2_times (sz : Nat) {a : Nat} {r : Rat} (f : Int) (hn : rng (r.num * f)) (hd : (r.den : Int) < 2 ^ 48) : Met l yX2_times (wT yX2_times cX2_times 3 (some (.object "SharedFault$Share"))) ({ frames := 3, cells := 1, slots := 2, locals := 61 }) (pN (dC, dI) (ty3 cI cJ cZ) (shQ  a r) [.ref a, .long (iL f)] sz) (va_Qr (S := Unit) (fun _ => True) (fun u b9 t9 => bM (dC, dI) (ty3 cI cJ cZ) (fun q : Nat => sz ≤ q) (shQ b9 (r * (iQ f))) t9) (fun q : Nat => sz ≤ q)) 1 2 (fun q : Nat => sz ≤ q) := by
  refine Met.ofW (cc := cX2_times) (maxL := 3) (ret := (some (.object "SharedFault$Share"))) (by decide) rfl ?_
  intro p e s m args below meth c s₁ B hml hv
  obtain ⟨rfl, hsz, hP0, hK⟩ := hv
  have hx := B.exec
  have hb := B.bytes
  have hr := B.returns
  have hts := atoms_spec (ws := wT yX2_times cX2_times 3 (some (.object "SharedFault$Share"))) B.pre
  have hT := wT_T hts
  have hown : s.vm.findClass RX2 = some m.cls := findClass_of_methodNamed B.named
  have hlocks := B.notSynchronized
  subst hsz
  have hA : ∀ q : Nat, s.heap.size ≤ q → (fun q : Nat => s.heap.size ≤ q) q := fun q h => h
  have hS : va_S (fun q : Nat => s.heap.size ≤ q) s.heap s.heap [] := va_S.rf
  have hP : va_P (dC, dI) vwCl [] s.heap := nilP
  have hD : va_D (fun q : Nat => s.heap.size ≤ q) [] := nilD
  have hl := lv_entry ([.ref a, .long (iL f)]) (n := 3) (Nat.le_of_ble_eq_true rfl)
  rw [lg_entry_eq]
  generalize (lg_sl ([.ref a, .long (iL f)]) ++ List.replicate (3 - (lg_sl ([.ref a, .long (iL f)])).length) Slot.unset).toArray = ls at hl ⊢
  have hl : lv_has ls 3 [(0, .ref a), (1, .long (iL f))] := hl
  refine lv_aload_n hx hb dX2_times_0 rfl (lv_at hl 0 rfl) ?_
  refine va_get (D := (dC, dI)) (ci := 2) (v := .long (iL (r).num)) (C := RX2) (T := TX2) (N := 2) hx hb hT hiX2 hown hK (keepP hP0 hS) 0 rfl rfl 0 (by decide) (hT _ kf_X2_7) (fun _ h9 => h9) rfl dX2_times_1 ?_
  refine lv_lload_n hx hb dX2_times_4 rfl (lv_at hl 1 rfl) ?_
  refine li_mul hx hb (a := ((r).num)) (b := f) dX2_times_5 ?_
  refine lv_aload_n hx hb dX2_times_6 rfl (lv_at hl 0 rfl) ?_
  refine va_get (D := (dC, dI)) (ci := 2) (v := .long (iL ((r).den : Int))) (C := RX2) (T := TX2) (N := 2) hx hb hT hiX2 hown hK (keepP hP0 hS) 0 rfl rfl 1 (by decide) (hT _ kf_X2_13) (fun _ h9 => h9) rfl dX2_times_7 ?_
  refine fN_r (rNS (As := [.long (iL (((r).num) * f)), .long (iL ((r).den : Int))]) (rest := []) ⟨hx, hb, hml, hown, hT⟩ (c_X2_of (l := l) s.heap.size (((r).num) * f) ((r).den : Int) hn (by omega) hd) (cwTS 2 hT kc_X2_of km_X2_29 kt_X2_of kn_X2 rfl rfl md_X2_of ⟨Nat.le_of_ble_eq_true rfl, Nat.le_of_ble_eq_true rfl⟩) nilP hK  rfl hl.1 rfl (Nat.le_of_ble_eq_true rfl) dX2_times_10 ⟨Nat.le_of_ble_eq_true rfl, Nat.le_of_ble_eq_true rfl⟩) hP hD hS hA (fun u_10 b_10 H locs hw_10 hP hD hS => ?_)
  have hP : va_P (dC, dI) vwCl (shQ  b_10 (Rat.divInt (((r).num) * f) ((r).den : Int))) H := hP
  have hD : va_D (fun q : Nat => s.heap.size ≤ q) (shQ  b_10 (Rat.divInt (((r).num) * f) ((r).den : Int))) := hD
  rw [show (Rat.divInt (((r).num) * f) ((r).den : Int)) = (r * (iQ f)) from t_mul r f] at hP hD
  have hP : va_P (dC, dI) vwCl (shQ  b_10 (r * (iQ f))) H := hP
  have hD : va_D (fun q : Nat => s.heap.size ≤ q) (shQ  b_10 (r * (iQ f))) := hD
  exact retM_r (w2 := fun u b9 => shQ b9 (r * (iQ f))) () hx hb hr hlocks trivial hP hK hD hS dX2_times_13
set_option maxHeartbeats 4000000 in
set_option maxRecDepth 100000 in
theorem c_X2_plusWhole (sz : Nat) {a : Nat} {r : Rat} (f : Int) (hn : rng (r.num + f * (r.den : Int))) (hd : (r.den : Int) < 2 ^ 48) : Met l yX2_plusWhole (wT yX2_plusWhole cX2_plusWhole 3 (some (.object "SharedFault$Share"))) ({ frames := 3, cells := 1, slots := 2, locals := 61 }) (pN (dC, dI) (ty3 cI cJ cZ) (shQ  a r) [.ref a, .long (iL f)] sz) (va_Qr (S := Unit) (fun _ => True) (fun u b9 t9 => bM (dC, dI) (ty3 cI cJ cZ) (fun q : Nat => sz ≤ q) (shQ b9 (r + (iQ f))) t9) (fun q : Nat => sz ≤ q)) 1 2 (fun q : Nat => sz ≤ q) := by
  refine Met.ofW (cc := cX2_plusWhole) (maxL := 3) (ret := (some (.object "SharedFault$Share"))) (by decide) rfl ?_
  intro p e s m args below meth c s₁ B hml hv
  obtain ⟨rfl, hsz, hP0, hK⟩ := hv
  have hx := B.exec
  have hb := B.bytes
  have hr := B.returns
  have hts := atoms_spec (ws := wT yX2_plusWhole cX2_plusWhole 3 (some (.object "SharedFault$Share"))) B.pre
  have hT := wT_T hts
  have hown : s.vm.findClass RX2 = some m.cls := findClass_of_methodNamed B.named
  have hlocks := B.notSynchronized
  subst hsz
  have hA : ∀ q : Nat, s.heap.size ≤ q → (fun q : Nat => s.heap.size ≤ q) q := fun q h => h
  have hS : va_S (fun q : Nat => s.heap.size ≤ q) s.heap s.heap [] := va_S.rf
  have hP : va_P (dC, dI) vwCl [] s.heap := nilP
  have hD : va_D (fun q : Nat => s.heap.size ≤ q) [] := nilD
  have hl := lv_entry ([.ref a, .long (iL f)]) (n := 3) (Nat.le_of_ble_eq_true rfl)
  rw [lg_entry_eq]
  generalize (lg_sl ([.ref a, .long (iL f)]) ++ List.replicate (3 - (lg_sl ([.ref a, .long (iL f)])).length) Slot.unset).toArray = ls at hl ⊢
  have hl : lv_has ls 3 [(0, .ref a), (1, .long (iL f))] := hl
  refine lv_aload_n hx hb dX2_plusWhole_0 rfl (lv_at hl 0 rfl) ?_
  refine va_get (D := (dC, dI)) (ci := 2) (v := .long (iL (r).num)) (C := RX2) (T := TX2) (N := 2) hx hb hT hiX2 hown hK (keepP hP0 hS) 0 rfl rfl 0 (by decide) (hT _ kf_X2_7) (fun _ h9 => h9) rfl dX2_plusWhole_1 ?_
  refine lv_lload_n hx hb dX2_plusWhole_4 rfl (lv_at hl 1 rfl) ?_
  refine lv_aload_n hx hb dX2_plusWhole_5 rfl (lv_at hl 0 rfl) ?_
  refine va_get (D := (dC, dI)) (ci := 2) (v := .long (iL ((r).den : Int))) (C := RX2) (T := TX2) (N := 2) hx hb hT hiX2 hown hK (keepP hP0 hS) 0 rfl rfl 1 (by decide) (hT _ kf_X2_13) (fun _ h9 => h9) rfl dX2_plusWhole_6 ?_
  refine li_mul hx hb (a := f) (b := ((r).den : Int)) dX2_plusWhole_9 ?_
  refine li_add hx hb (a := ((r).num)) (b := (f * ((r).den : Int))) dX2_plusWhole_10 ?_
  refine lv_aload_n hx hb dX2_plusWhole_11 rfl (lv_at hl 0 rfl) ?_
  refine va_get (D := (dC, dI)) (ci := 2) (v := .long (iL ((r).den : Int))) (C := RX2) (T := TX2) (N := 2) hx hb hT hiX2 hown hK (keepP hP0 hS) 0 rfl rfl 1 (by decide) (hT _ kf_X2_13) (fun _ h9 => h9) rfl dX2_plusWhole_12 ?_
  refine fN_r (rNS (As := [.long (iL (((r).num) + (f * ((r).den : Int)))), .long (iL ((r).den : Int))]) (rest := []) ⟨hx, hb, hml, hown, hT⟩ (c_X2_of (l := l) s.heap.size (((r).num) + (f * ((r).den : Int))) ((r).den : Int) hn (by omega) hd) (cwTS 2 hT kc_X2_of km_X2_29 kt_X2_of kn_X2 rfl rfl md_X2_of ⟨Nat.le_of_ble_eq_true rfl, Nat.le_of_ble_eq_true rfl⟩) nilP hK  rfl hl.1 rfl (Nat.le_of_ble_eq_true rfl) dX2_plusWhole_15 ⟨Nat.le_of_ble_eq_true rfl, Nat.le_of_ble_eq_true rfl⟩) hP hD hS hA (fun u_15 b_15 H locs hw_15 hP hD hS => ?_)
  have hP : va_P (dC, dI) vwCl (shQ  b_15 (Rat.divInt (((r).num) + (f * ((r).den : Int))) ((r).den : Int))) H := hP
  have hD : va_D (fun q : Nat => s.heap.size ≤ q) (shQ  b_15 (Rat.divInt (((r).num) + (f * ((r).den : Int))) ((r).den : Int))) := hD
  rw [show (Rat.divInt (((r).num) + (f * ((r).den : Int))) ((r).den : Int)) = (r + (iQ f)) from t_add r f] at hP hD
  have hP : va_P (dC, dI) vwCl (shQ  b_15 (r + (iQ f))) H := hP
  have hD : va_D (fun q : Nat => s.heap.size ≤ q) (shQ  b_15 (r + (iQ f))) := hD
  exact retM_r (w2 := fun u b9 => shQ b9 (r + (iQ f))) () hx hb hr hlocks trivial hP hK hD hS dX2_plusWhole_18
set_option maxHeartbeats 4000000 in
set_option maxRecDepth 100000 in
theorem c_X2_minus (sz : Nat) {a a2 : Nat} {r t : Rat} (D V U : Nat) (hr2 : bd r D V) (ht2 : bd t D U) (hD1 : 0 < D) (hD2 : D < 2 ^ 48) (hV : (V + U) * D < 2 ^ 62) : Met l yX2_minus (wT yX2_minus cX2_minus 8 (some (.object "SharedFault$Share"))) ({ frames := 3, cells := 1, slots := 2, locals := 61 }) (pN (dC, dI) (ty3 cI cJ cZ) ((shQ  a r) ++ (shQ  a2 t)) [.ref a, .ref a2] sz) (va_Qr (S := Unit) (fun _ => True) (fun u b9 t9 => bM (dC, dI) (ty3 cI cJ cZ) (fun q : Nat => sz ≤ q) (shQ b9 (r - t)) t9) (fun q : Nat => sz ≤ q)) 1 2 (fun q : Nat => sz ≤ q) := by
  refine Met.ofW (cc := cX2_minus) (maxL := 8) (ret := (some (.object "SharedFault$Share"))) (by decide) rfl ?_
  intro p e s m args below meth c s₁ B hml hv
  obtain ⟨rfl, hsz, hP0, hK⟩ := hv
  have hx := B.exec
  have hb := B.bytes
  have hr := B.returns
  have hts := atoms_spec (ws := wT yX2_minus cX2_minus 8 (some (.object "SharedFault$Share"))) B.pre
  have hT := wT_T hts
  have hown : s.vm.findClass RX2 = some m.cls := findClass_of_methodNamed B.named
  have hlocks := B.notSynchronized
  subst hsz
  have hA : ∀ q : Nat, s.heap.size ≤ q → (fun q : Nat => s.heap.size ≤ q) q := fun q h => h
  have hS : va_S (fun q : Nat => s.heap.size ≤ q) s.heap s.heap [] := va_S.rf
  have hP : va_P (dC, dI) vwCl [] s.heap := nilP
  have hD : va_D (fun q : Nat => s.heap.size ≤ q) [] := nilD
  have hl := lv_entry ([.ref a, .ref a2]) (n := 8) (Nat.le_of_ble_eq_true rfl)
  rw [lg_entry_eq]
  generalize (lg_sl ([.ref a, .ref a2]) ++ List.replicate (8 - (lg_sl ([.ref a, .ref a2])).length) Slot.unset).toArray = ls at hl ⊢
  have hl : lv_has ls 8 [(0, .ref a), (1, .ref a2)] := hl
  have hr3 := bd_nd hD1 hr2
  have ht3 := bd_nd hD1 ht2
  have hr4 := bd_den_le hD1 hr2
  have ht4 := bd_den_le hD1 ht2
  have hr5 := r.den_pos
  have ht5 := t.den_pos
  have hg1 := Nat.gcd_pos_of_pos_left t.den hr5
  have hg2 := Nat.gcd_le_left t.den hr5
  have hl1 := lcm_le hD1 hr3.1 ht3.1
  have hc1 := comb_bd hr5 hD1 hr3.1 ht3.1 hr3.2 ht3.2
  have hgr : rng ((Nat.gcd r.den t.den : Nat) : Int) := rng_of (by omega) (by omega)
  have hg0 : ((Nat.gcd r.den t.den : Nat) : Int) ≠ 0 := by omega
  have hvd : V * D + U * D < 2 ^ 62 := by rw [← Nat.add_mul]; exact hV
  refine lv_aload_n hx hb dX2_minus_0 rfl (lv_at hl 0 rfl) ?_
  refine va_get (D := (dC, dI)) (ci := 2) (v := .long (iL ((r).den : Int))) (C := RX2) (T := TX2) (N := 2) hx hb hT hiX2 hown hK (keepP hP0 hS) 0 rfl rfl 1 (by decide) (hT _ kf_X2_13) (fun _ h9 => h9) rfl dX2_minus_1 ?_
  refine lv_aload_n hx hb dX2_minus_4 rfl (lv_at hl 1 rfl) ?_
  refine va_get (D := (dC, dI)) (ci := 2) (v := .long (iL ((t).den : Int))) (C := RX2) (T := TX2) (N := 2) hx hb hT hiX2 hown hK (keepP hP0 hS) 1 rfl rfl 1 (by decide) (hT _ kf_X2_13) (fun _ h9 => h9) rfl dX2_minus_5 ?_
  refine vp_callSl (rRS (As := [.long (iL ((r).den : Int)), .long (iL ((t).den : Int))]) (rest := []) ⟨hx, hb, hml, hown, hT⟩ (c_X2_commonDivisor (l := l) ((r).den) ((t).den) (by omega) ht5 (by omega)) (cwTS 2 hT kc_X2_commonDivisor km_X2_25 kt_X2_commonDivisor kn_X2 rfl rfl md_X2_commonDivisor ⟨Nat.le_of_ble_eq_true rfl, Nat.le_of_ble_eq_true rfl⟩) nilP hK  rfl hl.1 rfl (Nat.le_of_ble_eq_true rfl) dX2_minus_8 ⟨Nat.le_of_ble_eq_true rfl, Nat.le_of_ble_eq_true rfl⟩) (fun r_8 hw_8 => ?_)
  subst hw_8
  refine lv_lstore_n (lv' := [(2, .long (iL ((Nat.gcd ((r).den) ((t).den) : Nat) : Int))), (0, .ref a), (1, .ref a2)]) hx hb dX2_minus_11 rfl hl (by decide) rfl (fun ls hl => ?_)
  refine lv_aload_n hx hb dX2_minus_12 rfl (lv_at hl 1 rfl) ?_
  refine va_get (D := (dC, dI)) (ci := 2) (v := .long (iL ((r).den : Int))) (C := RX2) (T := TX2) (N := 2) hx hb hT hiX2 hown hK (keepP hP0 hS) 0 rfl rfl 1 (by decide) (hT _ kf_X2_13) (fun _ h9 => h9) rfl dX2_minus_13 ?_
  refine lv_lload_n hx hb dX2_minus_16 rfl (lv_at hl 0 rfl) ?_
  refine li_div hx hb (a := ((r).den : Int)) (b := ((Nat.gcd ((r).den) ((t).den) : Nat) : Int)) (rng_of (by omega) (by omega)) hgr hg0 dX2_minus_17 ?_
  refine topl_eq (y := (iL ((r.den / Nat.gcd r.den t.den : Nat) : Int))) (by rw [nat_tdiv]) ?_
  refine lv_lstore (lv' := [(4, .long (iL ((r.den / Nat.gcd r.den t.den : Nat) : Int))), (2, .long (iL ((Nat.gcd ((r).den) ((t).den) : Nat) : Int))), (0, .ref a), (1, .ref a2)]) hx hb dX2_minus_18 hl (by decide) rfl (fun ls hl => ?_)
  refine lv_aload_n hx hb dX2_minus_20 rfl (lv_at hl 3 rfl) ?_
  refine va_get (D := (dC, dI)) (ci := 2) (v := .long (iL ((t).den : Int))) (C := RX2) (T := TX2) (N := 2) hx hb hT hiX2 hown hK (keepP hP0 hS) 1 rfl rfl 1 (by decide) (hT _ kf_X2_13) (fun _ h9 => h9) rfl dX2_minus_21 ?_
  refine lv_lload_n hx hb dX2_minus_24 rfl (lv_at hl 1 rfl) ?_
  refine li_div hx hb (a := ((t).den : Int)) (b := ((Nat.gcd ((r).den) ((t).den) : Nat) : Int)) (rng_of (by omega) (by omega)) hgr hg0 dX2_minus_25 ?_
  refine topl_eq (y := (iL ((t.den / Nat.gcd r.den t.den : Nat) : Int))) (by rw [nat_tdiv]) ?_
  refine lv_lstore (lv' := [(6, .long (iL ((t.den / Nat.gcd r.den t.den : Nat) : Int))), (4, .long (iL ((r.den / Nat.gcd r.den t.den : Nat) : Int))), (2, .long (iL ((Nat.gcd ((r).den) ((t).den) : Nat) : Int))), (0, .ref a), (1, .ref a2)]) hx hb dX2_minus_26 hl (by decide) rfl (fun ls hl => ?_)
  refine lv_aload_n hx hb dX2_minus_28 rfl (lv_at hl 3 rfl) ?_
  refine va_get (D := (dC, dI)) (ci := 2) (v := .long (iL (r).num)) (C := RX2) (T := TX2) (N := 2) hx hb hT hiX2 hown hK (keepP hP0 hS) 0 rfl rfl 0 (by decide) (hT _ kf_X2_7) (fun _ h9 => h9) rfl dX2_minus_29 ?_
  refine lv_lload hx hb dX2_minus_32 (lv_at hl 0 rfl) ?_
  refine li_mul hx hb (a := ((r).num)) (b := ((t.den / Nat.gcd r.den t.den : Nat) : Int)) dX2_minus_34 ?_
  refine lv_aload_n hx hb dX2_minus_35 rfl (lv_at hl 4 rfl) ?_
  refine va_get (D := (dC, dI)) (ci := 2) (v := .long (iL (t).num)) (C := RX2) (T := TX2) (N := 2) hx hb hT hiX2 hown hK (keepP hP0 hS) 1 rfl rfl 0 (by decide) (hT _ kf_X2_7) (fun _ h9 => h9) rfl dX2_minus_36 ?_
  refine lv_lload hx hb dX2_minus_39 (lv_at hl 1 rfl) ?_
  refine li_mul hx hb (a := ((t).num)) (b := ((r.den / Nat.gcd r.den t.den : Nat) : Int)) dX2_minus_41 ?_
  refine li_sub hx hb (a := (((r).num) * ((t.den / Nat.gcd r.den t.den : Nat) : Int))) (b := (((t).num) * ((r.den / Nat.gcd r.den t.den : Nat) : Int))) dX2_minus_42 ?_
  refine lv_aload_n hx hb dX2_minus_43 rfl (lv_at hl 3 rfl) ?_
  refine va_get (D := (dC, dI)) (ci := 2) (v := .long (iL ((r).den : Int))) (C := RX2) (T := TX2) (N := 2) hx hb hT hiX2 hown hK (keepP hP0 hS) 0 rfl rfl 1 (by decide) (hT _ kf_X2_13) (fun _ h9 => h9) rfl dX2_minus_44 ?_
  refine lv_lload hx hb dX2_minus_47 (lv_at hl 0 rfl) ?_
  refine li_mul hx hb (a := ((r).den : Int)) (b := ((t.den / Nat.gcd r.den t.den : Nat) : Int)) dX2_minus_49 ?_
  refine fN_r (rNS (As := [.long (iL ((((r).num) * ((t.den / Nat.gcd r.den t.den : Nat) : Int)) - (((t).num) * ((r.den / Nat.gcd r.den t.den : Nat) : Int)))), .long (iL (((r).den : Int) * ((t.den / Nat.gcd r.den t.den : Nat) : Int)))]) (rest := []) ⟨hx, hb, hml, hown, hT⟩ (c_X2_of (l := l) s.heap.size ((((r).num) * ((t.den / Nat.gcd r.den t.den : Nat) : Int)) - (((t).num) * ((r.den / Nat.gcd r.den t.den : Nat) : Int))) (((r).den : Int) * ((t.den / Nat.gcd r.den t.den : Nat) : Int)) (by unfold rng; omega) (by rw [← Int.natCast_mul]; omega) (by rw [← Int.natCast_mul]; omega)) (cwTS 2 hT kc_X2_of km_X2_29 kt_X2_of kn_X2 rfl rfl md_X2_of ⟨Nat.le_of_ble_eq_true rfl, Nat.le_of_ble_eq_true rfl⟩) nilP hK  rfl hl.1 rfl (Nat.le_of_ble_eq_true rfl) dX2_minus_50 ⟨Nat.le_of_ble_eq_true rfl, Nat.le_of_ble_eq_true rfl⟩) hP hD hS hA (fun u_50 b_50 H locs hw_50 hP hD hS => ?_)
  have hP : va_P (dC, dI) vwCl (shQ  b_50 (Rat.divInt ((((r).num) * ((t.den / Nat.gcd r.den t.den : Nat) : Int)) - (((t).num) * ((r.den / Nat.gcd r.den t.den : Nat) : Int))) (((r).den : Int) * ((t.den / Nat.gcd r.den t.den : Nat) : Int)))) H := hP
  have hD : va_D (fun q : Nat => s.heap.size ≤ q) (shQ  b_50 (Rat.divInt ((((r).num) * ((t.den / Nat.gcd r.den t.den : Nat) : Int)) - (((t).num) * ((r.den / Nat.gcd r.den t.den : Nat) : Int))) (((r).den : Int) * ((t.den / Nat.gcd r.den t.den : Nat) : Int)))) := hD
  rw [show (Rat.divInt ((((r).num) * ((t.den / Nat.gcd r.den t.den : Nat) : Int)) - (((t).num) * ((r.den / Nat.gcd r.den t.den : Nat) : Int))) (((r).den : Int) * ((t.den / Nat.gcd r.den t.den : Nat) : Int))) = (r - t) from t_sub r t] at hP hD
  have hP : va_P (dC, dI) vwCl (shQ  b_50 (r - t)) H := hP
  have hD : va_D (fun q : Nat => s.heap.size ≤ q) (shQ  b_50 (r - t)) := hD
  exact retM_r (w2 := fun u b9 => shQ b9 (r - t)) () hx hb hr hlocks trivial hP hK hD hS dX2_minus_53
set_option maxHeartbeats 4000000 in
set_option maxRecDepth 100000 in
theorem c_X2_told {a : Nat} {r : Rat} (wh : Int32) : Met l yX2_told (wT yX2_told cX2_told 2 (some .long)) ({ frames := 0, cells := 0, slots := 0, locals := 0 }) (pR (dC, dI) (ty3 cI cJ cZ) (shQ  a r) [.ref a, .int wh]) (vp_Sl (fun r9 => r9 = if wh = 0 then iL (r).num else iL ((r).den : Int))) 0 0 (fun _ => False) := by
  refine Met.ofW (cc := cX2_told) (maxL := 2) (ret := (some .long)) (by decide) rfl ?_
  intro p e s m args below meth c s₁ B hml hv
  obtain ⟨rfl, hP, hK⟩ := hv
  have hx := B.exec
  have hb := B.bytes
  have hr := B.returns
  have hts := atoms_spec (ws := wT yX2_told cX2_told 2 (some .long)) B.pre
  have hT := wT_T hts
  have hown : s.vm.findClass RX2 = some m.cls := findClass_of_methodNamed B.named
  have hlocks := B.notSynchronized
  have hl := lv_entry ([.ref a, .int wh]) (n := 2) (Nat.le_of_ble_eq_true rfl)
  rw [lg_entry_eq]
  generalize (lg_sl ([.ref a, .int wh]) ++ List.replicate (2 - (lg_sl ([.ref a, .int wh])).length) Slot.unset).toArray = ls at hl ⊢
  have hl : lv_has ls 2 [(0, .ref a), (1, .int wh)] := hl
  refine lv_iload_n hx hb dX2_told_0 rfl (lv_at hl 1 rfl) ?_
  refine lv_if_ne (tgt := 11) hx hb dX2_told_1 (by decide) (fun c_1 => ?_) (fun c_1 => ?_)
  · refine lv_aload_n hx hb dX2_told_11 rfl (lv_at hl 0 rfl) ?_
    refine va_get (D := (dC, dI)) (ci := 2) (v := .long (iL ((r).den : Int))) (C := RX2) (T := TX2) (N := 2) hx hb hT hiX2 hown hK hP 0 rfl rfl 1 (by decide) (hT _ kf_X2_13) (fun _ h9 => h9) rfl dX2_told_12 ?_
    exact retR_l hx hb hr hlocks (by simp only [c_1, ↓reduceIte, Bool.false_eq_true, i10]) dX2_told_15
  · refine lv_aload_n hx hb dX2_told_4 rfl (lv_at hl 0 rfl) ?_
    refine va_get (D := (dC, dI)) (ci := 2) (v := .long (iL (r).num)) (C := RX2) (T := TX2) (N := 2) hx hb hT hiX2 hown hK hP 0 rfl rfl 0 (by decide) (hT _ kf_X2_7) (fun _ h9 => h9) rfl dX2_told_5 ?_
    refine lv_goto (tgt := 15) hx hb dX2_told_8 (by decide) ?_
    exact retR_l hx hb hr hlocks (by simp only [c_1, ↓reduceIte, Bool.false_eq_true, i10]) dX2_told_15
end
section
variable {l : Launch} {dC : Nat → ClassId} {dI : Nat → Nat → Nat} {cI cJ cZ : ClassId}
variable {q : Nat → Nat} {ln cw ic bs ss : Int32} {se we un sf pa : Nat → Int32}
variable {ct : Int32} {ov gf : Nat → Int64} {gi ta : Nat → Int32}
variable {k : Nat → Nat} {up lo : Int64} {cn tm : Int32} {isI br ma : Nat → Int32} {aU aL uU uL oU oL gU gL : Nat → Int64}

abbrev owG (a : Nat) (v1 v2 v3 v4 v5 v6 : Value) (fd : Int64) : va_W := [(a, .inr (1, [v1, v2, v3, v4, v5, v6, .long fd]))]
def o_R (E C : Int) : Int := if 0 < E - C then E - C else 0
def o_pw (E C dn op la sh : Int) : Rat := if sh = 0 then Rat.divInt (o_R E C) (dn * op) else Rat.divInt (o_R E C * (sh + la)) (dn * op * sh)
def o_du (E C dn op la sh : Int) : Rat := o_pw E C dn op la sh * ((op - la : Int) : Rat)
def o_re (E C dn : Int) : Rat := Rat.divInt (o_R E C) dn
def o_mi (E C dn op la sh : Int) : Rat := o_re E C dn - o_du E C dn op la sh
def o_fd (E C dn op la sh : Int) : Int := if o_du E C dn op la sh = 0 then 1 else op - la
/-- what may be asked of what is owed -/
def o_ok (E C dn op la sh : Int) : Prop := 0 ≤ E ∧ E ≤ 1000000 * dn ∧ 0 ≤ C ∧ C ≤ 10000000000 ∧ 1 ≤ dn ∧ dn ≤ 700 ∧ 0 ≤ la ∧ la ≤ op ∧ op ≤ 600 ∧ 0 ≤ sh ∧ sh ≤ 700 ∧ (sh = 0 ∨ (sh + la) * (op - la) ≤ op * sh)
theorem o_R_bd {E C dn op la sh : Int} (h : o_ok E C dn op la sh) : 0 ≤ o_R E C ∧ o_R E C ≤ 1000000 * dn := by
  unfold o_ok at h
  unfold o_R
  split <;> omega
theorem mul_bd {a b x y : Int} (h0 : 0 ≤ a) (h1 : a ≤ x) (h2 : 0 ≤ b) (h3 : b ≤ y) : 0 ≤ a * b ∧ a * b ≤ x * y := ⟨Int.mul_nonneg h0 h2, Int.mul_le_mul h1 h3 h2 (by omega)⟩
theorem dq_le (n d : Int) (h : 0 ≤ d) : (Rat.divInt n d).num.natAbs ≤ n.natAbs ∧ ((Rat.divInt n d).den : Int) ≤ d + 1 := by
  by_cases h0 : d = 0
  · subst h0
    rw [Rat.divInt_zero]
    exact ⟨by simp, by simp⟩
  · have hp : 0 < d := by omega
    rw [rq_num n d hp, rq_den n d hp]
    constructor
    · rw [Int.natAbs_tdiv, Int.natAbs_natCast]; exact Nat.div_le_self _ _
    · rw [Int.tdiv_eq_ediv_of_nonneg h]
      have := Int.ediv_le_self ((Nat.gcd n.natAbs d.natAbs : Nat) : Int) h
      omega
/-- all the lower number that is needed -/
def o_D (dn op sh : Int) : Nat := (dn * (if op = 0 then 1 else op) * (if sh = 0 then 1 else sh)).natAbs
theorem o_D_bd {E C dn op la sh : Int} (h : o_ok E C dn op la sh) : 0 < o_D dn op sh ∧ o_D dn op sh ≤ 294000000 ∧ dn.natAbs ∣ o_D dn op sh := by
  obtain ⟨h1, h2, h3, h4, h5, h6, h7, h8, h9, h10, h11, h12⟩ := h
  unfold o_D
  have e1 : 1 ≤ (if op = 0 then 1 else op) ∧ (if op = 0 then 1 else op) ≤ 600 := by split <;> omega
  have e2 : 1 ≤ (if sh = 0 then 1 else sh) ∧ (if sh = 0 then 1 else sh) ≤ 700 := by split <;> omega
  generalize (if op = 0 then 1 else op) = x at e1 ⊢
  generalize (if sh = 0 then 1 else sh) = y at e2 ⊢
  have g1 := mul_bd (a := dn) (b := x) (x := 700) (y := 600) (by omega) (by omega) (by omega) (by omega)
  have g2 := mul_bd (a := dn * x) (b := y) (x := 420000) (y := 700) (by omega) (by omega) (by omega) (by omega)
  have g3 : 0 < dn * x * y := Int.mul_pos (Int.mul_pos (by omega) (by omega)) (by omega)
  refine ⟨by omega, by omega, ?_⟩
  rw [Int.mul_assoc, Int.natAbs_mul]
  exact Nat.dvd_mul_right _ _
theorem o_re_bd {E C dn op la sh : Int} (h : o_ok E C dn op la sh) : bd (o_re E C dn) (o_D dn op sh) 1000000 := by
  have h1 := o_R_bd h
  have h2 := o_D_bd h
  unfold o_re
  rw [rq_eq]
  have h5 : 1 ≤ dn := h.2.2.2.2.1
  exact bd_q (by omega) h2.1 h2.2.2 (by omega)
theorem o_du_bd {E C dn op la sh : Int} (h : o_ok E C dn op la sh) : bd (o_du E C dn op la sh) (o_D dn op sh) 1000000 := by
  have h1 := o_R_bd h
  have h2 := o_D_bd h
  obtain ⟨-, -, -, -, h5, h6, h7, h8, h9, h10, h11, h12⟩ := h
  unfold o_du o_pw
  by_cases hs : sh = 0
  · rw [if_pos hs]
    by_cases ho : op = 0
    · rw [ho, Int.mul_zero, Rat.divInt_zero, Rat.zero_mul]; exact bd_zero _ _
    · have e : (Rat.divInt (o_R E C) (dn * op)) * ((op - la : Int) : Rat) = ((o_R E C * (op - la) : Int) : Rat) / ((dn * op : Int) : Rat) := by
        rw [rq_eq, Rat.intCast_mul]; grind
      rw [e]
      have hp : 0 < dn * op := Int.mul_pos (by omega) (by omega)
      refine bd_q hp h2.1 ?_ ?_
      · unfold o_D; rw [if_neg ho, if_pos hs, Int.mul_one]; exact Nat.dvd_refl _
      · have g := mul_bd h1.1 h1.2 (b := op - la) (y := op) (by omega) (by omega)
        rw [Int.mul_assoc] at g
        omega
  · rw [if_neg hs]
    by_cases ho : op = 0
    · rw [ho, Int.mul_zero, Int.zero_mul, Rat.divInt_zero, Rat.zero_mul]; exact bd_zero _ _
    · have e : (Rat.divInt (o_R E C * (sh + la)) (dn * op * sh)) * ((op - la : Int) : Rat) = ((o_R E C * ((sh + la) * (op - la)) : Int) : Rat) / ((dn * op * sh : Int) : Rat) := by
        rw [rq_eq, Rat.intCast_mul, Rat.intCast_mul, Rat.intCast_mul]; grind
      rw [e]
      have hp : 0 < dn * op * sh := Int.mul_pos (Int.mul_pos (by omega) (by omega)) (by omega)
      refine bd_q hp h2.1 ?_ ?_
      · unfold o_D; rw [if_neg ho, if_neg hs]; exact Nat.dvd_refl _
      · have h13 : (sh + la) * (op - la) ≤ op * sh := by omega
        have g := mul_bd h1.1 h1.2 (Int.mul_nonneg (by omega) (by omega) : 0 ≤ (sh + la) * (op - la)) h13
        have e2 : 1000000 * dn * (op * sh) = 1000000 * (dn * op * sh) := by rw [Int.mul_assoc 1000000, ← Int.mul_assoc dn]
        rw [e2] at g
        omega
theorem o_pw_bd {E C dn op la sh : Int} (h : o_ok E C dn op la sh) : (o_pw E C dn op la sh).num.natAbs ≤ 910000000000 ∧ ((o_pw E C dn op la sh).den : Int) ≤ 294000001 := by
  have h1 := o_R_bd h
  obtain ⟨-, -, -, -, h5, h6, h7, h8, h9, h10, h11, h12⟩ := h
  unfold o_pw
  have g1 := mul_bd (a := dn) (b := op) (x := 700) (y := 600) (by omega) (by omega) (by omega) (by omega)
  have g2 := mul_bd (a := dn * op) (b := sh) (x := 420000) (y := 700) (by omega) (by omega) (by omega) (by omega)
  split
  · have := dq_le (o_R E C) (dn * op) (by omega)
    omega
  · have g3 := mul_bd (a := o_R E C) (b := sh + la) (x := 700000000) (y := 1300) (by omega) (by omega) (by omega) (by omega)
    have := dq_le (o_R E C * (sh + la)) (dn * op * sh) (by omega)
    omega
abbrev oW (a : Nat) (u : Nat × Nat × Nat × Nat × Nat × Nat) (E C dn op la sh : Int) : va_W := [(a, .inr (1, [.ref u.1, .ref u.2.1, .ref u.2.2.1, .ref u.2.2.2.1, .ref u.2.2.2.2.1, .ref u.2.2.2.2.2, .long (iL (o_fd E C dn op la sh))])), (u.1, .inr (2, [.long (iL (Rat.divInt E dn).num), .long (iL ((Rat.divInt E dn).den : Int))])), (u.2.1, .inr (2, [.long (iL (Rat.divInt C dn).num), .long (iL ((Rat.divInt C dn).den : Int))])), (u.2.2.1, .inr (2, [.long (iL (o_re E C dn).num), .long (iL ((o_re E C dn).den : Int))])), (u.2.2.2.1, .inr (2, [.long (iL (o_pw E C dn op la sh).num), .long (iL ((o_pw E C dn op la sh).den : Int))])), (u.2.2.2.2.1, .inr (2, [.long (iL (o_du E C dn op la sh).num), .long (iL ((o_du E C dn op la sh).den : Int))])), (u.2.2.2.2.2, .inr (2, [.long (iL (o_mi E C dn op la sh).num), .long (iL ((o_mi E C dn op la sh).den : Int))]))]
theorem i32_add {x y : Int32} (h1 : -2147483648 ≤ x.toInt + y.toInt) (h2 : x.toInt + y.toInt < 2147483648) : (x + y).toInt = x.toInt + y.toInt := by
  rw [Int32.toInt_add]
  exact Int.bmod_eq_of_le (by omega) (by omega)
theorem i32_sub {x y : Int32} (h1 : -2147483648 ≤ x.toInt - y.toInt) (h2 : x.toInt - y.toInt < 2147483648) : (x - y).toInt = x.toInt - y.toInt := by
  rw [Int32.toInt_sub]
  exact Int.bmod_eq_of_le (by omega) (by omega)
theorem i32_mul {x y : Int32} (h1 : -2147483648 ≤ x.toInt * y.toInt) (h2 : x.toInt * y.toInt < 2147483648) : (x * y).toInt = x.toInt * y.toInt := by
  rw [Int32.toInt_mul]
  exact Int.bmod_eq_of_le (by omega) (by omega)
theorem i32_0 {x : Int32} : x = 0 ↔ x.toInt = 0 := by rw [← Int32.toInt_inj]; rfl
/-! what the class takes for what is owed -/
def x_E (ln cw ic : Int32) (se we : Nat → Int32) : Int := (x_ent ln cw ic se we).toInt
def x_dn (cw ic : Int32) (we : Nat → Int32) : Int := (x_bd cw ic we).toInt
def x_C (ln cw ic : Int32) (we un sf : Nat → Int32) (mn st : Int32) : Int := (x_credsN ln ic we un sf mn st (x_bd cw ic we) 6).toInt
def x_op (ic : Int32) (we : Nat → Int32) (st : Int32) : Int32 := x_sumN (ic &&& (st ^^^ (-1))) we 6
def x_la (ic : Int32) (we un : Nat → Int32) (st br : Int32) : Int32 := x_sumN (x_obN ic un st br 6) we 6
def x_sh (cw ic : Int32) (we un : Nat → Int32) (sp st br : Int32) : Int32 := if sp = 0 then x_op ic we st - x_la ic we un st br else if sp = 1 then x_op ic we st - x_la ic we un st br + cw else 0
def x_ok (ln cw ic : Int32) (se we un sf : Nat → Int32) (mn sp st br : Int32) : Prop := o_ok (x_E ln cw ic se we) (x_C ln cw ic we un sf mn st) (x_dn cw ic we) (x_op ic we st).toInt (x_la ic we un st br).toInt (x_sh cw ic we un sp st br).toInt
set_option maxHeartbeats 4000000 in
set_option maxRecDepth 100000 in
theorem c_X1_init (sz : Nat) {a : Nat} (E C dn : Int) (op la sh : Int32) (hok : o_ok E C dn op.toInt la.toInt sh.toInt) : Met l yX1_init (wT yX1_init cX1_init 12 none) ({ frames := 4, cells := 6, slots := 12, locals := 88 }) (pM (dC, dI) (ty3 cI cJ cZ) (owG  a .null .null .null .null .null .null 0) [.ref a, .long (iL E), .long (iL C), .long (iL dn), .int op, .int la, .int sh] sz) (va_Qv (S := Nat × Nat × Nat × Nat × Nat × Nat) (fun _ => True) (fun u t9 => bM (dC, dI) (ty3 cI cJ cZ) (va_A (owG  a .null .null .null .null .null .null 0) sz) (oW a u E C dn op.toInt la.toInt sh.toInt) t9) (va_A (owG  a .null .null .null .null .null .null 0) sz)) 6 12 (va_A (owG  a .null .null .null .null .null .null 0) sz) := by
  refine Met.ofW (cc := cX1_init) (maxL := 12) (ret := none) (by decide) rfl ?_
  intro p e s m args below meth c s₁ B hml hv
  obtain ⟨rfl, hsz, hP, hK, hD0⟩ := hv
  have hx := B.exec
  have hb := B.bytes
  have hr := B.returns
  have hts := atoms_spec (ws := wT yX1_init cX1_init 12 none) B.pre
  have hT := wT_T hts
  have hown : s.vm.findClass RX1 = some m.cls := findClass_of_methodNamed B.named
  have hlocks := B.notSynchronized
  have hin : meth.name = "<init>" := (name_of_methodNamed B.named B.method).1
  subst hsz
  have hD := hD0.self (sz := s.heap.size)
  generalize hAe : va_A (owG  a .null .null .null .null .null .null 0) s.heap.size = A at hD ⊢
  have hA : ∀ q : Nat, s.heap.size ≤ q → A q := fun q h => by rw [← hAe]; exact Or.inr h
  have hS : va_S A s.heap s.heap [] := va_S.rf
  have hl := lv_entry ([.ref a, .long (iL E), .long (iL C), .long (iL dn), .int op, .int la, .int sh]) (n := 12) (Nat.le_of_ble_eq_true rfl)
  rw [lg_entry_eq]
  generalize (lg_sl ([.ref a, .long (iL E), .long (iL C), .long (iL dn), .int op, .int la, .int sh]) ++ List.replicate (12 - (lg_sl ([.ref a, .long (iL E), .long (iL C), .long (iL dn), .int op, .int la, .int sh])).length) Slot.unset).toArray = ls at hl ⊢
  have hl : lv_has ls 12 [(0, .ref a), (1, .long (iL E)), (3, .long (iL C)), (5, .long (iL dn)), (7, .int op), (8, .int la), (9, .int sh)] := hl
  have hR := o_R_bd hok
  have hpw := o_pw_bd hok
  have hre := o_re_bd hok
  have hdu := o_du_bd hok
  have hDD := o_D_bd hok
  obtain ⟨k1, k2, k3, k4, k5, k6, k7, k8, k9, k10, k11, k12⟩ := id hok
  have e1 : (sh + la).toInt = sh.toInt + la.toInt := i32_add (by omega) (by omega)
  have e2 : (op - la).toInt = op.toInt - la.toInt := i32_sub (by omega) (by omega)
  have g1 := mul_bd (a := dn) (b := op.toInt) (x := 700) (y := 600) (by omega) (by omega) (by omega) (by omega)
  have g2 := mul_bd (a := dn * op.toInt) (b := sh.toInt) (x := 420000) (y := 700) (by omega) (by omega) (by omega) (by omega)
  have g3 := mul_bd (a := o_R E C) (b := sh.toInt + la.toInt) (x := 700000000) (y := 1300) (by omega) (by omega) (by omega) (by omega)
  refine lv_aload_n hx hb dX1_init_0 rfl (lv_at hl 0 rfl) ?_
  refine W.objInit hx hb hown (hT _ km_X1_1) (hT _ ki_obj) (hT _ kc_obj) rfl (by rw [hml]; exact hl.1) rfl dX1_init_1 (Nat.le_of_ble_eq_true rfl) (Nat.le_of_ble_eq_true rfl) ?_
  refine W.eq (g2 := F0 m 4 ls []) rfl ?_
  refine lv_lload_n hx hb dX1_init_4 rfl (lv_at hl 1 rfl) ?_
  refine lv_lload_n hx hb dX1_init_5 rfl (lv_at hl 2 rfl) ?_
  refine li_sub hx hb (a := E) (b := C) dX1_init_6 ?_
  refine lv_lconst (v := iL 0) hx hb dX1_init_7 rfl ?_
  refine va_mmax_long hx hb (by rw [hml]; exact hl.1.symm) hown (hT _ km_X1_7) (hT _ kt_maxl) (hT _ kn_J9) (hT _ kc_maxl) (Nat.le_of_ble_eq_true rfl) (Nat.le_of_ble_eq_true rfl) (Nat.le_of_ble_eq_true rfl) (Nat.le_of_ble_eq_true rfl) dX1_init_8 ?_
  refine topl_eq (y := (iL (o_R E C))) (iL_max0 (by unfold rng; omega)) ?_
  refine lv_lstore (lv' := [(10, .long (iL (o_R E C))), (0, .ref a), (1, .long (iL E)), (3, .long (iL C)), (5, .long (iL dn)), (7, .int op), (8, .int la), (9, .int sh)]) hx hb dX1_init_11 hl (by decide) rfl (fun ls hl => ?_)
  refine lv_aload_n hx hb dX1_init_13 rfl (lv_at hl 1 rfl) ?_
  refine lv_lload_n hx hb dX1_init_14 rfl (lv_at hl 2 rfl) ?_
  refine lv_lload hx hb dX1_init_15 (lv_at hl 4 rfl) ?_
  refine fN_r (rNS (As := [.long (iL E), .long (iL dn)]) (rest := [.ref a]) ⟨hx, hb, hml, hown, hT⟩ (c_X2_of (l := l) s.heap.size E dn (by unfold rng; omega) (by omega) (by omega)) (cwTS 2 hT kc_X2_of km_X1_13 kt_X2_of kn_X2 rfl rfl md_X2_of ⟨Nat.le_of_ble_eq_true rfl, Nat.le_of_ble_eq_true rfl⟩) nilP hK  rfl hl.1 rfl (Nat.le_of_ble_eq_true rfl) dX1_init_17 ⟨Nat.le_of_ble_eq_true rfl, Nat.le_of_ble_eq_true rfl⟩) hP hD hS hA (fun u_17 b_17 H locs hw_17 hP hD hS => ?_)
  have hP : va_P (dC, dI) vwCl ((owG  a .null .null .null .null .null .null 0) ++ (shQ  b_17 (Rat.divInt E dn))) H := hP
  have hD : va_D A ((owG  a .null .null .null .null .null .null 0) ++ (shQ  b_17 (Rat.divInt E dn))) := hD
  refine va_putF (D := (dC, dI)) (ci := 1) (v := .ref b_17) (ty := .object "SharedFault$Share") (C := RX1) (T := TX1) (N := 7) hx hb hT hiX1 tyX1 tyX1_ok nmX1 hown hK hP hD hS 0 rfl rfl 0 (by decide) (hT _ kf_X1_19) (fun _ h9 => h9) rfl hin rfl (by decide +kernel) rfl rfl (Nat.le_of_ble_eq_true rfl) dX1_init_20 (fun H locs hP hD hS => ?_)
  have hP : va_P (dC, dI) vwCl ((owG  a (.ref b_17) .null .null .null .null .null 0) ++ (shQ  b_17 (Rat.divInt E dn))) H := hP
  have hD : va_D A ((owG  a (.ref b_17) .null .null .null .null .null 0) ++ (shQ  b_17 (Rat.divInt E dn))) := hD
  refine lv_aload_n hx hb dX1_init_23 rfl (lv_at hl 1 rfl) ?_
  refine lv_lload_n hx hb dX1_init_24 rfl (lv_at hl 3 rfl) ?_
  refine lv_lload hx hb dX1_init_25 (lv_at hl 4 rfl) ?_
  refine fN_r (rNS (As := [.long (iL C), .long (iL dn)]) (rest := [.ref a]) ⟨hx, hb, hml, hown, hT⟩ (c_X2_of (l := l) H.size C dn (by unfold rng; omega) (by omega) (by omega)) (cwTS 2 hT kc_X2_of km_X1_13 kt_X2_of kn_X2 rfl rfl md_X2_of ⟨Nat.le_of_ble_eq_true rfl, Nat.le_of_ble_eq_true rfl⟩) nilP hK  rfl hl.1 rfl (Nat.le_of_ble_eq_true rfl) dX1_init_27 ⟨Nat.le_of_ble_eq_true rfl, Nat.le_of_ble_eq_true rfl⟩) hP hD hS hA (fun u_27 b_27 H locs hw_27 hP hD hS => ?_)
  have hP : va_P (dC, dI) vwCl ((owG  a (.ref b_17) .null .null .null .null .null 0) ++ (shQ  b_17 (Rat.divInt E dn)) ++ (shQ  b_27 (Rat.divInt C dn))) H := hP
  have hD : va_D A ((owG  a (.ref b_17) .null .null .null .null .null 0) ++ (shQ  b_17 (Rat.divInt E dn)) ++ (shQ  b_27 (Rat.divInt C dn))) := hD
  refine va_putF (D := (dC, dI)) (ci := 1) (v := .ref b_27) (ty := .object "SharedFault$Share") (C := RX1) (T := TX1) (N := 7) hx hb hT hiX1 tyX1 tyX1_ok nmX1 hown hK hP hD hS 0 rfl rfl 1 (by decide) (hT _ kf_X1_25) (fun _ h9 => h9) rfl hin rfl (by decide +kernel) rfl rfl (Nat.le_of_ble_eq_true rfl) dX1_init_30 (fun H locs hP hD hS => ?_)
  have hP : va_P (dC, dI) vwCl ((owG  a (.ref b_17) (.ref b_27) .null .null .null .null 0) ++ (shQ  b_17 (Rat.divInt E dn)) ++ (shQ  b_27 (Rat.divInt C dn))) H := hP
  have hD : va_D A ((owG  a (.ref b_17) (.ref b_27) .null .null .null .null 0) ++ (shQ  b_17 (Rat.divInt E dn)) ++ (shQ  b_27 (Rat.divInt C dn))) := hD
  refine lv_aload_n hx hb dX1_init_33 rfl (lv_at hl 1 rfl) ?_
  refine lv_lload hx hb dX1_init_34 (lv_at hl 0 rfl) ?_
  refine lv_lload hx hb dX1_init_36 (lv_at hl 4 rfl) ?_
  refine fN_r (rNS (As := [.long (iL (o_R E C)), .long (iL dn)]) (rest := [.ref a]) ⟨hx, hb, hml, hown, hT⟩ (c_X2_of (l := l) H.size (o_R E C) dn (by unfold rng; omega) (by omega) (by omega)) (cwTS 2 hT kc_X2_of km_X1_13 kt_X2_of kn_X2 rfl rfl md_X2_of ⟨Nat.le_of_ble_eq_true rfl, Nat.le_of_ble_eq_true rfl⟩) nilP hK  rfl hl.1 rfl (Nat.le_of_ble_eq_true rfl) dX1_init_38 ⟨Nat.le_of_ble_eq_true rfl, Nat.le_of_ble_eq_true rfl⟩) hP hD hS hA (fun u_38 b_38 H locs hw_38 hP hD hS => ?_)
  have hP : va_P (dC, dI) vwCl ((owG  a (.ref b_17) (.ref b_27) .null .null .null .null 0) ++ (shQ  b_17 (Rat.divInt E dn)) ++ (shQ  b_27 (Rat.divInt C dn)) ++ (shQ  b_38 (Rat.divInt (o_R E C) dn))) H := hP
  have hD : va_D A ((owG  a (.ref b_17) (.ref b_27) .null .null .null .null 0) ++ (shQ  b_17 (Rat.divInt E dn)) ++ (shQ  b_27 (Rat.divInt C dn)) ++ (shQ  b_38 (Rat.divInt (o_R E C) dn))) := hD
  rw [show (Rat.divInt (o_R E C) dn) = (o_re E C dn) from rfl] at hP hD
  have hP : va_P (dC, dI) vwCl ((owG  a (.ref b_17) (.ref b_27) .null .null .null .null 0) ++ (shQ  b_17 (Rat.divInt E dn)) ++ (shQ  b_27 (Rat.divInt C dn)) ++ (shQ  b_38 (o_re E C dn))) H := hP
  have hD : va_D A ((owG  a (.ref b_17) (.ref b_27) .null .null .null .null 0) ++ (shQ  b_17 (Rat.divInt E dn)) ++ (shQ  b_27 (Rat.divInt C dn)) ++ (shQ  b_38 (o_re E C dn))) := hD
  refine va_putF (D := (dC, dI)) (ci := 1) (v := .ref b_38) (ty := .object "SharedFault$Share") (C := RX1) (T := TX1) (N := 7) hx hb hT hiX1 tyX1 tyX1_ok nmX1 hown hK hP hD hS 0 rfl rfl 2 (by decide) (hT _ kf_X1_28) (fun _ h9 => h9) rfl hin rfl (by decide +kernel) rfl rfl (Nat.le_of_ble_eq_true rfl) dX1_init_41 (fun H locs hP hD hS => ?_)
  have hP : va_P (dC, dI) vwCl ((owG  a (.ref b_17) (.ref b_27) (.ref b_38) .null .null .null 0) ++ (shQ  b_17 (Rat.divInt E dn)) ++ (shQ  b_27 (Rat.divInt C dn)) ++ (shQ  b_38 (o_re E C dn))) H := hP
  have hD : va_D A ((owG  a (.ref b_17) (.ref b_27) (.ref b_38) .null .null .null 0) ++ (shQ  b_17 (Rat.divInt E dn)) ++ (shQ  b_27 (Rat.divInt C dn)) ++ (shQ  b_38 (o_re E C dn))) := hD
  refine lv_iload hx hb dX1_init_44 (lv_at hl 7 rfl) ?_
  refine lv_if_ne (tgt := 67) hx hb dX1_init_46 (by decide) (fun c_46 => ?_) (fun c_46 => ?_)
  · refine lv_aload_n hx hb dX1_init_67 rfl (lv_at hl 1 rfl) ?_
    refine lv_lload hx hb dX1_init_68 (lv_at hl 0 rfl) ?_
    refine lv_iload hx hb dX1_init_70 (lv_at hl 7 rfl) ?_
    refine lv_iload hx hb dX1_init_72 (lv_at hl 6 rfl) ?_
    refine lv_iadd hx hb dX1_init_74 ?_
    refine lv_i2l (v := iL (sh + la : Int32).toInt) hx hb dX1_init_75 rfl ?_
    refine topl_eq (y := (iL (sh.toInt + la.toInt))) (by rw [e1]) ?_
    refine li_mul hx hb (a := (o_R E C)) (b := (sh.toInt + la.toInt)) dX1_init_76 ?_
    refine lv_lload hx hb dX1_init_77 (lv_at hl 4 rfl) ?_
    refine lv_iload hx hb dX1_init_79 (lv_at hl 5 rfl) ?_
    refine lv_i2l (v := iL (op : Int32).toInt) hx hb dX1_init_81 rfl ?_
    refine li_mul hx hb (a := dn) (b := ((op : Int32).toInt)) dX1_init_82 ?_
    refine lv_iload hx hb dX1_init_83 (lv_at hl 7 rfl) ?_
    refine lv_i2l (v := iL (sh : Int32).toInt) hx hb dX1_init_85 rfl ?_
    refine li_mul hx hb (a := (dn * ((op : Int32).toInt))) (b := ((sh : Int32).toInt)) dX1_init_86 ?_
    refine fN_r (rNS (As := [.long (iL ((o_R E C) * (sh.toInt + la.toInt))), .long (iL ((dn * ((op : Int32).toInt)) * ((sh : Int32).toInt)))]) (rest := [.ref a]) ⟨hx, hb, hml, hown, hT⟩ (c_X2_of (l := l) H.size ((o_R E C) * (sh.toInt + la.toInt)) ((dn * ((op : Int32).toInt)) * ((sh : Int32).toInt)) (by unfold rng; omega) (by omega) (by omega)) (cwTS 2 hT kc_X2_of km_X1_13 kt_X2_of kn_X2 rfl rfl md_X2_of ⟨Nat.le_of_ble_eq_true rfl, Nat.le_of_ble_eq_true rfl⟩) nilP hK  rfl hl.1 rfl (Nat.le_of_ble_eq_true rfl) dX1_init_87 ⟨Nat.le_of_ble_eq_true rfl, Nat.le_of_ble_eq_true rfl⟩) hP hD hS hA (fun u_87 b_87 H locs hw_87 hP hD hS => ?_)
    have hP : va_P (dC, dI) vwCl ((owG  a (.ref b_17) (.ref b_27) (.ref b_38) .null .null .null 0) ++ (shQ  b_17 (Rat.divInt E dn)) ++ (shQ  b_27 (Rat.divInt C dn)) ++ (shQ  b_38 (o_re E C dn)) ++ (shQ  b_87 (Rat.divInt ((o_R E C) * (sh.toInt + la.toInt)) ((dn * ((op : Int32).toInt)) * ((sh : Int32).toInt))))) H := hP
    have hD : va_D A ((owG  a (.ref b_17) (.ref b_27) (.ref b_38) .null .null .null 0) ++ (shQ  b_17 (Rat.divInt E dn)) ++ (shQ  b_27 (Rat.divInt C dn)) ++ (shQ  b_38 (o_re E C dn)) ++ (shQ  b_87 (Rat.divInt ((o_R E C) * (sh.toInt + la.toInt)) ((dn * ((op : Int32).toInt)) * ((sh : Int32).toInt))))) := hD
    rw [show (Rat.divInt ((o_R E C) * (sh.toInt + la.toInt)) ((dn * ((op : Int32).toInt)) * ((sh : Int32).toInt))) = (o_pw E C dn op.toInt la.toInt sh.toInt) from (by unfold o_pw; rw [if_neg (fun h => c_46 (i32_0.mpr h))])] at hP hD
    have hP : va_P (dC, dI) vwCl ((owG  a (.ref b_17) (.ref b_27) (.ref b_38) .null .null .null 0) ++ (shQ  b_17 (Rat.divInt E dn)) ++ (shQ  b_27 (Rat.divInt C dn)) ++ (shQ  b_38 (o_re E C dn)) ++ (shQ  b_87 (o_pw E C dn op.toInt la.toInt sh.toInt))) H := hP
    have hD : va_D A ((owG  a (.ref b_17) (.ref b_27) (.ref b_38) .null .null .null 0) ++ (shQ  b_17 (Rat.divInt E dn)) ++ (shQ  b_27 (Rat.divInt C dn)) ++ (shQ  b_38 (o_re E C dn)) ++ (shQ  b_87 (o_pw E C dn op.toInt la.toInt sh.toInt))) := hD
    refine va_putF (D := (dC, dI)) (ci := 1) (v := .ref b_87) (ty := .object "SharedFault$Share") (C := RX1) (T := TX1) (N := 7) hx hb hT hiX1 tyX1 tyX1_ok nmX1 hown hK hP hD hS 0 rfl rfl 3 (by decide) (hT _ kf_X1_31) (fun _ h9 => h9) rfl hin rfl (by decide +kernel) rfl rfl (Nat.le_of_ble_eq_true rfl) dX1_init_90 (fun H locs hP hD hS => ?_)
    have hP : va_P (dC, dI) vwCl ((owG  a (.ref b_17) (.ref b_27) (.ref b_38) (.ref b_87) .null .null 0) ++ (shQ  b_17 (Rat.divInt E dn)) ++ (shQ  b_27 (Rat.divInt C dn)) ++ (shQ  b_38 (o_re E C dn)) ++ (shQ  b_87 (o_pw E C dn op.toInt la.toInt sh.toInt))) H := hP
    have hD : va_D A ((owG  a (.ref b_17) (.ref b_27) (.ref b_38) (.ref b_87) .null .null 0) ++ (shQ  b_17 (Rat.divInt E dn)) ++ (shQ  b_27 (Rat.divInt C dn)) ++ (shQ  b_38 (o_re E C dn)) ++ (shQ  b_87 (o_pw E C dn op.toInt la.toInt sh.toInt))) := hD
    refine lv_aload_n hx hb dX1_init_93 rfl (lv_at hl 1 rfl) ?_
    refine lv_aload_n hx hb dX1_init_94 rfl (lv_at hl 1 rfl) ?_
    refine va_get (D := (dC, dI)) (ci := 1) (v := .ref b_87) (C := RX1) (T := TX1) (N := 7) hx hb hT hiX1 hown hK hP 0 rfl rfl 3 (by decide) (hT _ kf_X1_31) (fun _ h9 => h9) rfl dX1_init_95 ?_
    refine lv_iload hx hb dX1_init_98 (lv_at hl 5 rfl) ?_
    refine lv_iload hx hb dX1_init_100 (lv_at hl 6 rfl) ?_
    refine lv_isub hx hb dX1_init_102 ?_
    refine lv_i2l (v := iL (op - la : Int32).toInt) hx hb dX1_init_103 rfl ?_
    refine topl_eq (y := (iL (op.toInt - la.toInt))) (by rw [e2]) ?_
    refine fN_r (rNV (As := [.long (iL (op.toInt - la.toInt))]) (rest := [.ref a]) ⟨hx, hb, hml, hown, hT⟩ (c_X2_times (l := l) H.size (op.toInt - la.toInt) (by have := Nat.mul_le_mul hpw.1 (show (op.toInt - la.toInt).natAbs ≤ 600 by omega); rw [← Int.natAbs_mul] at this; unfold rng; omega) (by omega)) (cwTV 1 hT kc_X2_times km_X1_34 ki_X2_times ks_X2_times kn_X2 rfl rfl md_X2_times ⟨Nat.le_of_ble_eq_true rfl, Nat.le_of_ble_eq_true rfl⟩) (va_P.sub (ws' := shQ  b_87 (o_pw E C dn op.toInt la.toInt sh.toInt)) hP [4] rfl) hK (va_recv hK hP (ci := 2) (q0 := 4) rfl rfl) rfl hl.1 rfl (Nat.le_of_ble_eq_true rfl) dX1_init_104 ⟨Nat.le_of_ble_eq_true rfl, Nat.le_of_ble_eq_true rfl⟩) hP hD hS hA (fun u_104 b_104 H locs hw_104 hP hD hS => ?_)
    have hP : va_P (dC, dI) vwCl ((owG  a (.ref b_17) (.ref b_27) (.ref b_38) (.ref b_87) .null .null 0) ++ (shQ  b_17 (Rat.divInt E dn)) ++ (shQ  b_27 (Rat.divInt C dn)) ++ (shQ  b_38 (o_re E C dn)) ++ (shQ  b_87 (o_pw E C dn op.toInt la.toInt sh.toInt)) ++ (shQ  b_104 ((o_pw E C dn op.toInt la.toInt sh.toInt) * (iQ (op.toInt - la.toInt))))) H := hP
    have hD : va_D A ((owG  a (.ref b_17) (.ref b_27) (.ref b_38) (.ref b_87) .null .null 0) ++ (shQ  b_17 (Rat.divInt E dn)) ++ (shQ  b_27 (Rat.divInt C dn)) ++ (shQ  b_38 (o_re E C dn)) ++ (shQ  b_87 (o_pw E C dn op.toInt la.toInt sh.toInt)) ++ (shQ  b_104 ((o_pw E C dn op.toInt la.toInt sh.toInt) * (iQ (op.toInt - la.toInt))))) := hD
    rw [show ((o_pw E C dn op.toInt la.toInt sh.toInt) * (iQ (op.toInt - la.toInt))) = (o_du E C dn op.toInt la.toInt sh.toInt) from rfl] at hP hD
    have hP : va_P (dC, dI) vwCl ((owG  a (.ref b_17) (.ref b_27) (.ref b_38) (.ref b_87) .null .null 0) ++ (shQ  b_17 (Rat.divInt E dn)) ++ (shQ  b_27 (Rat.divInt C dn)) ++ (shQ  b_38 (o_re E C dn)) ++ (shQ  b_87 (o_pw E C dn op.toInt la.toInt sh.toInt)) ++ (shQ  b_104 (o_du E C dn op.toInt la.toInt sh.toInt))) H := hP
    have hD : va_D A ((owG  a (.ref b_17) (.ref b_27) (.ref b_38) (.ref b_87) .null .null 0) ++ (shQ  b_17 (Rat.divInt E dn)) ++ (shQ  b_27 (Rat.divInt C dn)) ++ (shQ  b_38 (o_re E C dn)) ++ (shQ  b_87 (o_pw E C dn op.toInt la.toInt sh.toInt)) ++ (shQ  b_104 (o_du E C dn op.toInt la.toInt sh.toInt))) := hD
    refine va_putF (D := (dC, dI)) (ci := 1) (v := .ref b_104) (ty := .object "SharedFault$Share") (C := RX1) (T := TX1) (N := 7) hx hb hT hiX1 tyX1 tyX1_ok nmX1 hown hK hP hD hS 0 rfl rfl 4 (by decide) (hT _ kf_X1_38) (fun _ h9 => h9) rfl hin rfl (by decide +kernel) rfl rfl (Nat.le_of_ble_eq_true rfl) dX1_init_107 (fun H locs hP hD hS => ?_)
    have hP : va_P (dC, dI) vwCl ((owG  a (.ref b_17) (.ref b_27) (.ref b_38) (.ref b_87) (.ref b_104) .null 0) ++ (shQ  b_17 (Rat.divInt E dn)) ++ (shQ  b_27 (Rat.divInt C dn)) ++ (shQ  b_38 (o_re E C dn)) ++ (shQ  b_87 (o_pw E C dn op.toInt la.toInt sh.toInt)) ++ (shQ  b_104 (o_du E C dn op.toInt la.toInt sh.toInt))) H := hP
    have hD : va_D A ((owG  a (.ref b_17) (.ref b_27) (.ref b_38) (.ref b_87) (.ref b_104) .null 0) ++ (shQ  b_17 (Rat.divInt E dn)) ++ (shQ  b_27 (Rat.divInt C dn)) ++ (shQ  b_38 (o_re E C dn)) ++ (shQ  b_87 (o_pw E C dn op.toInt la.toInt sh.toInt)) ++ (shQ  b_104 (o_du E C dn op.toInt la.toInt sh.toInt))) := hD
    refine lv_aload_n hx hb dX1_init_110 rfl (lv_at hl 1 rfl) ?_
    refine lv_aload_n hx hb dX1_init_111 rfl (lv_at hl 1 rfl) ?_
    refine va_get (D := (dC, dI)) (ci := 1) (v := .ref b_38) (C := RX1) (T := TX1) (N := 7) hx hb hT hiX1 hown hK hP 0 rfl rfl 2 (by decide) (hT _ kf_X1_28) (fun _ h9 => h9) rfl dX1_init_112 ?_
    refine lv_aload_n hx hb dX1_init_115 rfl (lv_at hl 1 rfl) ?_
    refine va_get (D := (dC, dI)) (ci := 1) (v := .ref b_104) (C := RX1) (T := TX1) (N := 7) hx hb hT hiX1 hown hK hP 0 rfl rfl 4 (by decide) (hT _ kf_X1_38) (fun _ h9 => h9) rfl dX1_init_116 ?_
    refine fN_r (rNV (As := [.ref b_104]) (rest := [.ref a]) ⟨hx, hb, hml, hown, hT⟩ (c_X2_minus (l := l) H.size (o_D dn op.toInt sh.toInt) 1000000 1000000 hre hdu hDD.1 (by omega) (by omega)) (cwTV 1 hT kc_X2_minus km_X1_41 ki_X2_minus ks_X2_minus kn_X2 rfl rfl md_X2_minus ⟨Nat.le_of_ble_eq_true rfl, Nat.le_of_ble_eq_true rfl⟩) (va_P.sub (ws' := (shQ  b_38 (o_re E C dn)) ++ (shQ  b_104 (o_du E C dn op.toInt la.toInt sh.toInt))) hP [3, 5] rfl) hK (va_recv hK hP (ci := 2) (q0 := 3) rfl rfl) rfl hl.1 rfl (Nat.le_of_ble_eq_true rfl) dX1_init_119 ⟨Nat.le_of_ble_eq_true rfl, Nat.le_of_ble_eq_true rfl⟩) hP hD hS hA (fun u_119 b_119 H locs hw_119 hP hD hS => ?_)
    have hP : va_P (dC, dI) vwCl ((owG  a (.ref b_17) (.ref b_27) (.ref b_38) (.ref b_87) (.ref b_104) .null 0) ++ (shQ  b_17 (Rat.divInt E dn)) ++ (shQ  b_27 (Rat.divInt C dn)) ++ (shQ  b_38 (o_re E C dn)) ++ (shQ  b_87 (o_pw E C dn op.toInt la.toInt sh.toInt)) ++ (shQ  b_104 (o_du E C dn op.toInt la.toInt sh.toInt)) ++ (shQ  b_119 ((o_re E C dn) - (o_du E C dn op.toInt la.toInt sh.toInt)))) H := hP
    have hD : va_D A ((owG  a (.ref b_17) (.ref b_27) (.ref b_38) (.ref b_87) (.ref b_104) .null 0) ++ (shQ  b_17 (Rat.divInt E dn)) ++ (shQ  b_27 (Rat.divInt C dn)) ++ (shQ  b_38 (o_re E C dn)) ++ (shQ  b_87 (o_pw E C dn op.toInt la.toInt sh.toInt)) ++ (shQ  b_104 (o_du E C dn op.toInt la.toInt sh.toInt)) ++ (shQ  b_119 ((o_re E C dn) - (o_du E C dn op.toInt la.toInt sh.toInt)))) := hD
    rw [show ((o_re E C dn) - (o_du E C dn op.toInt la.toInt sh.toInt)) = (o_mi E C dn op.toInt la.toInt sh.toInt) from rfl] at hP hD
    have hP : va_P (dC, dI) vwCl ((owG  a (.ref b_17) (.ref b_27) (.ref b_38) (.ref b_87) (.ref b_104) .null 0) ++ (shQ  b_17 (Rat.divInt E dn)) ++ (shQ  b_27 (Rat.divInt C dn)) ++ (shQ  b_38 (o_re E C dn)) ++ (shQ  b_87 (o_pw E C dn op.toInt la.toInt sh.toInt)) ++ (shQ  b_104 (o_du E C dn op.toInt la.toInt sh.toInt)) ++ (shQ  b_119 (o_mi E C dn op.toInt la.toInt sh.toInt))) H := hP
    have hD : va_D A ((owG  a (.ref b_17) (.ref b_27) (.ref b_38) (.ref b_87) (.ref b_104) .null 0) ++ (shQ  b_17 (Rat.divInt E dn)) ++ (shQ  b_27 (Rat.divInt C dn)) ++ (shQ  b_38 (o_re E C dn)) ++ (shQ  b_87 (o_pw E C dn op.toInt la.toInt sh.toInt)) ++ (shQ  b_104 (o_du E C dn op.toInt la.toInt sh.toInt)) ++ (shQ  b_119 (o_mi E C dn op.toInt la.toInt sh.toInt))) := hD
    refine va_putF (D := (dC, dI)) (ci := 1) (v := .ref b_119) (ty := .object "SharedFault$Share") (C := RX1) (T := TX1) (N := 7) hx hb hT hiX1 tyX1 tyX1_ok nmX1 hown hK hP hD hS 0 rfl rfl 5 (by decide) (hT _ kf_X1_45) (fun _ h9 => h9) rfl hin rfl (by decide +kernel) rfl rfl (Nat.le_of_ble_eq_true rfl) dX1_init_122 (fun H locs hP hD hS => ?_)
    have hP : va_P (dC, dI) vwCl ((owG  a (.ref b_17) (.ref b_27) (.ref b_38) (.ref b_87) (.ref b_104) (.ref b_119) 0) ++ (shQ  b_17 (Rat.divInt E dn)) ++ (shQ  b_27 (Rat.divInt C dn)) ++ (shQ  b_38 (o_re E C dn)) ++ (shQ  b_87 (o_pw E C dn op.toInt la.toInt sh.toInt)) ++ (shQ  b_104 (o_du E C dn op.toInt la.toInt sh.toInt)) ++ (shQ  b_119 (o_mi E C dn op.toInt la.toInt sh.toInt))) H := hP
    have hD : va_D A ((owG  a (.ref b_17) (.ref b_27) (.ref b_38) (.ref b_87) (.ref b_104) (.ref b_119) 0) ++ (shQ  b_17 (Rat.divInt E dn)) ++ (shQ  b_27 (Rat.divInt C dn)) ++ (shQ  b_38 (o_re E C dn)) ++ (shQ  b_87 (o_pw E C dn op.toInt la.toInt sh.toInt)) ++ (shQ  b_104 (o_du E C dn op.toInt la.toInt sh.toInt)) ++ (shQ  b_119 (o_mi E C dn op.toInt la.toInt sh.toInt))) := hD
    refine lv_aload_n hx hb dX1_init_125 rfl (lv_at hl 1 rfl) ?_
    refine lv_aload_n hx hb dX1_init_126 rfl (lv_at hl 1 rfl) ?_
    refine va_get (D := (dC, dI)) (ci := 1) (v := .ref b_104) (C := RX1) (T := TX1) (N := 7) hx hb hT hiX1 hown hK hP 0 rfl rfl 4 (by decide) (hT _ kf_X1_38) (fun _ h9 => h9) rfl dX1_init_127 ?_
    refine va_get (D := (dC, dI)) (ci := 2) (v := .long (iL ((o_du E C dn op.toInt la.toInt sh.toInt)).num)) (C := RX2) (T := TX2) (N := 2) hx hb hT hiX2 hown hK hP 5 rfl rfl 0 (by decide) (hT _ kf_X1_48) (fun _ h9 => h9) rfl dX1_init_130 ?_
    refine lv_lconst (v := iL 0) hx hb dX1_init_133 rfl ?_
    refine lc_ne (tgt := 142) hx hb dX1_init_134 dX1_init_135 (by decide) (fun c_134 => ?_) (fun c_134 => ?_)
    · have hz : ¬ o_du E C dn op.toInt la.toInt sh.toInt = 0 := fun h => c_134 (by rw [h]; rfl)
      refine lv_iload hx hb dX1_init_142 (lv_at hl 5 rfl) ?_
      refine lv_iload hx hb dX1_init_144 (lv_at hl 6 rfl) ?_
      refine lv_isub hx hb dX1_init_146 ?_
      refine lv_i2l (v := iL (op - la : Int32).toInt) hx hb dX1_init_147 rfl ?_
      refine topl_eq (y := (iL (o_fd E C dn op.toInt la.toInt sh.toInt))) (by unfold o_fd; rw [if_neg hz, e2]) ?_
      refine va_putF (D := (dC, dI)) (ci := 1) (v := .long (iL (o_fd E C dn op.toInt la.toInt sh.toInt))) (ty := .long) (C := RX1) (T := TX1) (N := 7) hx hb hT hiX1 tyX1 tyX1_ok nmX1 hown hK hP hD hS 0 rfl rfl 6 (by decide) (hT _ kf_X1_52) (fun _ h9 => h9) rfl hin rfl (by decide +kernel) rfl rfl (Nat.le_of_ble_eq_true rfl) dX1_init_148 (fun H locs hP hD hS => ?_)
      have hP : va_P (dC, dI) vwCl ((owG  a (.ref b_17) (.ref b_27) (.ref b_38) (.ref b_87) (.ref b_104) (.ref b_119) (iL (o_fd E C dn op.toInt la.toInt sh.toInt))) ++ (shQ  b_17 (Rat.divInt E dn)) ++ (shQ  b_27 (Rat.divInt C dn)) ++ (shQ  b_38 (o_re E C dn)) ++ (shQ  b_87 (o_pw E C dn op.toInt la.toInt sh.toInt)) ++ (shQ  b_104 (o_du E C dn op.toInt la.toInt sh.toInt)) ++ (shQ  b_119 (o_mi E C dn op.toInt la.toInt sh.toInt))) H := hP
      have hD : va_D A ((owG  a (.ref b_17) (.ref b_27) (.ref b_38) (.ref b_87) (.ref b_104) (.ref b_119) (iL (o_fd E C dn op.toInt la.toInt sh.toInt))) ++ (shQ  b_17 (Rat.divInt E dn)) ++ (shQ  b_27 (Rat.divInt C dn)) ++ (shQ  b_38 (o_re E C dn)) ++ (shQ  b_87 (o_pw E C dn op.toInt la.toInt sh.toInt)) ++ (shQ  b_104 (o_du E C dn op.toInt la.toInt sh.toInt)) ++ (shQ  b_119 (o_mi E C dn op.toInt la.toInt sh.toInt))) := hD
      exact retM_v (S := Nat × Nat × Nat × Nat × Nat × Nat) (post := fun _ => True) (w2 := fun u => oW a u E C dn op.toInt la.toInt sh.toInt) (b_17, b_27, b_38, b_87, b_104, b_119) hx hb hr hlocks trivial hP hK hD hS dX1_init_151
    · have hz : o_du E C dn op.toInt la.toInt sh.toInt = 0 := Rat.num_eq_zero.mp ((iL_eq (by have := bd_num_le hDD.1 hdu; unfold rng; omega) rng_0).mp c_134)
      refine lv_lconst (v := iL 1) hx hb dX1_init_138 rfl ?_
      refine topl_eq (y := (iL (o_fd E C dn op.toInt la.toInt sh.toInt))) (by unfold o_fd; rw [if_pos hz]) ?_
      refine lv_goto (tgt := 148) hx hb dX1_init_139 (by decide) ?_
      refine va_putF (D := (dC, dI)) (ci := 1) (v := .long (iL (o_fd E C dn op.toInt la.toInt sh.toInt))) (ty := .long) (C := RX1) (T := TX1) (N := 7) hx hb hT hiX1 tyX1 tyX1_ok nmX1 hown hK hP hD hS 0 rfl rfl 6 (by decide) (hT _ kf_X1_52) (fun _ h9 => h9) rfl hin rfl (by decide +kernel) rfl rfl (Nat.le_of_ble_eq_true rfl) dX1_init_148 (fun H locs hP hD hS => ?_)
      have hP : va_P (dC, dI) vwCl ((owG  a (.ref b_17) (.ref b_27) (.ref b_38) (.ref b_87) (.ref b_104) (.ref b_119) (iL (o_fd E C dn op.toInt la.toInt sh.toInt))) ++ (shQ  b_17 (Rat.divInt E dn)) ++ (shQ  b_27 (Rat.divInt C dn)) ++ (shQ  b_38 (o_re E C dn)) ++ (shQ  b_87 (o_pw E C dn op.toInt la.toInt sh.toInt)) ++ (shQ  b_104 (o_du E C dn op.toInt la.toInt sh.toInt)) ++ (shQ  b_119 (o_mi E C dn op.toInt la.toInt sh.toInt))) H := hP
      have hD : va_D A ((owG  a (.ref b_17) (.ref b_27) (.ref b_38) (.ref b_87) (.ref b_104) (.ref b_119) (iL (o_fd E C dn op.toInt la.toInt sh.toInt))) ++ (shQ  b_17 (Rat.divInt E dn)) ++ (shQ  b_27 (Rat.divInt C dn)) ++ (shQ  b_38 (o_re E C dn)) ++ (shQ  b_87 (o_pw E C dn op.toInt la.toInt sh.toInt)) ++ (shQ  b_104 (o_du E C dn op.toInt la.toInt sh.toInt)) ++ (shQ  b_119 (o_mi E C dn op.toInt la.toInt sh.toInt))) := hD
      exact retM_v (S := Nat × Nat × Nat × Nat × Nat × Nat) (post := fun _ => True) (w2 := fun u => oW a u E C dn op.toInt la.toInt sh.toInt) (b_17, b_27, b_38, b_87, b_104, b_119) hx hb hr hlocks trivial hP hK hD hS dX1_init_151
  · refine lv_aload_n hx hb dX1_init_49 rfl (lv_at hl 1 rfl) ?_
    refine lv_lload hx hb dX1_init_50 (lv_at hl 0 rfl) ?_
    refine lv_lload hx hb dX1_init_52 (lv_at hl 4 rfl) ?_
    refine lv_iload hx hb dX1_init_54 (lv_at hl 5 rfl) ?_
    refine lv_i2l (v := iL (op : Int32).toInt) hx hb dX1_init_56 rfl ?_
    refine li_mul hx hb (a := dn) (b := ((op : Int32).toInt)) dX1_init_57 ?_
    refine fN_r (rNS (As := [.long (iL (o_R E C)), .long (iL (dn * ((op : Int32).toInt)))]) (rest := [.ref a]) ⟨hx, hb, hml, hown, hT⟩ (c_X2_of (l := l) H.size (o_R E C) (dn * ((op : Int32).toInt)) (by unfold rng; omega) (by omega) (by omega)) (cwTS 2 hT kc_X2_of km_X1_13 kt_X2_of kn_X2 rfl rfl md_X2_of ⟨Nat.le_of_ble_eq_true rfl, Nat.le_of_ble_eq_true rfl⟩) nilP hK  rfl hl.1 rfl (Nat.le_of_ble_eq_true rfl) dX1_init_58 ⟨Nat.le_of_ble_eq_true rfl, Nat.le_of_ble_eq_true rfl⟩) hP hD hS hA (fun u_58 b_58 H locs hw_58 hP hD hS => ?_)
    have hP : va_P (dC, dI) vwCl ((owG  a (.ref b_17) (.ref b_27) (.ref b_38) .null .null .null 0) ++ (shQ  b_17 (Rat.divInt E dn)) ++ (shQ  b_27 (Rat.divInt C dn)) ++ (shQ  b_38 (o_re E C dn)) ++ (shQ  b_58 (Rat.divInt (o_R E C) (dn * ((op : Int32).toInt))))) H := hP
    have hD : va_D A ((owG  a (.ref b_17) (.ref b_27) (.ref b_38) .null .null .null 0) ++ (shQ  b_17 (Rat.divInt E dn)) ++ (shQ  b_27 (Rat.divInt C dn)) ++ (shQ  b_38 (o_re E C dn)) ++ (shQ  b_58 (Rat.divInt (o_R E C) (dn * ((op : Int32).toInt))))) := hD
    rw [show (Rat.divInt (o_R E C) (dn * ((op : Int32).toInt))) = (o_pw E C dn op.toInt la.toInt sh.toInt) from (by unfold o_pw; rw [if_pos (i32_0.mp (Classical.not_not.mp (fun h => h c_46)))])] at hP hD
    have hP : va_P (dC, dI) vwCl ((owG  a (.ref b_17) (.ref b_27) (.ref b_38) .null .null .null 0) ++ (shQ  b_17 (Rat.divInt E dn)) ++ (shQ  b_27 (Rat.divInt C dn)) ++ (shQ  b_38 (o_re E C dn)) ++ (shQ  b_58 (o_pw E C dn op.toInt la.toInt sh.toInt))) H := hP
    have hD : va_D A ((owG  a (.ref b_17) (.ref b_27) (.ref b_38) .null .null .null 0) ++ (shQ  b_17 (Rat.divInt E dn)) ++ (shQ  b_27 (Rat.divInt C dn)) ++ (shQ  b_38 (o_re E C dn)) ++ (shQ  b_58 (o_pw E C dn op.toInt la.toInt sh.toInt))) := hD
    refine va_putF (D := (dC, dI)) (ci := 1) (v := .ref b_58) (ty := .object "SharedFault$Share") (C := RX1) (T := TX1) (N := 7) hx hb hT hiX1 tyX1 tyX1_ok nmX1 hown hK hP hD hS 0 rfl rfl 3 (by decide) (hT _ kf_X1_31) (fun _ h9 => h9) rfl hin rfl (by decide +kernel) rfl rfl (Nat.le_of_ble_eq_true rfl) dX1_init_61 (fun H locs hP hD hS => ?_)
    have hP : va_P (dC, dI) vwCl ((owG  a (.ref b_17) (.ref b_27) (.ref b_38) (.ref b_58) .null .null 0) ++ (shQ  b_17 (Rat.divInt E dn)) ++ (shQ  b_27 (Rat.divInt C dn)) ++ (shQ  b_38 (o_re E C dn)) ++ (shQ  b_58 (o_pw E C dn op.toInt la.toInt sh.toInt))) H := hP
    have hD : va_D A ((owG  a (.ref b_17) (.ref b_27) (.ref b_38) (.ref b_58) .null .null 0) ++ (shQ  b_17 (Rat.divInt E dn)) ++ (shQ  b_27 (Rat.divInt C dn)) ++ (shQ  b_38 (o_re E C dn)) ++ (shQ  b_58 (o_pw E C dn op.toInt la.toInt sh.toInt))) := hD
    refine lv_goto (tgt := 93) hx hb dX1_init_64 (by decide) ?_
    refine lv_aload_n hx hb dX1_init_93 rfl (lv_at hl 1 rfl) ?_
    refine lv_aload_n hx hb dX1_init_94 rfl (lv_at hl 1 rfl) ?_
    refine va_get (D := (dC, dI)) (ci := 1) (v := .ref b_58) (C := RX1) (T := TX1) (N := 7) hx hb hT hiX1 hown hK hP 0 rfl rfl 3 (by decide) (hT _ kf_X1_31) (fun _ h9 => h9) rfl dX1_init_95 ?_
    refine lv_iload hx hb dX1_init_98 (lv_at hl 5 rfl) ?_
    refine lv_iload hx hb dX1_init_100 (lv_at hl 6 rfl) ?_
    refine lv_isub hx hb dX1_init_102 ?_
    refine lv_i2l (v := iL (op - la : Int32).toInt) hx hb dX1_init_103 rfl ?_
    refine topl_eq (y := (iL (op.toInt - la.toInt))) (by rw [e2]) ?_
    refine fN_r (rNV (As := [.long (iL (op.toInt - la.toInt))]) (rest := [.ref a]) ⟨hx, hb, hml, hown, hT⟩ (c_X2_times (l := l) H.size (op.toInt - la.toInt) (by have := Nat.mul_le_mul hpw.1 (show (op.toInt - la.toInt).natAbs ≤ 600 by omega); rw [← Int.natAbs_mul] at this; unfold rng; omega) (by omega)) (cwTV 1 hT kc_X2_times km_X1_34 ki_X2_times ks_X2_times kn_X2 rfl rfl md_X2_times ⟨Nat.le_of_ble_eq_true rfl, Nat.le_of_ble_eq_true rfl⟩) (va_P.sub (ws' := shQ  b_58 (o_pw E C dn op.toInt la.toInt sh.toInt)) hP [4] rfl) hK (va_recv hK hP (ci := 2) (q0 := 4) rfl rfl) rfl hl.1 rfl (Nat.le_of_ble_eq_true rfl) dX1_init_104 ⟨Nat.le_of_ble_eq_true rfl, Nat.le_of_ble_eq_true rfl⟩) hP hD hS hA (fun u_104 b_104 H locs hw_104 hP hD hS => ?_)
    have hP : va_P (dC, dI) vwCl ((owG  a (.ref b_17) (.ref b_27) (.ref b_38) (.ref b_58) .null .null 0) ++ (shQ  b_17 (Rat.divInt E dn)) ++ (shQ  b_27 (Rat.divInt C dn)) ++ (shQ  b_38 (o_re E C dn)) ++ (shQ  b_58 (o_pw E C dn op.toInt la.toInt sh.toInt)) ++ (shQ  b_104 ((o_pw E C dn op.toInt la.toInt sh.toInt) * (iQ (op.toInt - la.toInt))))) H := hP
    have hD : va_D A ((owG  a (.ref b_17) (.ref b_27) (.ref b_38) (.ref b_58) .null .null 0) ++ (shQ  b_17 (Rat.divInt E dn)) ++ (shQ  b_27 (Rat.divInt C dn)) ++ (shQ  b_38 (o_re E C dn)) ++ (shQ  b_58 (o_pw E C dn op.toInt la.toInt sh.toInt)) ++ (shQ  b_104 ((o_pw E C dn op.toInt la.toInt sh.toInt) * (iQ (op.toInt - la.toInt))))) := hD
    rw [show ((o_pw E C dn op.toInt la.toInt sh.toInt) * (iQ (op.toInt - la.toInt))) = (o_du E C dn op.toInt la.toInt sh.toInt) from rfl] at hP hD
    have hP : va_P (dC, dI) vwCl ((owG  a (.ref b_17) (.ref b_27) (.ref b_38) (.ref b_58) .null .null 0) ++ (shQ  b_17 (Rat.divInt E dn)) ++ (shQ  b_27 (Rat.divInt C dn)) ++ (shQ  b_38 (o_re E C dn)) ++ (shQ  b_58 (o_pw E C dn op.toInt la.toInt sh.toInt)) ++ (shQ  b_104 (o_du E C dn op.toInt la.toInt sh.toInt))) H := hP
    have hD : va_D A ((owG  a (.ref b_17) (.ref b_27) (.ref b_38) (.ref b_58) .null .null 0) ++ (shQ  b_17 (Rat.divInt E dn)) ++ (shQ  b_27 (Rat.divInt C dn)) ++ (shQ  b_38 (o_re E C dn)) ++ (shQ  b_58 (o_pw E C dn op.toInt la.toInt sh.toInt)) ++ (shQ  b_104 (o_du E C dn op.toInt la.toInt sh.toInt))) := hD
    refine va_putF (D := (dC, dI)) (ci := 1) (v := .ref b_104) (ty := .object "SharedFault$Share") (C := RX1) (T := TX1) (N := 7) hx hb hT hiX1 tyX1 tyX1_ok nmX1 hown hK hP hD hS 0 rfl rfl 4 (by decide) (hT _ kf_X1_38) (fun _ h9 => h9) rfl hin rfl (by decide +kernel) rfl rfl (Nat.le_of_ble_eq_true rfl) dX1_init_107 (fun H locs hP hD hS => ?_)
    have hP : va_P (dC, dI) vwCl ((owG  a (.ref b_17) (.ref b_27) (.ref b_38) (.ref b_58) (.ref b_104) .null 0) ++ (shQ  b_17 (Rat.divInt E dn)) ++ (shQ  b_27 (Rat.divInt C dn)) ++ (shQ  b_38 (o_re E C dn)) ++ (shQ  b_58 (o_pw E C dn op.toInt la.toInt sh.toInt)) ++ (shQ  b_104 (o_du E C dn op.toInt la.toInt sh.toInt))) H := hP
    have hD : va_D A ((owG  a (.ref b_17) (.ref b_27) (.ref b_38) (.ref b_58) (.ref b_104) .null 0) ++ (shQ  b_17 (Rat.divInt E dn)) ++ (shQ  b_27 (Rat.divInt C dn)) ++ (shQ  b_38 (o_re E C dn)) ++ (shQ  b_58 (o_pw E C dn op.toInt la.toInt sh.toInt)) ++ (shQ  b_104 (o_du E C dn op.toInt la.toInt sh.toInt))) := hD
    refine lv_aload_n hx hb dX1_init_110 rfl (lv_at hl 1 rfl) ?_
    refine lv_aload_n hx hb dX1_init_111 rfl (lv_at hl 1 rfl) ?_
    refine va_get (D := (dC, dI)) (ci := 1) (v := .ref b_38) (C := RX1) (T := TX1) (N := 7) hx hb hT hiX1 hown hK hP 0 rfl rfl 2 (by decide) (hT _ kf_X1_28) (fun _ h9 => h9) rfl dX1_init_112 ?_
    refine lv_aload_n hx hb dX1_init_115 rfl (lv_at hl 1 rfl) ?_
    refine va_get (D := (dC, dI)) (ci := 1) (v := .ref b_104) (C := RX1) (T := TX1) (N := 7) hx hb hT hiX1 hown hK hP 0 rfl rfl 4 (by decide) (hT _ kf_X1_38) (fun _ h9 => h9) rfl dX1_init_116 ?_
    refine fN_r (rNV (As := [.ref b_104]) (rest := [.ref a]) ⟨hx, hb, hml, hown, hT⟩ (c_X2_minus (l := l) H.size (o_D dn op.toInt sh.toInt) 1000000 1000000 hre hdu hDD.1 (by omega) (by omega)) (cwTV 1 hT kc_X2_minus km_X1_41 ki_X2_minus ks_X2_minus kn_X2 rfl rfl md_X2_minus ⟨Nat.le_of_ble_eq_true rfl, Nat.le_of_ble_eq_true rfl⟩) (va_P.sub (ws' := (shQ  b_38 (o_re E C dn)) ++ (shQ  b_104 (o_du E C dn op.toInt la.toInt sh.toInt))) hP [3, 5] rfl) hK (va_recv hK hP (ci := 2) (q0 := 3) rfl rfl) rfl hl.1 rfl (Nat.le_of_ble_eq_true rfl) dX1_init_119 ⟨Nat.le_of_ble_eq_true rfl, Nat.le_of_ble_eq_true rfl⟩) hP hD hS hA (fun u_119 b_119 H locs hw_119 hP hD hS => ?_)
    have hP : va_P (dC, dI) vwCl ((owG  a (.ref b_17) (.ref b_27) (.ref b_38) (.ref b_58) (.ref b_104) .null 0) ++ (shQ  b_17 (Rat.divInt E dn)) ++ (shQ  b_27 (Rat.divInt C dn)) ++ (shQ  b_38 (o_re E C dn)) ++ (shQ  b_58 (o_pw E C dn op.toInt la.toInt sh.toInt)) ++ (shQ  b_104 (o_du E C dn op.toInt la.toInt sh.toInt)) ++ (shQ  b_119 ((o_re E C dn) - (o_du E C dn op.toInt la.toInt sh.toInt)))) H := hP
    have hD : va_D A ((owG  a (.ref b_17) (.ref b_27) (.ref b_38) (.ref b_58) (.ref b_104) .null 0) ++ (shQ  b_17 (Rat.divInt E dn)) ++ (shQ  b_27 (Rat.divInt C dn)) ++ (shQ  b_38 (o_re E C dn)) ++ (shQ  b_58 (o_pw E C dn op.toInt la.toInt sh.toInt)) ++ (shQ  b_104 (o_du E C dn op.toInt la.toInt sh.toInt)) ++ (shQ  b_119 ((o_re E C dn) - (o_du E C dn op.toInt la.toInt sh.toInt)))) := hD
    rw [show ((o_re E C dn) - (o_du E C dn op.toInt la.toInt sh.toInt)) = (o_mi E C dn op.toInt la.toInt sh.toInt) from rfl] at hP hD
    have hP : va_P (dC, dI) vwCl ((owG  a (.ref b_17) (.ref b_27) (.ref b_38) (.ref b_58) (.ref b_104) .null 0) ++ (shQ  b_17 (Rat.divInt E dn)) ++ (shQ  b_27 (Rat.divInt C dn)) ++ (shQ  b_38 (o_re E C dn)) ++ (shQ  b_58 (o_pw E C dn op.toInt la.toInt sh.toInt)) ++ (shQ  b_104 (o_du E C dn op.toInt la.toInt sh.toInt)) ++ (shQ  b_119 (o_mi E C dn op.toInt la.toInt sh.toInt))) H := hP
    have hD : va_D A ((owG  a (.ref b_17) (.ref b_27) (.ref b_38) (.ref b_58) (.ref b_104) .null 0) ++ (shQ  b_17 (Rat.divInt E dn)) ++ (shQ  b_27 (Rat.divInt C dn)) ++ (shQ  b_38 (o_re E C dn)) ++ (shQ  b_58 (o_pw E C dn op.toInt la.toInt sh.toInt)) ++ (shQ  b_104 (o_du E C dn op.toInt la.toInt sh.toInt)) ++ (shQ  b_119 (o_mi E C dn op.toInt la.toInt sh.toInt))) := hD
    refine va_putF (D := (dC, dI)) (ci := 1) (v := .ref b_119) (ty := .object "SharedFault$Share") (C := RX1) (T := TX1) (N := 7) hx hb hT hiX1 tyX1 tyX1_ok nmX1 hown hK hP hD hS 0 rfl rfl 5 (by decide) (hT _ kf_X1_45) (fun _ h9 => h9) rfl hin rfl (by decide +kernel) rfl rfl (Nat.le_of_ble_eq_true rfl) dX1_init_122 (fun H locs hP hD hS => ?_)
    have hP : va_P (dC, dI) vwCl ((owG  a (.ref b_17) (.ref b_27) (.ref b_38) (.ref b_58) (.ref b_104) (.ref b_119) 0) ++ (shQ  b_17 (Rat.divInt E dn)) ++ (shQ  b_27 (Rat.divInt C dn)) ++ (shQ  b_38 (o_re E C dn)) ++ (shQ  b_58 (o_pw E C dn op.toInt la.toInt sh.toInt)) ++ (shQ  b_104 (o_du E C dn op.toInt la.toInt sh.toInt)) ++ (shQ  b_119 (o_mi E C dn op.toInt la.toInt sh.toInt))) H := hP
    have hD : va_D A ((owG  a (.ref b_17) (.ref b_27) (.ref b_38) (.ref b_58) (.ref b_104) (.ref b_119) 0) ++ (shQ  b_17 (Rat.divInt E dn)) ++ (shQ  b_27 (Rat.divInt C dn)) ++ (shQ  b_38 (o_re E C dn)) ++ (shQ  b_58 (o_pw E C dn op.toInt la.toInt sh.toInt)) ++ (shQ  b_104 (o_du E C dn op.toInt la.toInt sh.toInt)) ++ (shQ  b_119 (o_mi E C dn op.toInt la.toInt sh.toInt))) := hD
    refine lv_aload_n hx hb dX1_init_125 rfl (lv_at hl 1 rfl) ?_
    refine lv_aload_n hx hb dX1_init_126 rfl (lv_at hl 1 rfl) ?_
    refine va_get (D := (dC, dI)) (ci := 1) (v := .ref b_104) (C := RX1) (T := TX1) (N := 7) hx hb hT hiX1 hown hK hP 0 rfl rfl 4 (by decide) (hT _ kf_X1_38) (fun _ h9 => h9) rfl dX1_init_127 ?_
    refine va_get (D := (dC, dI)) (ci := 2) (v := .long (iL ((o_du E C dn op.toInt la.toInt sh.toInt)).num)) (C := RX2) (T := TX2) (N := 2) hx hb hT hiX2 hown hK hP 5 rfl rfl 0 (by decide) (hT _ kf_X1_48) (fun _ h9 => h9) rfl dX1_init_130 ?_
    refine lv_lconst (v := iL 0) hx hb dX1_init_133 rfl ?_
    refine lc_ne (tgt := 142) hx hb dX1_init_134 dX1_init_135 (by decide) (fun c_134 => ?_) (fun c_134 => ?_)
    · have hz : ¬ o_du E C dn op.toInt la.toInt sh.toInt = 0 := fun h => c_134 (by rw [h]; rfl)
      refine lv_iload hx hb dX1_init_142 (lv_at hl 5 rfl) ?_
      refine lv_iload hx hb dX1_init_144 (lv_at hl 6 rfl) ?_
      refine lv_isub hx hb dX1_init_146 ?_
      refine lv_i2l (v := iL (op - la : Int32).toInt) hx hb dX1_init_147 rfl ?_
      refine topl_eq (y := (iL (o_fd E C dn op.toInt la.toInt sh.toInt))) (by unfold o_fd; rw [if_neg hz, e2]) ?_
      refine va_putF (D := (dC, dI)) (ci := 1) (v := .long (iL (o_fd E C dn op.toInt la.toInt sh.toInt))) (ty := .long) (C := RX1) (T := TX1) (N := 7) hx hb hT hiX1 tyX1 tyX1_ok nmX1 hown hK hP hD hS 0 rfl rfl 6 (by decide) (hT _ kf_X1_52) (fun _ h9 => h9) rfl hin rfl (by decide +kernel) rfl rfl (Nat.le_of_ble_eq_true rfl) dX1_init_148 (fun H locs hP hD hS => ?_)
      have hP : va_P (dC, dI) vwCl ((owG  a (.ref b_17) (.ref b_27) (.ref b_38) (.ref b_58) (.ref b_104) (.ref b_119) (iL (o_fd E C dn op.toInt la.toInt sh.toInt))) ++ (shQ  b_17 (Rat.divInt E dn)) ++ (shQ  b_27 (Rat.divInt C dn)) ++ (shQ  b_38 (o_re E C dn)) ++ (shQ  b_58 (o_pw E C dn op.toInt la.toInt sh.toInt)) ++ (shQ  b_104 (o_du E C dn op.toInt la.toInt sh.toInt)) ++ (shQ  b_119 (o_mi E C dn op.toInt la.toInt sh.toInt))) H := hP
      have hD : va_D A ((owG  a (.ref b_17) (.ref b_27) (.ref b_38) (.ref b_58) (.ref b_104) (.ref b_119) (iL (o_fd E C dn op.toInt la.toInt sh.toInt))) ++ (shQ  b_17 (Rat.divInt E dn)) ++ (shQ  b_27 (Rat.divInt C dn)) ++ (shQ  b_38 (o_re E C dn)) ++ (shQ  b_58 (o_pw E C dn op.toInt la.toInt sh.toInt)) ++ (shQ  b_104 (o_du E C dn op.toInt la.toInt sh.toInt)) ++ (shQ  b_119 (o_mi E C dn op.toInt la.toInt sh.toInt))) := hD
      exact retM_v (S := Nat × Nat × Nat × Nat × Nat × Nat) (post := fun _ => True) (w2 := fun u => oW a u E C dn op.toInt la.toInt sh.toInt) (b_17, b_27, b_38, b_58, b_104, b_119) hx hb hr hlocks trivial hP hK hD hS dX1_init_151
    · have hz : o_du E C dn op.toInt la.toInt sh.toInt = 0 := Rat.num_eq_zero.mp ((iL_eq (by have := bd_num_le hDD.1 hdu; unfold rng; omega) rng_0).mp c_134)
      refine lv_lconst (v := iL 1) hx hb dX1_init_138 rfl ?_
      refine topl_eq (y := (iL (o_fd E C dn op.toInt la.toInt sh.toInt))) (by unfold o_fd; rw [if_pos hz]) ?_
      refine lv_goto (tgt := 148) hx hb dX1_init_139 (by decide) ?_
      refine va_putF (D := (dC, dI)) (ci := 1) (v := .long (iL (o_fd E C dn op.toInt la.toInt sh.toInt))) (ty := .long) (C := RX1) (T := TX1) (N := 7) hx hb hT hiX1 tyX1 tyX1_ok nmX1 hown hK hP hD hS 0 rfl rfl 6 (by decide) (hT _ kf_X1_52) (fun _ h9 => h9) rfl hin rfl (by decide +kernel) rfl rfl (Nat.le_of_ble_eq_true rfl) dX1_init_148 (fun H locs hP hD hS => ?_)
      have hP : va_P (dC, dI) vwCl ((owG  a (.ref b_17) (.ref b_27) (.ref b_38) (.ref b_58) (.ref b_104) (.ref b_119) (iL (o_fd E C dn op.toInt la.toInt sh.toInt))) ++ (shQ  b_17 (Rat.divInt E dn)) ++ (shQ  b_27 (Rat.divInt C dn)) ++ (shQ  b_38 (o_re E C dn)) ++ (shQ  b_58 (o_pw E C dn op.toInt la.toInt sh.toInt)) ++ (shQ  b_104 (o_du E C dn op.toInt la.toInt sh.toInt)) ++ (shQ  b_119 (o_mi E C dn op.toInt la.toInt sh.toInt))) H := hP
      have hD : va_D A ((owG  a (.ref b_17) (.ref b_27) (.ref b_38) (.ref b_58) (.ref b_104) (.ref b_119) (iL (o_fd E C dn op.toInt la.toInt sh.toInt))) ++ (shQ  b_17 (Rat.divInt E dn)) ++ (shQ  b_27 (Rat.divInt C dn)) ++ (shQ  b_38 (o_re E C dn)) ++ (shQ  b_58 (o_pw E C dn op.toInt la.toInt sh.toInt)) ++ (shQ  b_104 (o_du E C dn op.toInt la.toInt sh.toInt)) ++ (shQ  b_119 (o_mi E C dn op.toInt la.toInt sh.toInt))) := hD
      exact retM_v (S := Nat × Nat × Nat × Nat × Nat × Nat) (post := fun _ => True) (w2 := fun u => oW a u E C dn op.toInt la.toInt sh.toInt) (b_17, b_27, b_38, b_58, b_104, b_119) hx hb hr hlocks trivial hP hK hD hS dX1_init_151
end
section
variable {l : Launch} {dC : Nat → ClassId} {dI : Nat → Nat → Nat} {cI cJ cZ : ClassId}
variable {q : Nat → Nat} {ln cw ic bs ss : Int32} {se we un sf pa : Nat → Int32}
variable {ct : Int32} {ov gf : Nat → Int64} {gi ta : Nat → Int32}
variable {k : Nat → Nat} {up lo : Int64} {cn tm : Int32} {isI br ma : Nat → Int32} {aU aL uU uL oU oL gU gL : Nat → Int64}
set_option maxHeartbeats 4000000 in
set_option maxRecDepth 100000 in
theorem c_X3_owedIf (sz : Nat) (mn sp st br0 : Int32) (hok : x_ok ln cw ic se we un sf mn sp st br0) : Met l yX3_owedIf (wT yX3_owedIf cX3_owedIf 9 (some (.object "SharedFault$Owed"))) ({ frames := 5, cells := 7, slots := 19, locals := 119 }) (pN (dC, dI) (ty3 cI cJ cZ) (xW cI q ln cw ic bs ss se we un sf pa) [.ref (q 0), .int mn, .int sp, .int st, .int br0] sz) (va_Qr (S := Nat × Nat × Nat × Nat × Nat × Nat) (fun _ => True) (fun u b9 t9 => bM (dC, dI) (ty3 cI cJ cZ) (fun q : Nat => sz ≤ q) (oW b9 u (x_E ln cw ic se we) (x_C ln cw ic we un sf mn st) (x_dn cw ic we) ((x_op ic we st).toInt) ((x_la ic we un st br0).toInt) ((x_sh cw ic we un sp st br0).toInt)) t9) (fun q : Nat => sz ≤ q)) 7 19 (fun q : Nat => sz ≤ q) := by
  refine Met.ofW (cc := cX3_owedIf) (maxL := 9) (ret := (some (.object "SharedFault$Owed"))) (by decide) rfl ?_
  intro p e s m args below meth c s₁ B hml hv
  obtain ⟨rfl, hsz, hP0, hK⟩ := hv
  have hx := B.exec
  have hb := B.bytes
  have hr := B.returns
  have hts := atoms_spec (ws := wT yX3_owedIf cX3_owedIf 9 (some (.object "SharedFault$Owed"))) B.pre
  have hT := wT_T hts
  have hown : s.vm.findClass RX3 = some m.cls := findClass_of_methodNamed B.named
  have hlocks := B.notSynchronized
  subst hsz
  have hA : ∀ q : Nat, s.heap.size ≤ q → (fun q : Nat => s.heap.size ≤ q) q := fun q h => h
  have hS : va_S (fun q : Nat => s.heap.size ≤ q) s.heap s.heap [] := va_S.rf
  have hP : va_P (dC, dI) vwCl [] s.heap := nilP
  have hD : va_D (fun q : Nat => s.heap.size ≤ q) [] := nilD
  have hl := lv_entry ([.ref (q 0), .int mn, .int sp, .int st, .int br0]) (n := 9) (Nat.le_of_ble_eq_true rfl)
  rw [lg_entry_eq]
  generalize (lg_sl ([.ref (q 0), .int mn, .int sp, .int st, .int br0]) ++ List.replicate (9 - (lg_sl ([.ref (q 0), .int mn, .int sp, .int st, .int br0])).length) Slot.unset).toArray = ls at hl ⊢
  have hl : lv_has ls 9 [(0, .ref (q 0)), (1, .int mn), (2, .int sp), (3, .int st), (4, .int br0)] := hl
  refine lv_aload_n hx hb dX3_owedIf_0 rfl (lv_at hl 0 rfl) ?_
  refine va_get (D := (dC, dI)) (ci := 3) (v := .int ic) (C := RX3) (T := TX3) (N := 11) hx hb hT hiX3 hown hK (keepP hP0 hS) 0 rfl rfl 3 (by decide) (hT _ kf_X3_46) (fun _ h9 => h9) rfl dX3_owedIf_1 ?_
  refine lv_iload_n hx hb dX3_owedIf_4 rfl (lv_at hl 3 rfl) ?_
  refine lv_iconst (v := (-1)) hx hb dX3_owedIf_5 (by decide) ?_
  refine lv_ixor hx hb dX3_owedIf_6 ?_
  refine lv_iand hx hb dX3_owedIf_7 ?_
  refine lv_aload_n hx hb dX3_owedIf_8 rfl (lv_at hl 0 rfl) ?_
  refine va_get (D := (dC, dI)) (ci := 3) (v := .ref (q 2)) (C := RX3) (T := TX3) (N := 11) hx hb hT hiX3 hown hK (keepP hP0 hS) 0 rfl rfl 6 (by decide) (hT _ kf_X3_15) (fun _ h9 => h9) rfl dX3_owedIf_9 ?_
  refine vp_callSi (rRS (As := [.int (ic &&& (st ^^^ (-1))), .ref (q 2)]) (rest := []) ⟨hx, hb, hml, hown, hT⟩ (c_X3_sumOver (l := l) (ic &&& (st ^^^ (-1)))) (cwTS 2 hT kc_X3_sumOver km_X3_82 kt_X3_sumOver kn_X3 rfl rfl md_X3_sumOver ⟨Nat.le_of_ble_eq_true rfl, Nat.le_of_ble_eq_true rfl⟩) (va_P.sub (ws' := aW cI (q 2) we) (keepP hP0 hS) [2] rfl) hK  rfl hl.1 rfl (Nat.le_of_ble_eq_true rfl) dX3_owedIf_12 ⟨Nat.le_of_ble_eq_true rfl, Nat.le_of_ble_eq_true rfl⟩) (fun r_12 hw_12 => ?_)
  subst hw_12
  refine topi_eq (y := (x_op ic we st)) rfl ?_
  refine lv_istore (lv' := [(5, .int (x_op ic we st)), (0, .ref (q 0)), (1, .int mn), (2, .int sp), (3, .int st), (4, .int br0)]) hx hb dX3_owedIf_15 hl (by decide) rfl (fun ls hl => ?_)
  refine lv_aload_n hx hb dX3_owedIf_17 rfl (lv_at hl 1 rfl) ?_
  refine lv_iload_n hx hb dX3_owedIf_18 rfl (lv_at hl 4 rfl) ?_
  refine lv_iload hx hb dX3_owedIf_19 (lv_at hl 5 rfl) ?_
  refine vp_callSi (rRV (As := [.int st, .int br0]) (rest := []) ⟨hx, hb, hml, hown, hT⟩ (c_X3_openBroke (l := l) st br0) (cwTV 2 hT kc_X3_openBroke km_X3_207 ki_X3_openBroke ks_X3_openBroke kn_X3 rfl rfl md_X3_openBroke ⟨Nat.le_of_ble_eq_true rfl, Nat.le_of_ble_eq_true rfl⟩) (keepP hP0 hS) hK (va_recv hK (keepP hP0 hS) (ci := 3) (q0 := 0) rfl rfl) rfl hl.1 rfl (Nat.le_of_ble_eq_true rfl) dX3_owedIf_21 ⟨Nat.le_of_ble_eq_true rfl, Nat.le_of_ble_eq_true rfl⟩) (fun r_21 hw_21 => ?_)
  subst hw_21
  refine lv_aload_n hx hb dX3_owedIf_24 rfl (lv_at hl 1 rfl) ?_
  refine va_get (D := (dC, dI)) (ci := 3) (v := .ref (q 2)) (C := RX3) (T := TX3) (N := 11) hx hb hT hiX3 hown hK (keepP hP0 hS) 0 rfl rfl 6 (by decide) (hT _ kf_X3_15) (fun _ h9 => h9) rfl dX3_owedIf_25 ?_
  refine vp_callSi (rRS (As := [.int (x_obN ic un st br0 6), .ref (q 2)]) (rest := []) ⟨hx, hb, hml, hown, hT⟩ (c_X3_sumOver (l := l) (x_obN ic un st br0 6)) (cwTS 2 hT kc_X3_sumOver km_X3_82 kt_X3_sumOver kn_X3 rfl rfl md_X3_sumOver ⟨Nat.le_of_ble_eq_true rfl, Nat.le_of_ble_eq_true rfl⟩) (va_P.sub (ws' := aW cI (q 2) we) (keepP hP0 hS) [2] rfl) hK  rfl hl.1 rfl (Nat.le_of_ble_eq_true rfl) dX3_owedIf_28 ⟨Nat.le_of_ble_eq_true rfl, Nat.le_of_ble_eq_true rfl⟩) (fun r_28 hw_28 => ?_)
  subst hw_28
  refine topi_eq (y := (x_la ic we un st br0)) rfl ?_
  refine lv_istore (lv' := [(6, .int (x_la ic we un st br0)), (5, .int (x_op ic we st)), (0, .ref (q 0)), (1, .int mn), (2, .int sp), (3, .int st), (4, .int br0)]) hx hb dX3_owedIf_31 hl (by decide) rfl (fun ls hl => ?_)
  refine lv_iconst (v := 0) hx hb dX3_owedIf_33 (by decide) ?_
  refine lv_istore (lv' := [(7, .int 0), (6, .int (x_la ic we un st br0)), (5, .int (x_op ic we st)), (0, .ref (q 0)), (1, .int mn), (2, .int sp), (3, .int st), (4, .int br0)]) hx hb dX3_owedIf_34 hl (by decide) rfl (fun ls hl => ?_)
  refine lv_iload_n hx hb dX3_owedIf_36 rfl (lv_at hl 5 rfl) ?_
  refine lv_if_ne (tgt := 50) hx hb dX3_owedIf_37 (by decide) (fun c_37 => ?_) (fun c_37 => ?_)
  · refine lv_iload_n hx hb dX3_owedIf_50 rfl (lv_at hl 5 rfl) ?_
    refine lv_iconst (v := 1) hx hb dX3_owedIf_51 (by decide) ?_
    refine lv_icmp_ne (tgt := 67) hx hb dX3_owedIf_52 (by decide) (fun c_52 => ?_) (fun c_52 => ?_)
    · refine lv_aload_n hx hb dX3_owedIf_67 rfl (lv_at hl 3 rfl) ?_
      refine vp_callSi (rRV (As := []) (rest := []) ⟨hx, hb, hml, hown, hT⟩ (c_X3_blameDown (l := l) ) (cwTV 0 hT kc_X3_blameDown km_X3_126 ki_X3_blameDown ks_X3_blameDown kn_X3 rfl rfl md_X3_blameDown ⟨Nat.le_of_ble_eq_true rfl, Nat.le_of_ble_eq_true rfl⟩) (keepP hP0 hS) hK (va_recv hK (keepP hP0 hS) (ci := 3) (q0 := 0) rfl rfl) rfl hl.1 rfl (Nat.le_of_ble_eq_true rfl) dX3_owedIf_68 ⟨Nat.le_of_ble_eq_true rfl, Nat.le_of_ble_eq_true rfl⟩) (fun r_68 hw_68 => ?_)
      subst hw_68
      refine lv_istore (lv' := [(8, .int (x_bd cw ic we)), (7, .int 0), (6, .int (x_la ic we un st br0)), (5, .int (x_op ic we st)), (0, .ref (q 0)), (1, .int mn), (2, .int sp), (3, .int st), (4, .int br0)]) hx hb dX3_owedIf_71 hl (by decide) rfl (fun ls hl => ?_)
      refine va_new (ci := 1) (fs := [.null, .null, .null, .null, .null, .null, .long 0]) (C := RX1) (T := TX1) (N := 7) hx hb hT hiX1 tyX1 tyX1_ok hown (hT _ kcl_X3_103) (hT _ kin_X1) (hT _ kn_X1) hK hP hD hS hA rfl (fun j hj => by rcases (show j = 0 ∨ j = 1 ∨ j = 2 ∨ j = 3 ∨ j = 4 ∨ j = 5 ∨ j = 6 by omega) with rfl | rfl | rfl | rfl | rfl | rfl | rfl <;> rfl) (Nat.le_of_ble_eq_true rfl) (Nat.le_of_ble_eq_true rfl) dX3_owedIf_73 (fun q73 H hP hD hS => ?_)
      have hP : va_P (dC, dI) vwCl (owG  q73 .null .null .null .null .null .null 0) H := hP
      have hD : va_D (fun q : Nat => s.heap.size ≤ q) (owG  q73 .null .null .null .null .null .null 0) := hD
      refine lv_dup hx hb dX3_owedIf_76 rfl ?_
      refine lv_aload_n hx hb dX3_owedIf_77 rfl (lv_at hl 4 rfl) ?_
      refine vp_callSl (rRV (As := []) (rest := [.ref q73, .ref q73]) ⟨hx, hb, hml, hown, hT⟩ (c_X3_entitledUp (l := l) ) (cwTV 0 hT kc_X3_entitledUp km_X3_221 ki_X3_entitledUp ks_X3_entitledUp kn_X3 rfl rfl md_X3_entitledUp ⟨Nat.le_of_ble_eq_true rfl, Nat.le_of_ble_eq_true rfl⟩) (keepP hP0 hS) hK (va_recv hK (keepP hP0 hS) (ci := 3) (q0 := 0) rfl rfl) rfl hl.1 rfl (Nat.le_of_ble_eq_true rfl) dX3_owedIf_78 ⟨Nat.le_of_ble_eq_true rfl, Nat.le_of_ble_eq_true rfl⟩) (fun r_78 hw_78 => ?_)
      subst hw_78
      refine topl_eq (y := (iL (x_E ln cw ic se we))) (iL_of _) ?_
      refine lv_aload_n hx hb dX3_owedIf_81 rfl (lv_at hl 4 rfl) ?_
      refine lv_iload_n hx hb dX3_owedIf_82 rfl (lv_at hl 5 rfl) ?_
      refine lv_iload_n hx hb dX3_owedIf_83 rfl (lv_at hl 7 rfl) ?_
      refine lv_iload hx hb dX3_owedIf_84 (lv_at hl 0 rfl) ?_
      refine vp_callSl (rRV (As := [.int mn, .int st, .int (x_bd cw ic we)]) (rest := [.long (iL (x_E ln cw ic se we)), .ref q73, .ref q73]) ⟨hx, hb, hml, hown, hT⟩ (c_X3_creditsUp (l := l) mn st (x_bd cw ic we)) (cwTV 3 hT kc_X3_creditsUp km_X3_225 ki_X3_creditsUp ks_X3_creditsUp kn_X3 rfl rfl md_X3_creditsUp ⟨Nat.le_of_ble_eq_true rfl, Nat.le_of_ble_eq_true rfl⟩) (keepP hP0 hS) hK (va_recv hK (keepP hP0 hS) (ci := 3) (q0 := 0) rfl rfl) rfl hl.1 rfl (Nat.le_of_ble_eq_true rfl) dX3_owedIf_86 ⟨Nat.le_of_ble_eq_true rfl, Nat.le_of_ble_eq_true rfl⟩) (fun r_86 hw_86 => ?_)
      subst hw_86
      refine topl_eq (y := (iL (x_C ln cw ic we un sf mn st))) (iL_of _) ?_
      refine lv_iload hx hb dX3_owedIf_89 (lv_at hl 0 rfl) ?_
      refine lv_i2l (v := iL (x_bd cw ic we : Int32).toInt) hx hb dX3_owedIf_91 rfl ?_
      refine topl_eq (y := (iL (x_dn cw ic we))) rfl ?_
      refine lv_iload hx hb dX3_owedIf_92 (lv_at hl 3 rfl) ?_
      refine lv_iload hx hb dX3_owedIf_94 (lv_at hl 2 rfl) ?_
      refine lv_iload hx hb dX3_owedIf_96 (lv_at hl 1 rfl) ?_
      refine topi_eq (y := (x_sh cw ic we un sp st br0)) (by first | rfl | (simp only [x_sh, c_37, c_52, ↓reduceIte, Bool.false_eq_true, i10])) ?_
      refine fM_v (wc := owG  q73 .null .null .null .null .null .null 0) (wr := []) (rMI (wc := owG  q73 .null .null .null .null .null .null 0) (As := [.long (iL (x_E ln cw ic se we)), .long (iL (x_C ln cw ic we un sf mn st)), .long (iL (x_dn cw ic we)), .int (x_op ic we st), .int (x_la ic we un st br0), .int (x_sh cw ic we un sp st br0)]) (rest := [.ref q73]) ⟨hx, hb, hml, hown, hT⟩ (c_X1_init (l := l) H.size (x_E ln cw ic se we) (x_C ln cw ic we un sf mn st) (x_dn cw ic we) (x_op ic we st) (x_la ic we un st br0) (x_sh cw ic we un sp st br0) hok) (cwTI 6 hT kc_X1_init km_X3_228 ki_X1_init kn_X1 rfl rfl rfl md_X1_init ⟨Nat.le_of_ble_eq_true rfl, Nat.le_of_ble_eq_true rfl⟩) hP hD hK  rfl hl.1 rfl (Nat.le_of_ble_eq_true rfl) dX3_owedIf_98 ⟨Nat.le_of_ble_eq_true rfl, Nat.le_of_ble_eq_true rfl⟩) hP hD hS hA (fun u_98 H locs hw_98 hP hD hS => ?_)
      have hP : va_P (dC, dI) vwCl (oW  q73 u_98 (x_E ln cw ic se we) (x_C ln cw ic we un sf mn st) (x_dn cw ic we) ((x_op ic we st).toInt) ((x_la ic we un st br0).toInt) ((x_sh cw ic we un sp st br0).toInt)) H := hP
      have hD : va_D (fun q : Nat => s.heap.size ≤ q) (oW  q73 u_98 (x_E ln cw ic se we) (x_C ln cw ic we un sf mn st) (x_dn cw ic we) ((x_op ic we st).toInt) ((x_la ic we un st br0).toInt) ((x_sh cw ic we un sp st br0).toInt)) := hD
      exact retM_r (S := Nat × Nat × Nat × Nat × Nat × Nat) (post := fun _ => True) (w2 := fun u b9 => oW b9 u (x_E ln cw ic se we) (x_C ln cw ic we un sf mn st) (x_dn cw ic we) ((x_op ic we st).toInt) ((x_la ic we un st br0).toInt) ((x_sh cw ic we un sp st br0).toInt)) u_98 hx hb hr hlocks trivial hP hK hD hS dX3_owedIf_101
    · refine lv_iload hx hb dX3_owedIf_55 (lv_at hl 2 rfl) ?_
      refine lv_iload hx hb dX3_owedIf_57 (lv_at hl 1 rfl) ?_
      refine lv_isub hx hb dX3_owedIf_59 ?_
      refine lv_aload_n hx hb dX3_owedIf_60 rfl (lv_at hl 3 rfl) ?_
      refine va_get (D := (dC, dI)) (ci := 3) (v := .int cw) (C := RX3) (T := TX3) (N := 11) hx hb hT hiX3 hown hK (keepP hP0 hS) 0 rfl rfl 1 (by decide) (hT _ kf_X3_43) (fun _ h9 => h9) rfl dX3_owedIf_61 ?_
      refine lv_iadd hx hb dX3_owedIf_64 ?_
      refine lv_istore (lv' := [(7, .int (((x_op ic we st) - (x_la ic we un st br0)) + cw)), (6, .int (x_la ic we un st br0)), (5, .int (x_op ic we st)), (0, .ref (q 0)), (1, .int mn), (2, .int sp), (3, .int st), (4, .int br0)]) hx hb dX3_owedIf_65 hl (by decide) rfl (fun ls hl => ?_)
      refine lv_aload_n hx hb dX3_owedIf_67 rfl (lv_at hl 3 rfl) ?_
      refine vp_callSi (rRV (As := []) (rest := []) ⟨hx, hb, hml, hown, hT⟩ (c_X3_blameDown (l := l) ) (cwTV 0 hT kc_X3_blameDown km_X3_126 ki_X3_blameDown ks_X3_blameDown kn_X3 rfl rfl md_X3_blameDown ⟨Nat.le_of_ble_eq_true rfl, Nat.le_of_ble_eq_true rfl⟩) (keepP hP0 hS) hK (va_recv hK (keepP hP0 hS) (ci := 3) (q0 := 0) rfl rfl) rfl hl.1 rfl (Nat.le_of_ble_eq_true rfl) dX3_owedIf_68 ⟨Nat.le_of_ble_eq_true rfl, Nat.le_of_ble_eq_true rfl⟩) (fun r_68 hw_68 => ?_)
      subst hw_68
      refine lv_istore (lv' := [(8, .int (x_bd cw ic we)), (7, .int (((x_op ic we st) - (x_la ic we un st br0)) + cw)), (6, .int (x_la ic we un st br0)), (5, .int (x_op ic we st)), (0, .ref (q 0)), (1, .int mn), (2, .int sp), (3, .int st), (4, .int br0)]) hx hb dX3_owedIf_71 hl (by decide) rfl (fun ls hl => ?_)
      refine va_new (ci := 1) (fs := [.null, .null, .null, .null, .null, .null, .long 0]) (C := RX1) (T := TX1) (N := 7) hx hb hT hiX1 tyX1 tyX1_ok hown (hT _ kcl_X3_103) (hT _ kin_X1) (hT _ kn_X1) hK hP hD hS hA rfl (fun j hj => by rcases (show j = 0 ∨ j = 1 ∨ j = 2 ∨ j = 3 ∨ j = 4 ∨ j = 5 ∨ j = 6 by omega) with rfl | rfl | rfl | rfl | rfl | rfl | rfl <;> rfl) (Nat.le_of_ble_eq_true rfl) (Nat.le_of_ble_eq_true rfl) dX3_owedIf_73 (fun q73 H hP hD hS => ?_)
      have hP : va_P (dC, dI) vwCl (owG  q73 .null .null .null .null .null .null 0) H := hP
      have hD : va_D (fun q : Nat => s.heap.size ≤ q) (owG  q73 .null .null .null .null .null .null 0) := hD
      refine lv_dup hx hb dX3_owedIf_76 rfl ?_
      refine lv_aload_n hx hb dX3_owedIf_77 rfl (lv_at hl 4 rfl) ?_
      refine vp_callSl (rRV (As := []) (rest := [.ref q73, .ref q73]) ⟨hx, hb, hml, hown, hT⟩ (c_X3_entitledUp (l := l) ) (cwTV 0 hT kc_X3_entitledUp km_X3_221 ki_X3_entitledUp ks_X3_entitledUp kn_X3 rfl rfl md_X3_entitledUp ⟨Nat.le_of_ble_eq_true rfl, Nat.le_of_ble_eq_true rfl⟩) (keepP hP0 hS) hK (va_recv hK (keepP hP0 hS) (ci := 3) (q0 := 0) rfl rfl) rfl hl.1 rfl (Nat.le_of_ble_eq_true rfl) dX3_owedIf_78 ⟨Nat.le_of_ble_eq_true rfl, Nat.le_of_ble_eq_true rfl⟩) (fun r_78 hw_78 => ?_)
      subst hw_78
      refine topl_eq (y := (iL (x_E ln cw ic se we))) (iL_of _) ?_
      refine lv_aload_n hx hb dX3_owedIf_81 rfl (lv_at hl 4 rfl) ?_
      refine lv_iload_n hx hb dX3_owedIf_82 rfl (lv_at hl 5 rfl) ?_
      refine lv_iload_n hx hb dX3_owedIf_83 rfl (lv_at hl 7 rfl) ?_
      refine lv_iload hx hb dX3_owedIf_84 (lv_at hl 0 rfl) ?_
      refine vp_callSl (rRV (As := [.int mn, .int st, .int (x_bd cw ic we)]) (rest := [.long (iL (x_E ln cw ic se we)), .ref q73, .ref q73]) ⟨hx, hb, hml, hown, hT⟩ (c_X3_creditsUp (l := l) mn st (x_bd cw ic we)) (cwTV 3 hT kc_X3_creditsUp km_X3_225 ki_X3_creditsUp ks_X3_creditsUp kn_X3 rfl rfl md_X3_creditsUp ⟨Nat.le_of_ble_eq_true rfl, Nat.le_of_ble_eq_true rfl⟩) (keepP hP0 hS) hK (va_recv hK (keepP hP0 hS) (ci := 3) (q0 := 0) rfl rfl) rfl hl.1 rfl (Nat.le_of_ble_eq_true rfl) dX3_owedIf_86 ⟨Nat.le_of_ble_eq_true rfl, Nat.le_of_ble_eq_true rfl⟩) (fun r_86 hw_86 => ?_)
      subst hw_86
      refine topl_eq (y := (iL (x_C ln cw ic we un sf mn st))) (iL_of _) ?_
      refine lv_iload hx hb dX3_owedIf_89 (lv_at hl 0 rfl) ?_
      refine lv_i2l (v := iL (x_bd cw ic we : Int32).toInt) hx hb dX3_owedIf_91 rfl ?_
      refine topl_eq (y := (iL (x_dn cw ic we))) rfl ?_
      refine lv_iload hx hb dX3_owedIf_92 (lv_at hl 3 rfl) ?_
      refine lv_iload hx hb dX3_owedIf_94 (lv_at hl 2 rfl) ?_
      refine lv_iload hx hb dX3_owedIf_96 (lv_at hl 1 rfl) ?_
      refine topi_eq (y := (x_sh cw ic we un sp st br0)) (by first | rfl | (simp only [x_sh, c_37, c_52, ↓reduceIte, Bool.false_eq_true, i10])) ?_
      refine fM_v (wc := owG  q73 .null .null .null .null .null .null 0) (wr := []) (rMI (wc := owG  q73 .null .null .null .null .null .null 0) (As := [.long (iL (x_E ln cw ic se we)), .long (iL (x_C ln cw ic we un sf mn st)), .long (iL (x_dn cw ic we)), .int (x_op ic we st), .int (x_la ic we un st br0), .int (x_sh cw ic we un sp st br0)]) (rest := [.ref q73]) ⟨hx, hb, hml, hown, hT⟩ (c_X1_init (l := l) H.size (x_E ln cw ic se we) (x_C ln cw ic we un sf mn st) (x_dn cw ic we) (x_op ic we st) (x_la ic we un st br0) (x_sh cw ic we un sp st br0) hok) (cwTI 6 hT kc_X1_init km_X3_228 ki_X1_init kn_X1 rfl rfl rfl md_X1_init ⟨Nat.le_of_ble_eq_true rfl, Nat.le_of_ble_eq_true rfl⟩) hP hD hK  rfl hl.1 rfl (Nat.le_of_ble_eq_true rfl) dX3_owedIf_98 ⟨Nat.le_of_ble_eq_true rfl, Nat.le_of_ble_eq_true rfl⟩) hP hD hS hA (fun u_98 H locs hw_98 hP hD hS => ?_)
      have hP : va_P (dC, dI) vwCl (oW  q73 u_98 (x_E ln cw ic se we) (x_C ln cw ic we un sf mn st) (x_dn cw ic we) ((x_op ic we st).toInt) ((x_la ic we un st br0).toInt) ((x_sh cw ic we un sp st br0).toInt)) H := hP
      have hD : va_D (fun q : Nat => s.heap.size ≤ q) (oW  q73 u_98 (x_E ln cw ic se we) (x_C ln cw ic we un sf mn st) (x_dn cw ic we) ((x_op ic we st).toInt) ((x_la ic we un st br0).toInt) ((x_sh cw ic we un sp st br0).toInt)) := hD
      exact retM_r (S := Nat × Nat × Nat × Nat × Nat × Nat) (post := fun _ => True) (w2 := fun u b9 => oW b9 u (x_E ln cw ic se we) (x_C ln cw ic we un sf mn st) (x_dn cw ic we) ((x_op ic we st).toInt) ((x_la ic we un st br0).toInt) ((x_sh cw ic we un sp st br0).toInt)) u_98 hx hb hr hlocks trivial hP hK hD hS dX3_owedIf_101
  · refine lv_iload hx hb dX3_owedIf_40 (lv_at hl 2 rfl) ?_
    refine lv_iload hx hb dX3_owedIf_42 (lv_at hl 1 rfl) ?_
    refine lv_isub hx hb dX3_owedIf_44 ?_
    refine lv_istore (lv' := [(7, .int ((x_op ic we st) - (x_la ic we un st br0))), (6, .int (x_la ic we un st br0)), (5, .int (x_op ic we st)), (0, .ref (q 0)), (1, .int mn), (2, .int sp), (3, .int st), (4, .int br0)]) hx hb dX3_owedIf_45 hl (by decide) rfl (fun ls hl => ?_)
    refine lv_goto (tgt := 67) hx hb dX3_owedIf_47 (by decide) ?_
    refine lv_aload_n hx hb dX3_owedIf_67 rfl (lv_at hl 3 rfl) ?_
    refine vp_callSi (rRV (As := []) (rest := []) ⟨hx, hb, hml, hown, hT⟩ (c_X3_blameDown (l := l) ) (cwTV 0 hT kc_X3_blameDown km_X3_126 ki_X3_blameDown ks_X3_blameDown kn_X3 rfl rfl md_X3_blameDown ⟨Nat.le_of_ble_eq_true rfl, Nat.le_of_ble_eq_true rfl⟩) (keepP hP0 hS) hK (va_recv hK (keepP hP0 hS) (ci := 3) (q0 := 0) rfl rfl) rfl hl.1 rfl (Nat.le_of_ble_eq_true rfl) dX3_owedIf_68 ⟨Nat.le_of_ble_eq_true rfl, Nat.le_of_ble_eq_true rfl⟩) (fun r_68 hw_68 => ?_)
    subst hw_68
    refine lv_istore (lv' := [(8, .int (x_bd cw ic we)), (7, .int ((x_op ic we st) - (x_la ic we un st br0))), (6, .int (x_la ic we un st br0)), (5, .int (x_op ic we st)), (0, .ref (q 0)), (1, .int mn), (2, .int sp), (3, .int st), (4, .int br0)]) hx hb dX3_owedIf_71 hl (by decide) rfl (fun ls hl => ?_)
    refine va_new (ci := 1) (fs := [.null, .null, .null, .null, .null, .null, .long 0]) (C := RX1) (T := TX1) (N := 7) hx hb hT hiX1 tyX1 tyX1_ok hown (hT _ kcl_X3_103) (hT _ kin_X1) (hT _ kn_X1) hK hP hD hS hA rfl (fun j hj => by rcases (show j = 0 ∨ j = 1 ∨ j = 2 ∨ j = 3 ∨ j = 4 ∨ j = 5 ∨ j = 6 by omega) with rfl | rfl | rfl | rfl | rfl | rfl | rfl <;> rfl) (Nat.le_of_ble_eq_true rfl) (Nat.le_of_ble_eq_true rfl) dX3_owedIf_73 (fun q73 H hP hD hS => ?_)
    have hP : va_P (dC, dI) vwCl (owG  q73 .null .null .null .null .null .null 0) H := hP
    have hD : va_D (fun q : Nat => s.heap.size ≤ q) (owG  q73 .null .null .null .null .null .null 0) := hD
    refine lv_dup hx hb dX3_owedIf_76 rfl ?_
    refine lv_aload_n hx hb dX3_owedIf_77 rfl (lv_at hl 4 rfl) ?_
    refine vp_callSl (rRV (As := []) (rest := [.ref q73, .ref q73]) ⟨hx, hb, hml, hown, hT⟩ (c_X3_entitledUp (l := l) ) (cwTV 0 hT kc_X3_entitledUp km_X3_221 ki_X3_entitledUp ks_X3_entitledUp kn_X3 rfl rfl md_X3_entitledUp ⟨Nat.le_of_ble_eq_true rfl, Nat.le_of_ble_eq_true rfl⟩) (keepP hP0 hS) hK (va_recv hK (keepP hP0 hS) (ci := 3) (q0 := 0) rfl rfl) rfl hl.1 rfl (Nat.le_of_ble_eq_true rfl) dX3_owedIf_78 ⟨Nat.le_of_ble_eq_true rfl, Nat.le_of_ble_eq_true rfl⟩) (fun r_78 hw_78 => ?_)
    subst hw_78
    refine topl_eq (y := (iL (x_E ln cw ic se we))) (iL_of _) ?_
    refine lv_aload_n hx hb dX3_owedIf_81 rfl (lv_at hl 4 rfl) ?_
    refine lv_iload_n hx hb dX3_owedIf_82 rfl (lv_at hl 5 rfl) ?_
    refine lv_iload_n hx hb dX3_owedIf_83 rfl (lv_at hl 7 rfl) ?_
    refine lv_iload hx hb dX3_owedIf_84 (lv_at hl 0 rfl) ?_
    refine vp_callSl (rRV (As := [.int mn, .int st, .int (x_bd cw ic we)]) (rest := [.long (iL (x_E ln cw ic se we)), .ref q73, .ref q73]) ⟨hx, hb, hml, hown, hT⟩ (c_X3_creditsUp (l := l) mn st (x_bd cw ic we)) (cwTV 3 hT kc_X3_creditsUp km_X3_225 ki_X3_creditsUp ks_X3_creditsUp kn_X3 rfl rfl md_X3_creditsUp ⟨Nat.le_of_ble_eq_true rfl, Nat.le_of_ble_eq_true rfl⟩) (keepP hP0 hS) hK (va_recv hK (keepP hP0 hS) (ci := 3) (q0 := 0) rfl rfl) rfl hl.1 rfl (Nat.le_of_ble_eq_true rfl) dX3_owedIf_86 ⟨Nat.le_of_ble_eq_true rfl, Nat.le_of_ble_eq_true rfl⟩) (fun r_86 hw_86 => ?_)
    subst hw_86
    refine topl_eq (y := (iL (x_C ln cw ic we un sf mn st))) (iL_of _) ?_
    refine lv_iload hx hb dX3_owedIf_89 (lv_at hl 0 rfl) ?_
    refine lv_i2l (v := iL (x_bd cw ic we : Int32).toInt) hx hb dX3_owedIf_91 rfl ?_
    refine topl_eq (y := (iL (x_dn cw ic we))) rfl ?_
    refine lv_iload hx hb dX3_owedIf_92 (lv_at hl 3 rfl) ?_
    refine lv_iload hx hb dX3_owedIf_94 (lv_at hl 2 rfl) ?_
    refine lv_iload hx hb dX3_owedIf_96 (lv_at hl 1 rfl) ?_
    refine topi_eq (y := (x_sh cw ic we un sp st br0)) (by first | rfl | (simp only [x_sh, c_37, ↓reduceIte, Bool.false_eq_true, i10])) ?_
    refine fM_v (wc := owG  q73 .null .null .null .null .null .null 0) (wr := []) (rMI (wc := owG  q73 .null .null .null .null .null .null 0) (As := [.long (iL (x_E ln cw ic se we)), .long (iL (x_C ln cw ic we un sf mn st)), .long (iL (x_dn cw ic we)), .int (x_op ic we st), .int (x_la ic we un st br0), .int (x_sh cw ic we un sp st br0)]) (rest := [.ref q73]) ⟨hx, hb, hml, hown, hT⟩ (c_X1_init (l := l) H.size (x_E ln cw ic se we) (x_C ln cw ic we un sf mn st) (x_dn cw ic we) (x_op ic we st) (x_la ic we un st br0) (x_sh cw ic we un sp st br0) hok) (cwTI 6 hT kc_X1_init km_X3_228 ki_X1_init kn_X1 rfl rfl rfl md_X1_init ⟨Nat.le_of_ble_eq_true rfl, Nat.le_of_ble_eq_true rfl⟩) hP hD hK  rfl hl.1 rfl (Nat.le_of_ble_eq_true rfl) dX3_owedIf_98 ⟨Nat.le_of_ble_eq_true rfl, Nat.le_of_ble_eq_true rfl⟩) hP hD hS hA (fun u_98 H locs hw_98 hP hD hS => ?_)
    have hP : va_P (dC, dI) vwCl (oW  q73 u_98 (x_E ln cw ic se we) (x_C ln cw ic we un sf mn st) (x_dn cw ic we) ((x_op ic we st).toInt) ((x_la ic we un st br0).toInt) ((x_sh cw ic we un sp st br0).toInt)) H := hP
    have hD : va_D (fun q : Nat => s.heap.size ≤ q) (oW  q73 u_98 (x_E ln cw ic se we) (x_C ln cw ic we un sf mn st) (x_dn cw ic we) ((x_op ic we st).toInt) ((x_la ic we un st br0).toInt) ((x_sh cw ic we un sp st br0).toInt)) := hD
    exact retM_r (S := Nat × Nat × Nat × Nat × Nat × Nat) (post := fun _ => True) (w2 := fun u b9 => oW b9 u (x_E ln cw ic se we) (x_C ln cw ic we un sf mn st) (x_dn cw ic we) ((x_op ic we st).toInt) ((x_la ic we un st br0).toInt) ((x_sh cw ic we un sp st br0).toInt)) u_98 hx hb hr hlocks trivial hP hK hD hS dX3_owedIf_101
set_option maxHeartbeats 4000000 in
set_option maxRecDepth 100000 in
theorem c_X3_owedNow (sz : Nat) (hok : x_ok ln cw ic se we un sf (se 0) (se 1) ss bs) : Met l yX3_owedNow (wT yX3_owedNow cX3_owedNow 1 (some (.object "SharedFault$Owed"))) ({ frames := 6, cells := 7, slots := 19, locals := 147 }) (pN (dC, dI) (ty3 cI cJ cZ) (xW cI q ln cw ic bs ss se we un sf pa) [.ref (q 0)] sz) (va_Qr (S := Nat × Nat × Nat × Nat × Nat × Nat) (fun _ => True) (fun u b9 t9 => bM (dC, dI) (ty3 cI cJ cZ) (fun q : Nat => sz ≤ q) (oW b9 u (x_E ln cw ic se we) (x_C ln cw ic we un sf (se 0) ss) (x_dn cw ic we) ((x_op ic we ss).toInt) ((x_la ic we un ss bs).toInt) ((x_sh cw ic we un (se 1) ss bs).toInt)) t9) (fun q : Nat => sz ≤ q)) 7 19 (fun q : Nat => sz ≤ q) := by
  refine Met.ofW (cc := cX3_owedNow) (maxL := 1) (ret := (some (.object "SharedFault$Owed"))) (by decide) rfl ?_
  intro p e s m args below meth c s₁ B hml hv
  obtain ⟨rfl, hsz, hP0, hK⟩ := hv
  have hx := B.exec
  have hb := B.bytes
  have hr := B.returns
  have hts := atoms_spec (ws := wT yX3_owedNow cX3_owedNow 1 (some (.object "SharedFault$Owed"))) B.pre
  have hT := wT_T hts
  have hown : s.vm.findClass RX3 = some m.cls := findClass_of_methodNamed B.named
  have hlocks := B.notSynchronized
  subst hsz
  have hA : ∀ q : Nat, s.heap.size ≤ q → (fun q : Nat => s.heap.size ≤ q) q := fun q h => h
  have hS : va_S (fun q : Nat => s.heap.size ≤ q) s.heap s.heap [] := va_S.rf
  have hP : va_P (dC, dI) vwCl [] s.heap := nilP
  have hD : va_D (fun q : Nat => s.heap.size ≤ q) [] := nilD
  have hl := lv_entry ([.ref (q 0)]) (n := 1) (Nat.le_of_ble_eq_true rfl)
  rw [lg_entry_eq]
  generalize (lg_sl ([.ref (q 0)]) ++ List.replicate (1 - (lg_sl ([.ref (q 0)])).length) Slot.unset).toArray = ls at hl ⊢
  have hl : lv_has ls 1 [(0, .ref (q 0))] := hl
  refine lv_aload_n hx hb dX3_owedNow_0 rfl (lv_at hl 0 rfl) ?_
  refine lv_aload_n hx hb dX3_owedNow_1 rfl (lv_at hl 0 rfl) ?_
  refine va_get (D := (dC, dI)) (ci := 3) (v := .ref (q 1)) (C := RX3) (T := TX3) (N := 11) hx hb hT hiX3 hown hK (keepP hP0 hS) 0 rfl rfl 2 (by decide) (hT _ kf_X3_9) (fun _ h9 => h9) rfl dX3_owedNow_2 ?_
  refine lv_iconst (v := 0) hx hb dX3_owedNow_5 (by decide) ?_
  refine ald_i hx hb hK (keepP hP0 hS) 1 0 rfl rfl (by decide) (w := 0) rfl (by decide) dX3_owedNow_6 ?_
  refine lv_aload_n hx hb dX3_owedNow_7 rfl (lv_at hl 0 rfl) ?_
  refine va_get (D := (dC, dI)) (ci := 3) (v := .ref (q 1)) (C := RX3) (T := TX3) (N := 11) hx hb hT hiX3 hown hK (keepP hP0 hS) 0 rfl rfl 2 (by decide) (hT _ kf_X3_9) (fun _ h9 => h9) rfl dX3_owedNow_8 ?_
  refine lv_iconst (v := 1) hx hb dX3_owedNow_11 (by decide) ?_
  refine ald_i hx hb hK (keepP hP0 hS) 1 0 rfl rfl (by decide) (w := 1) rfl (by decide) dX3_owedNow_12 ?_
  refine lv_aload_n hx hb dX3_owedNow_13 rfl (lv_at hl 0 rfl) ?_
  refine va_get (D := (dC, dI)) (ci := 3) (v := .int ss) (C := RX3) (T := TX3) (N := 11) hx hb hT hiX3 hown hK (keepP hP0 hS) 0 rfl rfl 5 (by decide) (hT _ kf_X3_79) (fun _ h9 => h9) rfl dX3_owedNow_14 ?_
  refine lv_aload_n hx hb dX3_owedNow_17 rfl (lv_at hl 0 rfl) ?_
  refine va_get (D := (dC, dI)) (ci := 3) (v := .int bs) (C := RX3) (T := TX3) (N := 11) hx hb hT hiX3 hown hK (keepP hP0 hS) 0 rfl rfl 4 (by decide) (hT _ kf_X3_68) (fun _ h9 => h9) rfl dX3_owedNow_18 ?_
  refine fN_r (rNV (As := [.int (se 0), .int (se 1), .int ss, .int bs]) (rest := []) ⟨hx, hb, hml, hown, hT⟩ (c_X3_owedIf (l := l) s.heap.size (se 0) (se 1) ss bs hok) (cwTV 4 hT kc_X3_owedIf km_X3_164 ki_X3_owedIf ks_X3_owedIf kn_X3 rfl rfl md_X3_owedIf ⟨Nat.le_of_ble_eq_true rfl, Nat.le_of_ble_eq_true rfl⟩) (keepP hP0 hS) hK (va_recv hK (keepP hP0 hS) (ci := 3) (q0 := 0) rfl rfl) rfl hl.1 rfl (Nat.le_of_ble_eq_true rfl) dX3_owedNow_21 ⟨Nat.le_of_ble_eq_true rfl, Nat.le_of_ble_eq_true rfl⟩) hP hD hS hA (fun u_21 b_21 H locs hw_21 hP hD hS => ?_)
  have hP : va_P (dC, dI) vwCl (oW  b_21 u_21 (x_E ln cw ic se we) (x_C ln cw ic we un sf (se 0) ss) (x_dn cw ic we) ((x_op ic we ss).toInt) ((x_la ic we un ss bs).toInt) ((x_sh cw ic we un (se 1) ss bs).toInt)) H := hP
  have hD : va_D (fun q : Nat => s.heap.size ≤ q) (oW  b_21 u_21 (x_E ln cw ic se we) (x_C ln cw ic we un sf (se 0) ss) (x_dn cw ic we) ((x_op ic we ss).toInt) ((x_la ic we un ss bs).toInt) ((x_sh cw ic we un (se 1) ss bs).toInt)) := hD
  exact retM_r (S := Nat × Nat × Nat × Nat × Nat × Nat) (post := fun _ => True) (w2 := fun u b9 => oW b9 u (x_E ln cw ic se we) (x_C ln cw ic we un sf (se 0) ss) (x_dn cw ic we) ((x_op ic we ss).toInt) ((x_la ic we un ss bs).toInt) ((x_sh cw ic we un (se 1) ss bs).toInt)) u_21 hx hb hr hlocks trivial hP hK hD hS dX3_owedNow_24
set_option maxHeartbeats 4000000 in
set_option maxRecDepth 100000 in
theorem c_X3_gotBy (sz : Nat) (mn sp : Int32) (hok : x_ok ln cw ic se we un sf mn sp ss bs) (hs : 0 ≤ (x_sumN (x_headsN ic un 6 &&& ss) sf 6).toInt ∧ (x_sumN (x_headsN ic un 6 &&& ss) sf 6).toInt ≤ 6000000) : Met l yX3_gotBy (wT yX3_gotBy cX3_gotBy 4 (some (.object "SharedFault$Share"))) ({ frames := 6, cells := 8, slots := 21, locals := 147 }) (pN (dC, dI) (ty3 cI cJ cZ) (xW cI q ln cw ic bs ss se we un sf pa) [.ref (q 0), .int mn, .int sp] sz) (va_Qr (S := Unit) (fun _ => True) (fun u b9 t9 => bM (dC, dI) (ty3 cI cJ cZ) (fun q : Nat => sz ≤ q) (shQ b9 (o_du (x_E ln cw ic se we) (x_C ln cw ic we un sf mn ss) (x_dn cw ic we) ((x_op ic we ss).toInt) ((x_la ic we un ss bs).toInt) ((x_sh cw ic we un sp ss bs).toInt) + iQ (x_sumN (x_headsN ic un 6 &&& ss) sf 6).toInt)) t9) (fun q : Nat => sz ≤ q)) 8 21 (fun q : Nat => sz ≤ q) := by
  refine Met.ofW (cc := cX3_gotBy) (maxL := 4) (ret := (some (.object "SharedFault$Share"))) (by decide) rfl ?_
  intro p e s m args below meth c s₁ B hml hv
  obtain ⟨rfl, hsz, hP0, hK⟩ := hv
  have hx := B.exec
  have hb := B.bytes
  have hr := B.returns
  have hts := atoms_spec (ws := wT yX3_gotBy cX3_gotBy 4 (some (.object "SharedFault$Share"))) B.pre
  have hT := wT_T hts
  have hown : s.vm.findClass RX3 = some m.cls := findClass_of_methodNamed B.named
  have hlocks := B.notSynchronized
  subst hsz
  have hA : ∀ q : Nat, s.heap.size ≤ q → (fun q : Nat => s.heap.size ≤ q) q := fun q h => h
  have hS : va_S (fun q : Nat => s.heap.size ≤ q) s.heap s.heap [] := va_S.rf
  have hP : va_P (dC, dI) vwCl [] s.heap := nilP
  have hD : va_D (fun q : Nat => s.heap.size ≤ q) [] := nilD
  have hl := lv_entry ([.ref (q 0), .int mn, .int sp]) (n := 4) (Nat.le_of_ble_eq_true rfl)
  rw [lg_entry_eq]
  generalize (lg_sl ([.ref (q 0), .int mn, .int sp]) ++ List.replicate (4 - (lg_sl ([.ref (q 0), .int mn, .int sp])).length) Slot.unset).toArray = ls at hl ⊢
  have hl : lv_has ls 4 [(0, .ref (q 0)), (1, .int mn), (2, .int sp)] := hl
  refine lv_aload_n hx hb dX3_gotBy_0 rfl (lv_at hl 0 rfl) ?_
  refine lv_iload_n hx hb dX3_gotBy_1 rfl (lv_at hl 1 rfl) ?_
  refine lv_iload_n hx hb dX3_gotBy_2 rfl (lv_at hl 2 rfl) ?_
  refine lv_aload_n hx hb dX3_gotBy_3 rfl (lv_at hl 0 rfl) ?_
  refine va_get (D := (dC, dI)) (ci := 3) (v := .int ss) (C := RX3) (T := TX3) (N := 11) hx hb hT hiX3 hown hK (keepP hP0 hS) 0 rfl rfl 5 (by decide) (hT _ kf_X3_79) (fun _ h9 => h9) rfl dX3_gotBy_4 ?_
  refine lv_aload_n hx hb dX3_gotBy_7 rfl (lv_at hl 0 rfl) ?_
  refine va_get (D := (dC, dI)) (ci := 3) (v := .int bs) (C := RX3) (T := TX3) (N := 11) hx hb hT hiX3 hown hK (keepP hP0 hS) 0 rfl rfl 4 (by decide) (hT _ kf_X3_68) (fun _ h9 => h9) rfl dX3_gotBy_8 ?_
  refine fN_r (rNV (As := [.int mn, .int sp, .int ss, .int bs]) (rest := []) ⟨hx, hb, hml, hown, hT⟩ (c_X3_owedIf (l := l) s.heap.size mn sp ss bs hok) (cwTV 4 hT kc_X3_owedIf km_X3_164 ki_X3_owedIf ks_X3_owedIf kn_X3 rfl rfl md_X3_owedIf ⟨Nat.le_of_ble_eq_true rfl, Nat.le_of_ble_eq_true rfl⟩) (keepP hP0 hS) hK (va_recv hK (keepP hP0 hS) (ci := 3) (q0 := 0) rfl rfl) rfl hl.1 rfl (Nat.le_of_ble_eq_true rfl) dX3_gotBy_11 ⟨Nat.le_of_ble_eq_true rfl, Nat.le_of_ble_eq_true rfl⟩) hP hD hS hA (fun u_11 b_11 H locs hw_11 hP hD hS => ?_)
  have hP : va_P (dC, dI) vwCl (oW  b_11 u_11 (x_E ln cw ic se we) (x_C ln cw ic we un sf mn ss) (x_dn cw ic we) ((x_op ic we ss).toInt) ((x_la ic we un ss bs).toInt) ((x_sh cw ic we un sp ss bs).toInt)) H := hP
  have hD : va_D (fun q : Nat => s.heap.size ≤ q) (oW  b_11 u_11 (x_E ln cw ic se we) (x_C ln cw ic we un sf mn ss) (x_dn cw ic we) ((x_op ic we ss).toInt) ((x_la ic we un ss bs).toInt) ((x_sh cw ic we un sp ss bs).toInt)) := hD
  refine lv_astore_n (lv' := [(3, .ref b_11), (0, .ref (q 0)), (1, .int mn), (2, .int sp)]) hx hb dX3_gotBy_14 rfl hl (by decide) rfl (fun ls hl => ?_)
  refine lv_aload_n hx hb dX3_gotBy_15 rfl (lv_at hl 0 rfl) ?_
  refine va_get (D := (dC, dI)) (ci := 1) (v := .ref ((u_11).2.2.2.2.1)) (C := RX1) (T := TX1) (N := 7) hx hb hT hiX1 hown hK hP 0 rfl rfl 4 (by decide) (hT _ kf_X3_123) (fun _ h9 => h9) rfl dX3_gotBy_16 ?_
  refine lv_aload_n hx hb dX3_gotBy_19 rfl (lv_at hl 1 rfl) ?_
  refine vp_callSi (rRV (As := []) (rest := [.ref ((u_11).2.2.2.2.1)]) ⟨hx, hb, hml, hown, hT⟩ (c_X3_unitHeads (l := l) ) (cwTV 0 hT kc_X3_unitHeads km_X3_204 ki_X3_unitHeads ks_X3_unitHeads kn_X3 rfl rfl md_X3_unitHeads ⟨Nat.le_of_ble_eq_true rfl, Nat.le_of_ble_eq_true rfl⟩) (keepP hP0 hS) hK (va_recv hK (keepP hP0 hS) (ci := 3) (q0 := 0) rfl rfl) rfl hl.1 rfl (Nat.le_of_ble_eq_true rfl) dX3_gotBy_20 ⟨Nat.le_of_ble_eq_true rfl, Nat.le_of_ble_eq_true rfl⟩) (fun r_20 hw_20 => ?_)
  subst hw_20
  refine lv_aload_n hx hb dX3_gotBy_23 rfl (lv_at hl 1 rfl) ?_
  refine va_get (D := (dC, dI)) (ci := 3) (v := .int ss) (C := RX3) (T := TX3) (N := 11) hx hb hT hiX3 hown hK (keepP hP0 hS) 0 rfl rfl 5 (by decide) (hT _ kf_X3_79) (fun _ h9 => h9) rfl dX3_gotBy_24 ?_
  refine lv_iand hx hb dX3_gotBy_27 ?_
  refine lv_aload_n hx hb dX3_gotBy_28 rfl (lv_at hl 1 rfl) ?_
  refine va_get (D := (dC, dI)) (ci := 3) (v := .ref (q 4)) (C := RX3) (T := TX3) (N := 11) hx hb hT hiX3 hown hK (keepP hP0 hS) 0 rfl rfl 8 (by decide) (hT _ kf_X3_21) (fun _ h9 => h9) rfl dX3_gotBy_29 ?_
  refine vp_callSi (rRS (As := [.int ((x_headsN ic un 6) &&& ss), .ref (q 4)]) (rest := [.ref ((u_11).2.2.2.2.1)]) ⟨hx, hb, hml, hown, hT⟩ (c_X3_sumOver (l := l) ((x_headsN ic un 6) &&& ss)) (cwTS 2 hT kc_X3_sumOver km_X3_82 kt_X3_sumOver kn_X3 rfl rfl md_X3_sumOver ⟨Nat.le_of_ble_eq_true rfl, Nat.le_of_ble_eq_true rfl⟩) (va_P.sub (ws' := aW cI (q 4) sf) (keepP hP0 hS) [4] rfl) hK  rfl hl.1 rfl (Nat.le_of_ble_eq_true rfl) dX3_gotBy_32 ⟨Nat.le_of_ble_eq_true rfl, Nat.le_of_ble_eq_true rfl⟩) (fun r_32 hw_32 => ?_)
  subst hw_32
  refine lv_i2l (v := iL (x_sumN ((x_headsN ic un 6) &&& ss) sf 6 : Int32).toInt) hx hb dX3_gotBy_35 rfl ?_
  have hdd := o_D_bd hok
  have hdu := o_du_bd hok
  have hb1 := bd_num_le hdd.1 hdu
  have hb2 := bd_den_le hdd.1 hdu
  refine fN_r (rNV (As := [.long (iL (x_sumN ((x_headsN ic un 6) &&& ss) sf 6 : Int32).toInt)]) (rest := []) ⟨hx, hb, hml, hown, hT⟩ (c_X2_plusWhole (l := l) H.size ((x_sumN ((x_headsN ic un 6) &&& ss) sf 6 : Int32).toInt) (by have g := mul_bd hs.1 hs.2 (b := ((o_du (x_E ln cw ic se we) (x_C ln cw ic we un sf mn ss) (x_dn cw ic we) ((x_op ic we ss).toInt) ((x_la ic we un ss bs).toInt) ((x_sh cw ic we un sp ss bs).toInt)).den : Int)) (y := 294000000) (by omega) (by omega); unfold rng; omega) (by omega)) (cwTV 1 hT kc_X2_plusWhole km_X3_168 ki_X2_plusWhole ks_X2_plusWhole kn_X2 rfl rfl md_X2_plusWhole ⟨Nat.le_of_ble_eq_true rfl, Nat.le_of_ble_eq_true rfl⟩) (va_P.sub (ws' := shQ  ((u_11).2.2.2.2.1) (o_du (x_E ln cw ic se we) (x_C ln cw ic we un sf mn ss) (x_dn cw ic we) ((x_op ic we ss).toInt) ((x_la ic we un ss bs).toInt) ((x_sh cw ic we un sp ss bs).toInt))) hP [5] rfl) hK (va_recv hK hP (ci := 2) (q0 := 5) rfl rfl) rfl hl.1 rfl (Nat.le_of_ble_eq_true rfl) dX3_gotBy_36 ⟨Nat.le_of_ble_eq_true rfl, Nat.le_of_ble_eq_true rfl⟩) hP hD hS hA (fun u_36 b_36 H locs hw_36 hP hD hS => ?_)
  have hP : va_P (dC, dI) vwCl ((oW  b_11 u_11 (x_E ln cw ic se we) (x_C ln cw ic we un sf mn ss) (x_dn cw ic we) ((x_op ic we ss).toInt) ((x_la ic we un ss bs).toInt) ((x_sh cw ic we un sp ss bs).toInt)) ++ (shQ  b_36 ((o_du (x_E ln cw ic se we) (x_C ln cw ic we un sf mn ss) (x_dn cw ic we) ((x_op ic we ss).toInt) ((x_la ic we un ss bs).toInt) ((x_sh cw ic we un sp ss bs).toInt)) + (iQ ((x_sumN ((x_headsN ic un 6) &&& ss) sf 6 : Int32).toInt))))) H := hP
  have hD : va_D (fun q : Nat => s.heap.size ≤ q) ((oW  b_11 u_11 (x_E ln cw ic se we) (x_C ln cw ic we un sf mn ss) (x_dn cw ic we) ((x_op ic we ss).toInt) ((x_la ic we un ss bs).toInt) ((x_sh cw ic we un sp ss bs).toInt)) ++ (shQ  b_36 ((o_du (x_E ln cw ic se we) (x_C ln cw ic we un sf mn ss) (x_dn cw ic we) ((x_op ic we ss).toInt) ((x_la ic we un ss bs).toInt) ((x_sh cw ic we un sp ss bs).toInt)) + (iQ ((x_sumN ((x_headsN ic un 6) &&& ss) sf 6 : Int32).toInt))))) := hD
  exact retM_r (S := Unit) (post := fun _ => True) (w2 := fun u b9 => shQ b9 (o_du (x_E ln cw ic se we) (x_C ln cw ic we un sf mn ss) (x_dn cw ic we) ((x_op ic we ss).toInt) ((x_la ic we un ss bs).toInt) ((x_sh cw ic we un sp ss bs).toInt) + iQ (x_sumN (x_headsN ic un 6 &&& ss) sf 6).toInt)) () hx hb hr hlocks trivial (va_P.sub (ws' := shQ  b_36 ((o_du (x_E ln cw ic se we) (x_C ln cw ic we un sf mn ss) (x_dn cw ic we) ((x_op ic we ss).toInt) ((x_la ic we un ss bs).toInt) ((x_sh cw ic we un sp ss bs).toInt)) + (iQ ((x_sumN ((x_headsN ic un 6) &&& ss) sf 6 : Int32).toInt)))) hP [7] rfl) hK (va_D.sub (ws' := shQ  b_36 ((o_du (x_E ln cw ic se we) (x_C ln cw ic we un sf mn ss) (x_dn cw ic we) ((x_op ic we ss).toInt) ((x_la ic we un ss bs).toInt) ((x_sh cw ic we un sp ss bs).toInt)) + (iQ ((x_sumN ((x_headsN ic un 6) &&& ss) sf 6 : Int32).toInt)))) hD [7] (by decide) rfl) hS dX3_gotBy_39
end
