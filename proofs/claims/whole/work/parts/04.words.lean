def TT : List Cond := lw_tbl.filter goodWord
theorem TT_in {w : Cond} (i : Nat) (h : lw_tbl[i]? = some w) (g : goodWord w = true) : w ∈ TT := List.mem_filter.mpr ⟨List.mem_of_getElem? h, g⟩
theorem TT_good {w : Cond} (h : w ∈ TT) : (w.onTables && w.keeps) = true ∨ ∃ ty, w = .arrayClass ty := good_of_word (List.mem_filter.mp h).2
theorem TT_tbl {w : Cond} (h : w ∈ TT) : w ∈ lw_tbl := (List.mem_filter.mp h).1
theorem ks_X3_isKnown : (.selects RX3 yX3_isKnown yX3_isKnown : Cond) ∈ TT := TT_in 0 (by decide +kernel) rfl
theorem ks_X3_openUnit : (.selects RX3 yX3_openUnit yX3_openUnit : Cond) ∈ TT := TT_in 1 (by decide +kernel) rfl
theorem ks_X3_fillUnit : (.selects RX3 yX3_fillUnit yX3_fillUnit : Cond) ∈ TT := TT_in 2 (by decide +kernel) rfl
theorem ks_X3_partUnit : (.selects RX3 yX3_partUnit yX3_partUnit : Cond) ∈ TT := TT_in 3 (by decide +kernel) rfl
theorem ks_X3_isPaired : (.selects RX3 yX3_isPaired yX3_isPaired : Cond) ∈ TT := TT_in 4 (by decide +kernel) rfl
theorem ks_X3_owedNow : (.selects RX3 yX3_owedNow yX3_owedNow : Cond) ∈ TT := TT_in 5 (by decide +kernel) rfl
theorem ks_X3_owedIf : (.selects RX3 yX3_owedIf yX3_owedIf : Cond) ∈ TT := TT_in 6 (by decide +kernel) rfl
theorem ks_X3_openBroke : (.selects RX3 yX3_openBroke yX3_openBroke : Cond) ∈ TT := TT_in 7 (by decide +kernel) rfl
theorem ks_X3_blameDown : (.selects RX3 yX3_blameDown yX3_blameDown : Cond) ∈ TT := TT_in 8 (by decide +kernel) rfl
theorem ks_X3_blame : (.selects RX3 yX3_blame yX3_blame : Cond) ∈ TT := TT_in 9 (by decide +kernel) rfl
theorem ks_X3_entitledUp : (.selects RX3 yX3_entitledUp yX3_entitledUp : Cond) ∈ TT := TT_in 10 (by decide +kernel) rfl
theorem ks_X3_creditsUp : (.selects RX3 yX3_creditsUp yX3_creditsUp : Cond) ∈ TT := TT_in 11 (by decide +kernel) rfl
theorem ks_X3_unitHeads : (.selects RX3 yX3_unitHeads yX3_unitHeads : Cond) ∈ TT := TT_in 12 (by decide +kernel) rfl
theorem ks_X3_creditUp : (.selects RX3 yX3_creditUp yX3_creditUp : Cond) ∈ TT := TT_in 13 (by decide +kernel) rfl
theorem ks_X3_unitBears : (.selects RX3 yX3_unitBears yX3_unitBears : Cond) ∈ TT := TT_in 14 (by decide +kernel) rfl
theorem ks_X3_bears : (.selects RX3 yX3_bears yX3_bears : Cond) ∈ TT := TT_in 15 (by decide +kernel) rfl
theorem ks_X3_gotBy : (.selects RX3 yX3_gotBy yX3_gotBy : Cond) ∈ TT := TT_in 16 (by decide +kernel) rfl
theorem ks_X3_allPaid : (.selects RX3 yX3_allPaid yX3_allPaid : Cond) ∈ TT := TT_in 17 (by decide +kernel) rfl
theorem ks_X3_fairUp : (.selects RX3 yX3_fairUp yX3_fairUp : Cond) ∈ TT := TT_in 18 (by decide +kernel) rfl
theorem ks_X3_overUp : (.selects RX3 yX3_overUp yX3_overUp : Cond) ∈ TT := TT_in 19 (by decide +kernel) rfl
theorem ks_X3_evenOut : (.selects RX3 yX3_evenOut yX3_evenOut : Cond) ∈ TT := TT_in 20 (by decide +kernel) rfl
theorem ks_X0_give : (.selects RX0 yX0_give yX0_give : Cond) ∈ TT := TT_in 21 (by decide +kernel) rfl
theorem ks_X4_clears : (.selects RX4 yX4_clears yX4_clears : Cond) ∈ TT := TT_in 22 (by decide +kernel) rfl
theorem ks_X4_manyIn : (.selects RX4 yX4_manyIn yX4_manyIn : Cond) ∈ TT := TT_in 23 (by decide +kernel) rfl
theorem ks_X4_isThere : (.selects RX4 yX4_isThere yX4_isThere : Cond) ∈ TT := TT_in 24 (by decide +kernel) rfl
theorem ks_X4_settles : (.selects RX4 yX4_settles yX4_settles : Cond) ∈ TT := TT_in 25 (by decide +kernel) rfl
theorem ks_X4_findDues : (.selects RX4 yX4_findDues yX4_findDues : Cond) ∈ TT := TT_in 26 (by decide +kernel) rfl
theorem ks_X4_findRest : (.selects RX4 yX4_findRest yX4_findRest : Cond) ∈ TT := TT_in 27 (by decide +kernel) rfl
theorem ks_X4_findEntitled : (.selects RX4 yX4_findEntitled yX4_findEntitled : Cond) ∈ TT := TT_in 28 (by decide +kernel) rfl
theorem ks_X4_blame : (.selects RX4 yX4_blame yX4_blame : Cond) ∈ TT := TT_in 29 (by decide +kernel) rfl
theorem ks_X4_makes : (.selects RX4 yX4_makes yX4_makes : Cond) ∈ TT := TT_in 30 (by decide +kernel) rfl
theorem ks_X4_keeps : (.selects RX4 yX4_keeps yX4_keeps : Cond) ∈ TT := TT_in 31 (by decide +kernel) rfl
theorem ks_X4_isUnit : (.selects RX4 yX4_isUnit yX4_isUnit : Cond) ∈ TT := TT_in 32 (by decide +kernel) rfl
theorem ks_X4_findCredit : (.selects RX4 yX4_findCredit yX4_findCredit : Cond) ∈ TT := TT_in 33 (by decide +kernel) rfl
theorem ks_X4_unitWeight : (.selects RX4 yX4_unitWeight yX4_unitWeight : Cond) ∈ TT := TT_in 34 (by decide +kernel) rfl
theorem ks_X4_adds : (.selects RX4 yX4_adds yX4_adds : Cond) ∈ TT := TT_in 35 (by decide +kernel) rfl
theorem ks_X4_openWeight : (.selects RX4 yX4_openWeight yX4_openWeight : Cond) ∈ TT := TT_in 36 (by decide +kernel) rfl
theorem ks_X4_isUnitBroke : (.selects RX4 yX4_isUnitBroke yX4_isUnitBroke : Cond) ∈ TT := TT_in 37 (by decide +kernel) rfl
theorem ks_X4_findUnit : (.selects RX4 yX4_findUnit yX4_findUnit : Cond) ∈ TT := TT_in 38 (by decide +kernel) rfl
theorem ks_X4_multiplies : (.selects RX4 yX4_multiplies yX4_multiplies : Cond) ∈ TT := TT_in 39 (by decide +kernel) rfl
theorem ks_X4_unitOf : (.selects RX4 yX4_unitOf yX4_unitOf : Cond) ∈ TT := TT_in 40 (by decide +kernel) rfl
theorem ks_X4_told : (.selects RX4 yX4_told yX4_told : Cond) ∈ TT := TT_in 41 (by decide +kernel) rfl
theorem ks_X4_findDue : (.selects RX4 yX4_findDue yX4_findDue : Cond) ∈ TT := TT_in 42 (by decide +kernel) rfl
theorem ks_X4_findGetsBy : (.selects RX4 yX4_findGetsBy yX4_findGetsBy : Cond) ∈ TT := TT_in 43 (by decide +kernel) rfl
theorem ks_X4_findGets : (.selects RX4 yX4_findGets yX4_findGets : Cond) ∈ TT := TT_in 44 (by decide +kernel) rfl
theorem ks_X4_paidAll : (.selects RX4 yX4_paidAll yX4_paidAll : Cond) ∈ TT := TT_in 45 (by decide +kernel) rfl
theorem ks_X4_findFair : (.selects RX4 yX4_findFair yX4_findFair : Cond) ∈ TT := TT_in 46 (by decide +kernel) rfl
theorem ks_X4_findOver : (.selects RX4 yX4_findOver yX4_findOver : Cond) ∈ TT := TT_in 47 (by decide +kernel) rfl
theorem ks_X4_findTransfers : (.selects RX4 yX4_findTransfers yX4_findTransfers : Cond) ∈ TT := TT_in 48 (by decide +kernel) rfl
theorem ks_X4_firstWith : (.selects RX4 yX4_firstWith yX4_firstWith : Cond) ∈ TT := TT_in 49 (by decide +kernel) rfl
theorem ks_X4_goesOver : (.selects RX4 yX4_goesOver yX4_goesOver : Cond) ∈ TT := TT_in 50 (by decide +kernel) rfl
theorem ks_X4_manyUnits : (.selects RX4 yX4_manyUnits yX4_manyUnits : Cond) ∈ TT := TT_in 51 (by decide +kernel) rfl
theorem kn_L : (.initialized RL : Cond) ∈ TT := TT_in 52 (by decide +kernel) rfl
theorem kn_X3 : (.initialized RX3 : Cond) ∈ TT := TT_in 53 (by decide +kernel) rfl
theorem kn_X0 : (.initialized RX0 : Cond) ∈ TT := TT_in 54 (by decide +kernel) rfl
theorem kn_X4 : (.initialized RX4 : Cond) ∈ TT := TT_in 55 (by decide +kernel) rfl
theorem kn_J6 : (.initialized "java/lang/Integer" : Cond) ∈ TT := TT_in 56 (by decide +kernel) rfl
theorem kn_J9 : (.initialized "java/lang/Math" : Cond) ∈ TT := TT_in 57 (by decide +kernel) rfl
theorem kn_X1 : (.initialized RX1 : Cond) ∈ TT := TT_in 58 (by decide +kernel) rfl
theorem kn_X2 : (.initialized RX2 : Cond) ∈ TT := TT_in 59 (by decide +kernel) rfl
theorem kcl_L_7 : (.classLink RL 7 RX3 : Cond) ∈ TT := TT_in 60 (by decide +kernel) rfl
theorem kin_X3 : (.instantiable RX3 11 : Cond) ∈ TT := TT_in 61 (by decide +kernel) rfl
theorem km_L_9 : (.methodLink RL 9 yX3_init : Cond) ∈ TT := TT_in 62 (by decide +kernel) rfl
theorem ki_X3_init : (.instanceMethod yX3_init : Cond) ∈ TT := TT_in 63 (by decide +kernel) rfl
set_option maxRecDepth 20000 in
theorem kc_X3_init : (.code yX3_init cX3_init 1 none : Cond) ∈ TT := TT_in 64 rfl rfl
theorem km_X3_3 : (.methodLink RX3 3 objectInit : Cond) ∈ TT := TT_in 65 (by decide +kernel) rfl
theorem ki_obj : (.instanceMethod objectInit : Cond) ∈ TT := TT_in 66 (by decide +kernel) rfl
set_option maxRecDepth 20000 in
theorem kc_obj : (.code objectInit ⟨#[0xb1]⟩ 1 none : Cond) ∈ TT := TT_in 67 rfl rfl
theorem kcl_X3_27 : (.classLink RX3 27 RX0 : Cond) ∈ TT := TT_in 68 (by decide +kernel) rfl
theorem kin_X0 : (.instantiable RX0 5 : Cond) ∈ TT := TT_in 69 (by decide +kernel) rfl
theorem kmn_X3_29 : (.methodLinkNest RX3 29 yX0_init RX3 : Cond) ∈ lw_tbl := List.mem_of_getElem? (i := 70) (by decide +kernel)
theorem ki_X0_init : (.instanceMethod yX0_init : Cond) ∈ TT := TT_in 71 (by decide +kernel) rfl
set_option maxRecDepth 20000 in
theorem kc_X0_init : (.code yX0_init cX0_init 1 none : Cond) ∈ TT := TT_in 72 rfl rfl
theorem km_X0_3 : (.methodLink RX0 3 objectInit : Cond) ∈ TT := TT_in 73 (by decide +kernel) rfl
theorem kf_X0_9 : (.fieldLink RX0 9 "SharedFault$Flow" "overs" "[J" : Cond) ∈ TT := TT_in 74 (by decide +kernel) rfl
theorem kf_X3_231 : (.fieldLink RX3 231 "SharedFault$Flow" "overs" "[J" : Cond) ∈ TT := TT_in 75 (by decide +kernel) rfl
theorem kf_X0_15 : (.fieldLink RX0 15 "SharedFault$Flow" "givers" "[I" : Cond) ∈ TT := TT_in 76 (by decide +kernel) rfl
theorem kf_X3_194 : (.fieldLink RX3 194 "SharedFault$Flow" "givers" "[I" : Cond) ∈ TT := TT_in 77 (by decide +kernel) rfl
theorem kf_X0_19 : (.fieldLink RX0 19 "SharedFault$Flow" "takers" "[I" : Cond) ∈ TT := TT_in 78 (by decide +kernel) rfl
theorem kf_X3_197 : (.fieldLink RX3 197 "SharedFault$Flow" "takers" "[I" : Cond) ∈ TT := TT_in 79 (by decide +kernel) rfl
theorem kf_X0_22 : (.fieldLink RX0 22 "SharedFault$Flow" "gifts" "[J" : Cond) ∈ TT := TT_in 80 (by decide +kernel) rfl
theorem kf_X3_200 : (.fieldLink RX3 200 "SharedFault$Flow" "gifts" "[J" : Cond) ∈ TT := TT_in 81 (by decide +kernel) rfl
theorem kf_X0_25 : (.fieldLink RX0 25 "SharedFault$Flow" "count" "I" : Cond) ∈ TT := TT_in 82 (by decide +kernel) rfl
theorem kf_X3_188 : (.fieldLink RX3 188 "SharedFault$Flow" "count" "I" : Cond) ∈ TT := TT_in 83 (by decide +kernel) rfl
theorem ka_int : (.arrayClass .int : Cond) ∈ TT := TT_in 95 (by decide +kernel) rfl
theorem ka_long : (.arrayClass .long : Cond) ∈ TT := TT_in 96 (by decide +kernel) rfl
theorem kf_X3_39 : (.fieldLink RX3 39 "SharedFault" "lossNow" "I" : Cond) ∈ TT := TT_in 97 (by decide +kernel) rfl
theorem kf_X3_43 : (.fieldLink RX3 43 "SharedFault" "claimantWeight" "I" : Cond) ∈ TT := TT_in 98 (by decide +kernel) rfl
theorem kf_X3_9 : (.fieldLink RX3 9 "SharedFault" "settings" "[I" : Cond) ∈ TT := TT_in 99 (by decide +kernel) rfl
theorem kf_X3_46 : (.fieldLink RX3 46 "SharedFault" "inCase" "I" : Cond) ∈ TT := TT_in 100 (by decide +kernel) rfl
theorem kf_X3_68 : (.fieldLink RX3 68 "SharedFault" "brokeSet" "I" : Cond) ∈ TT := TT_in 101 (by decide +kernel) rfl
theorem kf_X3_79 : (.fieldLink RX3 79 "SharedFault" "settledSet" "I" : Cond) ∈ TT := TT_in 102 (by decide +kernel) rfl
theorem kf_X3_15 : (.fieldLink RX3 15 "SharedFault" "weights" "[I" : Cond) ∈ TT := TT_in 103 (by decide +kernel) rfl
theorem kf_X3_18 : (.fieldLink RX3 18 "SharedFault" "units" "[I" : Cond) ∈ TT := TT_in 104 (by decide +kernel) rfl
theorem kf_X3_21 : (.fieldLink RX3 21 "SharedFault" "settledFor" "[I" : Cond) ∈ TT := TT_in 105 (by decide +kernel) rfl
theorem kf_X3_24 : (.fieldLink RX3 24 "SharedFault" "paid" "[I" : Cond) ∈ TT := TT_in 106 (by decide +kernel) rfl
theorem kf_X3_30 : (.fieldLink RX3 30 "SharedFault" "flow" "LSharedFault$Flow;" : Cond) ∈ TT := TT_in 107 (by decide +kernel) rfl
theorem km_L_13 : (.methodLink RL 13 yX3_loss : Cond) ∈ TT := TT_in 131 (by decide +kernel) rfl
theorem ki_X3_loss : (.instanceMethod yX3_loss : Cond) ∈ TT := TT_in 132 (by decide +kernel) rfl
theorem ks_X3_loss : (.selects RX3 yX3_loss yX3_loss : Cond) ∈ TT := TT_in 133 (by decide +kernel) rfl
set_option maxRecDepth 20000 in
theorem kc_X3_loss : (.code yX3_loss cX3_loss 3 (some .int) : Cond) ∈ TT := TT_in 134 rfl rfl
theorem kk_X3_34 : (.constant RX3 34 (1000000 : Int32) : Cond) ∈ TT := TT_in 135 (by decide +kernel) rfl
theorem km_X3_35 : (.methodLink RX3 35 yX3_isOutside : Cond) ∈ TT := TT_in 136 (by decide +kernel) rfl
theorem kt_X3_isOutside : (.static yX3_isOutside : Cond) ∈ TT := TT_in 137 (by decide +kernel) rfl
set_option maxRecDepth 20000 in
theorem kc_X3_isOutside : (.code yX3_isOutside cX3_isOutside 3 (some .boolean) : Cond) ∈ TT := TT_in 138 rfl rfl
theorem km_L_18 : (.methodLink RL 18 yX3_claimant : Cond) ∈ TT := TT_in 139 (by decide +kernel) rfl
theorem ki_X3_claimant : (.instanceMethod yX3_claimant : Cond) ∈ TT := TT_in 140 (by decide +kernel) rfl
theorem ks_X3_claimant : (.selects RX3 yX3_claimant yX3_claimant : Cond) ∈ TT := TT_in 141 (by decide +kernel) rfl
set_option maxRecDepth 20000 in
theorem kc_X3_claimant : (.code yX3_claimant cX3_claimant 3 (some .int) : Cond) ∈ TT := TT_in 142 rfl rfl
theorem km_L_22 : (.methodLink RL 22 yX3_wrong : Cond) ∈ TT := TT_in 143 (by decide +kernel) rfl
theorem ki_X3_wrong : (.instanceMethod yX3_wrong : Cond) ∈ TT := TT_in 144 (by decide +kernel) rfl
theorem ks_X3_wrong : (.selects RX3 yX3_wrong yX3_wrong : Cond) ∈ TT := TT_in 145 (by decide +kernel) rfl
set_option maxRecDepth 20000 in
theorem kc_X3_wrong : (.code yX3_wrong cX3_wrong 3 (some .int) : Cond) ∈ TT := TT_in 146 rfl rfl
theorem km_X3_49 : (.methodLink RX3 49 yX3_has : Cond) ∈ TT := TT_in 147 (by decide +kernel) rfl
theorem kt_X3_has : (.static yX3_has : Cond) ∈ TT := TT_in 148 (by decide +kernel) rfl
set_option maxRecDepth 20000 in
theorem kc_X3_has : (.code yX3_has cX3_has 2 (some .boolean) : Cond) ∈ TT := TT_in 149 rfl rfl
theorem km_X3_53 : (.methodLink RX3 53 yX3_bit : Cond) ∈ TT := TT_in 150 (by decide +kernel) rfl
theorem kt_X3_bit : (.static yX3_bit : Cond) ∈ TT := TT_in 151 (by decide +kernel) rfl
set_option maxRecDepth 20000 in
theorem kc_X3_bit : (.code yX3_bit cX3_bit 1 (some .int) : Cond) ∈ TT := TT_in 152 rfl rfl
theorem km_L_26 : (.methodLink RL 26 yX3_leave : Cond) ∈ TT := TT_in 153 (by decide +kernel) rfl
theorem ki_X3_leave : (.instanceMethod yX3_leave : Cond) ∈ TT := TT_in 154 (by decide +kernel) rfl
theorem ks_X3_leave : (.selects RX3 yX3_leave yX3_leave : Cond) ∈ TT := TT_in 155 (by decide +kernel) rfl
set_option maxRecDepth 20000 in
theorem kc_X3_leave : (.code yX3_leave cX3_leave 2 (some .int) : Cond) ∈ TT := TT_in 156 rfl rfl
theorem km_X3_57 : (.methodLink RX3 57 yX3_isKnown : Cond) ∈ TT := TT_in 157 (by decide +kernel) rfl
theorem ki_X3_isKnown : (.instanceMethod yX3_isKnown : Cond) ∈ TT := TT_in 159 (by decide +kernel) rfl
set_option maxRecDepth 20000 in
theorem kc_X3_isKnown : (.code yX3_isKnown cX3_isKnown 2 (some .boolean) : Cond) ∈ TT := TT_in 160 rfl rfl
theorem km_X3_61 : (.methodLink RX3 61 yX3_openUnit : Cond) ∈ TT := TT_in 161 (by decide +kernel) rfl
theorem ki_X3_openUnit : (.instanceMethod yX3_openUnit : Cond) ∈ TT := TT_in 163 (by decide +kernel) rfl
set_option maxRecDepth 20000 in
theorem kc_X3_openUnit : (.code yX3_openUnit cX3_openUnit 2 none : Cond) ∈ TT := TT_in 164 rfl rfl
theorem km_X3_86 : (.methodLink RX3 86 yX3_fillUnit : Cond) ∈ TT := TT_in 165 (by decide +kernel) rfl
theorem ki_X3_fillUnit : (.instanceMethod yX3_fillUnit : Cond) ∈ TT := TT_in 167 (by decide +kernel) rfl
set_option maxRecDepth 20000 in
theorem kc_X3_fillUnit : (.code yX3_fillUnit cX3_fillUnit 5 none : Cond) ∈ TT := TT_in 168 rfl rfl
theorem km_X3_65 : (.methodLink RX3 65 yX3_partUnit : Cond) ∈ TT := TT_in 169 (by decide +kernel) rfl
theorem ki_X3_partUnit : (.instanceMethod yX3_partUnit : Cond) ∈ TT := TT_in 171 (by decide +kernel) rfl
set_option maxRecDepth 20000 in
theorem kc_X3_partUnit : (.code yX3_partUnit cX3_partUnit 4 none : Cond) ∈ TT := TT_in 172 rfl rfl
theorem km_X3_71 : (.methodLink RX3 71 yJ6_bitCount_0f7a4 : Cond) ∈ TT := TT_in 173 (by decide +kernel) rfl
theorem kt_J6_bitCount_0f7a4 : (.static yJ6_bitCount_0f7a4 : Cond) ∈ TT := TT_in 174 (by decide +kernel) rfl
set_option maxRecDepth 20000 in
theorem kc_J6_bitCount_0f7a4 : (.code yJ6_bitCount_0f7a4 cJ6_bitCount_0f7a4 1 (some .int) : Cond) ∈ TT := TT_in 175 rfl rfl
theorem kk_J6_265 : (.constant RJ6 265 (1431655765 : Int32) : Cond) ∈ TT := TT_in 176 (by decide +kernel) rfl
theorem kk_J6_266 : (.constant RJ6 266 (858993459 : Int32) : Cond) ∈ TT := TT_in 177 (by decide +kernel) rfl
theorem kk_J6_267 : (.constant RJ6 267 (252645135 : Int32) : Cond) ∈ TT := TT_in 178 (by decide +kernel) rfl
theorem km_L_30 : (.methodLink RL 30 yX3_weight : Cond) ∈ TT := TT_in 179 (by decide +kernel) rfl
theorem ki_X3_weight : (.instanceMethod yX3_weight : Cond) ∈ TT := TT_in 180 (by decide +kernel) rfl
theorem ks_X3_weight : (.selects RX3 yX3_weight yX3_weight : Cond) ∈ TT := TT_in 181 (by decide +kernel) rfl
set_option maxRecDepth 20000 in
theorem kc_X3_weight : (.code yX3_weight cX3_weight 4 (some .int) : Cond) ∈ TT := TT_in 182 rfl rfl
theorem km_L_35 : (.methodLink RL 35 yX3_broke : Cond) ∈ TT := TT_in 183 (by decide +kernel) rfl
theorem ki_X3_broke : (.instanceMethod yX3_broke : Cond) ∈ TT := TT_in 184 (by decide +kernel) rfl
theorem ks_X3_broke : (.selects RX3 yX3_broke yX3_broke : Cond) ∈ TT := TT_in 185 (by decide +kernel) rfl
set_option maxRecDepth 20000 in
theorem kc_X3_broke : (.code yX3_broke cX3_broke 3 (some .int) : Cond) ∈ TT := TT_in 186 rfl rfl
theorem km_L_40 : (.methodLink RL 40 yX3_pair : Cond) ∈ TT := TT_in 187 (by decide +kernel) rfl
theorem ki_X3_pair : (.instanceMethod yX3_pair : Cond) ∈ TT := TT_in 188 (by decide +kernel) rfl
theorem ks_X3_pair : (.selects RX3 yX3_pair yX3_pair : Cond) ∈ TT := TT_in 189 (by decide +kernel) rfl
set_option maxRecDepth 20000 in
theorem kc_X3_pair : (.code yX3_pair cX3_pair 3 (some .int) : Cond) ∈ TT := TT_in 190 rfl rfl
theorem km_X3_76 : (.methodLink RX3 76 yX3_isPaired : Cond) ∈ TT := TT_in 191 (by decide +kernel) rfl
theorem ki_X3_isPaired : (.instanceMethod yX3_isPaired : Cond) ∈ TT := TT_in 193 (by decide +kernel) rfl
set_option maxRecDepth 20000 in
theorem kc_X3_isPaired : (.code yX3_isPaired cX3_isPaired 2 (some .boolean) : Cond) ∈ TT := TT_in 194 rfl rfl
theorem km_L_44 : (.methodLink RL 44 yX3_part : Cond) ∈ TT := TT_in 195 (by decide +kernel) rfl
theorem ki_X3_part : (.instanceMethod yX3_part : Cond) ∈ TT := TT_in 196 (by decide +kernel) rfl
theorem ks_X3_part : (.selects RX3 yX3_part yX3_part : Cond) ∈ TT := TT_in 197 (by decide +kernel) rfl
set_option maxRecDepth 20000 in
theorem kc_X3_part : (.code yX3_part cX3_part 2 (some .int) : Cond) ∈ TT := TT_in 198 rfl rfl
theorem km_L_48 : (.methodLink RL 48 yX3_settle : Cond) ∈ TT := TT_in 199 (by decide +kernel) rfl
theorem ki_X3_settle : (.instanceMethod yX3_settle : Cond) ∈ TT := TT_in 200 (by decide +kernel) rfl
theorem ks_X3_settle : (.selects RX3 yX3_settle yX3_settle : Cond) ∈ TT := TT_in 201 (by decide +kernel) rfl
set_option maxRecDepth 20000 in
theorem kc_X3_settle : (.code yX3_settle cX3_settle 3 (some .int) : Cond) ∈ TT := TT_in 202 rfl rfl
theorem km_X3_82 : (.methodLink RX3 82 yX3_sumOver : Cond) ∈ TT := TT_in 203 (by decide +kernel) rfl
theorem kt_X3_sumOver : (.static yX3_sumOver : Cond) ∈ TT := TT_in 204 (by decide +kernel) rfl
set_option maxRecDepth 20000 in
theorem kc_X3_sumOver : (.code yX3_sumOver cX3_sumOver 4 (some .int) : Cond) ∈ TT := TT_in 205 rfl rfl
theorem km_L_52 : (.methodLink RL 52 yX3_reopen : Cond) ∈ TT := TT_in 206 (by decide +kernel) rfl
theorem ki_X3_reopen : (.instanceMethod yX3_reopen : Cond) ∈ TT := TT_in 207 (by decide +kernel) rfl
theorem ks_X3_reopen : (.selects RX3 yX3_reopen yX3_reopen : Cond) ∈ TT := TT_in 208 (by decide +kernel) rfl
set_option maxRecDepth 20000 in
theorem kc_X3_reopen : (.code yX3_reopen cX3_reopen 3 (some .int) : Cond) ∈ TT := TT_in 209 rfl rfl
theorem km_L_56 : (.methodLink RL 56 yX3_setting : Cond) ∈ TT := TT_in 210 (by decide +kernel) rfl
theorem ki_X3_setting : (.instanceMethod yX3_setting : Cond) ∈ TT := TT_in 211 (by decide +kernel) rfl
theorem ks_X3_setting : (.selects RX3 yX3_setting yX3_setting : Cond) ∈ TT := TT_in 212 (by decide +kernel) rfl
set_option maxRecDepth 20000 in
theorem kc_X3_setting : (.code yX3_setting cX3_setting 4 (some .int) : Cond) ∈ TT := TT_in 213 rfl rfl
theorem kf_X3_90 : (.fieldLink RX3 90 "SharedFault" "SETTING_MOST" "[I" : Cond) ∈ TT := TT_in 214 (by decide +kernel) rfl
theorem kls : (.laysStatic "SharedFault" "SETTING_MOST" "[I" : Cond) ∈ lw_tbl := List.mem_of_getElem? (i := 215) (by decide +kernel)
theorem km_L_60 : (.methodLink RL 60 yX3_ofWrong : Cond) ∈ TT := TT_in 216 (by decide +kernel) rfl
theorem ki_X3_ofWrong : (.instanceMethod yX3_ofWrong : Cond) ∈ TT := TT_in 217 (by decide +kernel) rfl
theorem ks_X3_ofWrong : (.selects RX3 yX3_ofWrong yX3_ofWrong : Cond) ∈ TT := TT_in 218 (by decide +kernel) rfl
set_option maxRecDepth 20000 in
theorem kc_X3_ofWrong : (.code yX3_ofWrong cX3_ofWrong 3 (some .int) : Cond) ∈ TT := TT_in 219 rfl rfl
theorem km_X3_93 : (.methodLink RX3 93 yX3_firstOf : Cond) ∈ TT := TT_in 220 (by decide +kernel) rfl
theorem kt_X3_firstOf : (.static yX3_firstOf : Cond) ∈ TT := TT_in 221 (by decide +kernel) rfl
set_option maxRecDepth 20000 in
theorem kc_X3_firstOf : (.code yX3_firstOf cX3_firstOf 2 (some .int) : Cond) ∈ TT := TT_in 222 rfl rfl
theorem km_L_64 : (.methodLink RL 64 yX3_amount : Cond) ∈ TT := TT_in 223 (by decide +kernel) rfl
theorem ki_X3_amount : (.instanceMethod yX3_amount : Cond) ∈ TT := TT_in 224 (by decide +kernel) rfl
theorem ks_X3_amount : (.selects RX3 yX3_amount yX3_amount : Cond) ∈ TT := TT_in 225 (by decide +kernel) rfl
set_option maxRecDepth 20000 in
theorem kc_X3_amount : (.code yX3_amount cX3_amount 3 (some .long) : Cond) ∈ TT := TT_in 226 rfl rfl
theorem kj_X3_96 : (.constantLong RX3 96 (-9223372036854775808 : Int64) : Cond) ∈ TT := TT_in 227 (by decide +kernel) rfl
theorem km_X3_98 : (.methodLink RX3 98 yX3_owedNow : Cond) ∈ TT := TT_in 228 (by decide +kernel) rfl
theorem ki_X3_owedNow : (.instanceMethod yX3_owedNow : Cond) ∈ TT := TT_in 230 (by decide +kernel) rfl
set_option maxRecDepth 20000 in
theorem kc_X3_owedNow : (.code yX3_owedNow cX3_owedNow 1 (some (.object "SharedFault$Owed")) : Cond) ∈ TT := TT_in 231 rfl rfl
theorem km_X3_164 : (.methodLink RX3 164 yX3_owedIf : Cond) ∈ TT := TT_in 232 (by decide +kernel) rfl
theorem ki_X3_owedIf : (.instanceMethod yX3_owedIf : Cond) ∈ TT := TT_in 234 (by decide +kernel) rfl
set_option maxRecDepth 20000 in
theorem kc_X3_owedIf : (.code yX3_owedIf cX3_owedIf 9 (some (.object "SharedFault$Owed")) : Cond) ∈ TT := TT_in 235 rfl rfl
theorem km_X3_207 : (.methodLink RX3 207 yX3_openBroke : Cond) ∈ TT := TT_in 236 (by decide +kernel) rfl
theorem ki_X3_openBroke : (.instanceMethod yX3_openBroke : Cond) ∈ TT := TT_in 238 (by decide +kernel) rfl
set_option maxRecDepth 20000 in
theorem kc_X3_openBroke : (.code yX3_openBroke cX3_openBroke 5 (some .int) : Cond) ∈ TT := TT_in 239 rfl rfl
theorem km_X3_126 : (.methodLink RX3 126 yX3_blameDown : Cond) ∈ TT := TT_in 240 (by decide +kernel) rfl
theorem ki_X3_blameDown : (.instanceMethod yX3_blameDown : Cond) ∈ TT := TT_in 242 (by decide +kernel) rfl
set_option maxRecDepth 20000 in
theorem kc_X3_blameDown : (.code yX3_blameDown cX3_blameDown 1 (some .int) : Cond) ∈ TT := TT_in 243 rfl rfl
theorem km_X3_210 : (.methodLink RX3 210 yX3_blame : Cond) ∈ TT := TT_in 244 (by decide +kernel) rfl
theorem ki_X3_blame : (.instanceMethod yX3_blame : Cond) ∈ TT := TT_in 246 (by decide +kernel) rfl
set_option maxRecDepth 20000 in
theorem kc_X3_blame : (.code yX3_blame cX3_blame 1 (some .int) : Cond) ∈ TT := TT_in 247 rfl rfl
theorem km_X3_213 : (.methodLink RX3 213 Lib.Math.max.name : Cond) ∈ TT := TT_in 248 (by decide +kernel) rfl
theorem kt_max : (.static Lib.Math.max.name : Cond) ∈ TT := TT_in 249 (by decide +kernel) rfl
set_option maxRecDepth 20000 in
theorem kc_max : (.code Lib.Math.max.name Lib.Math.max.code 2 (some .int) : Cond) ∈ TT := TT_in 250 rfl rfl
theorem kcl_X3_103 : (.classLink RX3 103 RX1 : Cond) ∈ TT := TT_in 251 (by decide +kernel) rfl
theorem kin_X1 : (.instantiable RX1 7 : Cond) ∈ TT := TT_in 252 (by decide +kernel) rfl
theorem km_X3_221 : (.methodLink RX3 221 yX3_entitledUp : Cond) ∈ TT := TT_in 253 (by decide +kernel) rfl
theorem ki_X3_entitledUp : (.instanceMethod yX3_entitledUp : Cond) ∈ TT := TT_in 255 (by decide +kernel) rfl
set_option maxRecDepth 20000 in
theorem kc_X3_entitledUp : (.code yX3_entitledUp cX3_entitledUp 2 (some .long) : Cond) ∈ TT := TT_in 256 rfl rfl
theorem km_X3_225 : (.methodLink RX3 225 yX3_creditsUp : Cond) ∈ TT := TT_in 257 (by decide +kernel) rfl
theorem ki_X3_creditsUp : (.instanceMethod yX3_creditsUp : Cond) ∈ TT := TT_in 259 (by decide +kernel) rfl
set_option maxRecDepth 20000 in
theorem kc_X3_creditsUp : (.code yX3_creditsUp cX3_creditsUp 8 (some .long) : Cond) ∈ TT := TT_in 260 rfl rfl
theorem km_X3_204 : (.methodLink RX3 204 yX3_unitHeads : Cond) ∈ TT := TT_in 261 (by decide +kernel) rfl
theorem ki_X3_unitHeads : (.instanceMethod yX3_unitHeads : Cond) ∈ TT := TT_in 263 (by decide +kernel) rfl
set_option maxRecDepth 20000 in
theorem kc_X3_unitHeads : (.code yX3_unitHeads cX3_unitHeads 3 (some .int) : Cond) ∈ TT := TT_in 264 rfl rfl
theorem km_X3_130 : (.methodLink RX3 130 yX3_creditUp : Cond) ∈ TT := TT_in 265 (by decide +kernel) rfl
theorem ki_X3_creditUp : (.instanceMethod yX3_creditUp : Cond) ∈ TT := TT_in 267 (by decide +kernel) rfl
set_option maxRecDepth 20000 in
theorem kc_X3_creditUp : (.code yX3_creditUp cX3_creditUp 8 (some .long) : Cond) ∈ TT := TT_in 268 rfl rfl
theorem km_X3_218 : (.methodLink RX3 218 Lib.MathLoose.max_long.x : Cond) ∈ TT := TT_in 269 (by decide +kernel) rfl
theorem kt_maxl : (.static Lib.MathLoose.max_long.x : Cond) ∈ TT := TT_in 270 (by decide +kernel) rfl
set_option maxRecDepth 20000 in
theorem kc_maxl : (.code Lib.MathLoose.max_long.x Lib.MathLoose.max_long.code 4 (some .long) : Cond) ∈ TT := TT_in 271 rfl rfl
theorem km_X3_228 : (.methodLink RX3 228 yX1_init : Cond) ∈ TT := TT_in 272 (by decide +kernel) rfl
theorem ki_X1_init : (.instanceMethod yX1_init : Cond) ∈ TT := TT_in 273 (by decide +kernel) rfl
set_option maxRecDepth 20000 in
theorem kc_X1_init : (.code yX1_init cX1_init 12 none : Cond) ∈ TT := TT_in 274 rfl rfl
theorem km_X1_1 : (.methodLink RX1 1 objectInit : Cond) ∈ TT := TT_in 275 (by decide +kernel) rfl
theorem km_X1_7 : (.methodLink RX1 7 Lib.MathLoose.max_long.x : Cond) ∈ TT := TT_in 276 (by decide +kernel) rfl
theorem km_X1_13 : (.methodLink RX1 13 yX2_of : Cond) ∈ TT := TT_in 277 (by decide +kernel) rfl
theorem kt_X2_of : (.static yX2_of : Cond) ∈ TT := TT_in 278 (by decide +kernel) rfl
set_option maxRecDepth 20000 in
theorem kc_X2_of : (.code yX2_of cX2_of 6 (some (.object "SharedFault$Share")) : Cond) ∈ TT := TT_in 279 rfl rfl
theorem kcl_X2_8 : (.classLink RX2 8 RX2 : Cond) ∈ TT := TT_in 280 (by decide +kernel) rfl
theorem kin_X2 : (.instantiable RX2 2 : Cond) ∈ TT := TT_in 281 (by decide +kernel) rfl
theorem km_X2_16 : (.methodLink RX2 16 yX2_init : Cond) ∈ TT := TT_in 282 (by decide +kernel) rfl
theorem ki_X2_init : (.instanceMethod yX2_init : Cond) ∈ TT := TT_in 283 (by decide +kernel) rfl
set_option maxRecDepth 20000 in
theorem kc_X2_init : (.code yX2_init cX2_init 5 none : Cond) ∈ TT := TT_in 284 rfl rfl
theorem km_X2_1 : (.methodLink RX2 1 objectInit : Cond) ∈ TT := TT_in 285 (by decide +kernel) rfl
theorem kf_X2_7 : (.fieldLink RX2 7 "SharedFault$Share" "up" "J" : Cond) ∈ TT := TT_in 286 (by decide +kernel) rfl
theorem kf_X1_48 : (.fieldLink RX1 48 "SharedFault$Share" "up" "J" : Cond) ∈ TT := TT_in 287 (by decide +kernel) rfl
theorem kf_X3_160 : (.fieldLink RX3 160 "SharedFault$Share" "up" "J" : Cond) ∈ TT := TT_in 288 (by decide +kernel) rfl
theorem kf_X2_13 : (.fieldLink RX2 13 "SharedFault$Share" "down" "J" : Cond) ∈ TT := TT_in 289 (by decide +kernel) rfl
theorem km_X2_19 : (.methodLink RX2 19 Lib.MathLoose.abs_long.x : Cond) ∈ TT := TT_in 295 (by decide +kernel) rfl
theorem kt_absl : (.static Lib.MathLoose.abs_long.x : Cond) ∈ TT := TT_in 296 (by decide +kernel) rfl
set_option maxRecDepth 20000 in
theorem kc_absl : (.code Lib.MathLoose.abs_long.x Lib.MathLoose.abs_long.code 2 (some .long) : Cond) ∈ TT := TT_in 297 rfl rfl
theorem km_X2_25 : (.methodLink RX2 25 yX2_commonDivisor : Cond) ∈ TT := TT_in 298 (by decide +kernel) rfl
theorem kt_X2_commonDivisor : (.static yX2_commonDivisor : Cond) ∈ TT := TT_in 299 (by decide +kernel) rfl
set_option maxRecDepth 20000 in
theorem kc_X2_commonDivisor : (.code yX2_commonDivisor cX2_commonDivisor 11 (some .long) : Cond) ∈ TT := TT_in 300 rfl rfl
theorem km_X1_34 : (.methodLink RX1 34 yX2_times : Cond) ∈ TT := TT_in 301 (by decide +kernel) rfl
theorem ki_X2_times : (.instanceMethod yX2_times : Cond) ∈ TT := TT_in 302 (by decide +kernel) rfl
theorem ks_X2_times : (.selects RX2 yX2_times yX2_times : Cond) ∈ TT := TT_in 303 (by decide +kernel) rfl
set_option maxRecDepth 20000 in
theorem kc_X2_times : (.code yX2_times cX2_times 3 (some (.object "SharedFault$Share")) : Cond) ∈ TT := TT_in 304 rfl rfl
theorem km_X2_29 : (.methodLink RX2 29 yX2_of : Cond) ∈ TT := TT_in 305 (by decide +kernel) rfl
theorem km_X1_41 : (.methodLink RX1 41 yX2_minus : Cond) ∈ TT := TT_in 306 (by decide +kernel) rfl
theorem ki_X2_minus : (.instanceMethod yX2_minus : Cond) ∈ TT := TT_in 307 (by decide +kernel) rfl
theorem ks_X2_minus : (.selects RX2 yX2_minus yX2_minus : Cond) ∈ TT := TT_in 308 (by decide +kernel) rfl
set_option maxRecDepth 20000 in
theorem kc_X2_minus : (.code yX2_minus cX2_minus 8 (some (.object "SharedFault$Share")) : Cond) ∈ TT := TT_in 309 rfl rfl
theorem kf_X1_19 : (.fieldLink RX1 19 "SharedFault$Owed" "entitled" "LSharedFault$Share;" : Cond) ∈ TT := TT_in 310 (by decide +kernel) rfl
theorem kf_X3_102 : (.fieldLink RX3 102 "SharedFault$Owed" "entitled" "LSharedFault$Share;" : Cond) ∈ TT := TT_in 311 (by decide +kernel) rfl
theorem kf_X1_25 : (.fieldLink RX1 25 "SharedFault$Owed" "credits" "LSharedFault$Share;" : Cond) ∈ TT := TT_in 312 (by decide +kernel) rfl
theorem kf_X3_114 : (.fieldLink RX3 114 "SharedFault$Owed" "credits" "LSharedFault$Share;" : Cond) ∈ TT := TT_in 313 (by decide +kernel) rfl
theorem kf_X1_28 : (.fieldLink RX1 28 "SharedFault$Owed" "rest" "LSharedFault$Share;" : Cond) ∈ TT := TT_in 314 (by decide +kernel) rfl
theorem kf_X3_117 : (.fieldLink RX3 117 "SharedFault$Owed" "rest" "LSharedFault$Share;" : Cond) ∈ TT := TT_in 315 (by decide +kernel) rfl
theorem kf_X1_31 : (.fieldLink RX1 31 "SharedFault$Owed" "perWeight" "LSharedFault$Share;" : Cond) ∈ TT := TT_in 316 (by decide +kernel) rfl
theorem kf_X3_138 : (.fieldLink RX3 138 "SharedFault$Owed" "perWeight" "LSharedFault$Share;" : Cond) ∈ TT := TT_in 317 (by decide +kernel) rfl
theorem kf_X1_38 : (.fieldLink RX1 38 "SharedFault$Owed" "dues" "LSharedFault$Share;" : Cond) ∈ TT := TT_in 318 (by decide +kernel) rfl
theorem kf_X3_123 : (.fieldLink RX3 123 "SharedFault$Owed" "dues" "LSharedFault$Share;" : Cond) ∈ TT := TT_in 319 (by decide +kernel) rfl
theorem kf_X1_45 : (.fieldLink RX1 45 "SharedFault$Owed" "missed" "LSharedFault$Share;" : Cond) ∈ TT := TT_in 320 (by decide +kernel) rfl
theorem kf_X3_120 : (.fieldLink RX3 120 "SharedFault$Owed" "missed" "LSharedFault$Share;" : Cond) ∈ TT := TT_in 321 (by decide +kernel) rfl
theorem kf_X1_52 : (.fieldLink RX1 52 "SharedFault$Owed" "fairDown" "J" : Cond) ∈ TT := TT_in 322 (by decide +kernel) rfl
theorem kf_X3_178 : (.fieldLink RX3 178 "SharedFault$Owed" "fairDown" "J" : Cond) ∈ TT := TT_in 323 (by decide +kernel) rfl
theorem km_X3_108 : (.methodLink RX3 108 yX2_told : Cond) ∈ TT := TT_in 339 (by decide +kernel) rfl
theorem ki_X2_told : (.instanceMethod yX2_told : Cond) ∈ TT := TT_in 340 (by decide +kernel) rfl
theorem ks_X2_told : (.selects RX2 yX2_told yX2_told : Cond) ∈ TT := TT_in 341 (by decide +kernel) rfl
set_option maxRecDepth 20000 in
theorem kc_X2_told : (.code yX2_told cX2_told 2 (some .long) : Cond) ∈ TT := TT_in 342 rfl rfl
theorem km_L_69 : (.methodLink RL 69 yX3_credit : Cond) ∈ TT := TT_in 343 (by decide +kernel) rfl
theorem ki_X3_credit : (.instanceMethod yX3_credit : Cond) ∈ TT := TT_in 344 (by decide +kernel) rfl
theorem ks_X3_credit : (.selects RX3 yX3_credit yX3_credit : Cond) ∈ TT := TT_in 345 (by decide +kernel) rfl
set_option maxRecDepth 20000 in
theorem kc_X3_credit : (.code yX3_credit cX3_credit 6 (some .long) : Cond) ∈ TT := TT_in 346 rfl rfl
theorem km_X3_134 : (.methodLink RX3 134 yX2_of : Cond) ∈ TT := TT_in 347 (by decide +kernel) rfl
theorem km_L_73 : (.methodLink RL 73 yX3_unitDue : Cond) ∈ TT := TT_in 348 (by decide +kernel) rfl
theorem ki_X3_unitDue : (.instanceMethod yX3_unitDue : Cond) ∈ TT := TT_in 349 (by decide +kernel) rfl
theorem ks_X3_unitDue : (.selects RX3 yX3_unitDue yX3_unitDue : Cond) ∈ TT := TT_in 350 (by decide +kernel) rfl
set_option maxRecDepth 20000 in
theorem kc_X3_unitDue : (.code yX3_unitDue cX3_unitDue 3 (some .long) : Cond) ∈ TT := TT_in 351 rfl rfl
theorem km_X3_141 : (.methodLink RX3 141 yX3_unitBears : Cond) ∈ TT := TT_in 352 (by decide +kernel) rfl
theorem ki_X3_unitBears : (.instanceMethod yX3_unitBears : Cond) ∈ TT := TT_in 354 (by decide +kernel) rfl
set_option maxRecDepth 20000 in
theorem kc_X3_unitBears : (.code yX3_unitBears cX3_unitBears 4 (some .int) : Cond) ∈ TT := TT_in 355 rfl rfl
theorem km_X3_145 : (.methodLink RX3 145 yX2_times : Cond) ∈ TT := TT_in 356 (by decide +kernel) rfl
theorem km_L_77 : (.methodLink RL 77 yX3_due : Cond) ∈ TT := TT_in 357 (by decide +kernel) rfl
theorem ki_X3_due : (.instanceMethod yX3_due : Cond) ∈ TT := TT_in 358 (by decide +kernel) rfl
theorem ks_X3_due : (.selects RX3 yX3_due yX3_due : Cond) ∈ TT := TT_in 359 (by decide +kernel) rfl
set_option maxRecDepth 20000 in
theorem kc_X3_due : (.code yX3_due cX3_due 3 (some .long) : Cond) ∈ TT := TT_in 360 rfl rfl
theorem km_X3_149 : (.methodLink RX3 149 yX3_bears : Cond) ∈ TT := TT_in 361 (by decide +kernel) rfl
theorem ki_X3_bears : (.instanceMethod yX3_bears : Cond) ∈ TT := TT_in 363 (by decide +kernel) rfl
set_option maxRecDepth 20000 in
theorem kc_X3_bears : (.code yX3_bears cX3_bears 3 (some .int) : Cond) ∈ TT := TT_in 364 rfl rfl
theorem km_L_81 : (.methodLink RL 81 yX3_gets : Cond) ∈ TT := TT_in 365 (by decide +kernel) rfl
theorem ki_X3_gets : (.instanceMethod yX3_gets : Cond) ∈ TT := TT_in 366 (by decide +kernel) rfl
theorem ks_X3_gets : (.selects RX3 yX3_gets yX3_gets : Cond) ∈ TT := TT_in 367 (by decide +kernel) rfl
set_option maxRecDepth 20000 in
theorem kc_X3_gets : (.code yX3_gets cX3_gets 4 (some .long) : Cond) ∈ TT := TT_in 368 rfl rfl
theorem km_X3_152 : (.methodLink RX3 152 yX3_gotBy : Cond) ∈ TT := TT_in 369 (by decide +kernel) rfl
theorem ki_X3_gotBy : (.instanceMethod yX3_gotBy : Cond) ∈ TT := TT_in 371 (by decide +kernel) rfl
set_option maxRecDepth 20000 in
theorem kc_X3_gotBy : (.code yX3_gotBy cX3_gotBy 4 (some (.object "SharedFault$Share")) : Cond) ∈ TT := TT_in 372 rfl rfl
theorem km_X3_168 : (.methodLink RX3 168 yX2_plusWhole : Cond) ∈ TT := TT_in 373 (by decide +kernel) rfl
theorem ki_X2_plusWhole : (.instanceMethod yX2_plusWhole : Cond) ∈ TT := TT_in 374 (by decide +kernel) rfl
theorem ks_X2_plusWhole : (.selects RX2 yX2_plusWhole yX2_plusWhole : Cond) ∈ TT := TT_in 375 (by decide +kernel) rfl
set_option maxRecDepth 20000 in
theorem kc_X2_plusWhole : (.code yX2_plusWhole cX2_plusWhole 3 (some (.object "SharedFault$Share")) : Cond) ∈ TT := TT_in 376 rfl rfl
theorem km_L_86 : (.methodLink RL 86 yX3_bestManner : Cond) ∈ TT := TT_in 377 (by decide +kernel) rfl
theorem ki_X3_bestManner : (.instanceMethod yX3_bestManner : Cond) ∈ TT := TT_in 378 (by decide +kernel) rfl
theorem ks_X3_bestManner : (.selects RX3 yX3_bestManner yX3_bestManner : Cond) ∈ TT := TT_in 379 (by decide +kernel) rfl
set_option maxRecDepth 20000 in
theorem kc_X3_bestManner : (.code yX3_bestManner cX3_bestManner 5 (some .int) : Cond) ∈ TT := TT_in 380 rfl rfl
theorem km_X3_156 : (.methodLink RX3 156 yX2_minus : Cond) ∈ TT := TT_in 381 (by decide +kernel) rfl
theorem km_L_91 : (.methodLink RL 91 yX3_saves : Cond) ∈ TT := TT_in 382 (by decide +kernel) rfl
theorem ki_X3_saves : (.instanceMethod yX3_saves : Cond) ∈ TT := TT_in 383 (by decide +kernel) rfl
theorem ks_X3_saves : (.selects RX3 yX3_saves yX3_saves : Cond) ∈ TT := TT_in 384 (by decide +kernel) rfl
set_option maxRecDepth 20000 in
theorem kc_X3_saves : (.code yX3_saves cX3_saves 6 (some .long) : Cond) ∈ TT := TT_in 385 rfl rfl
theorem km_L_95 : (.methodLink RL 95 yX3_misses : Cond) ∈ TT := TT_in 386 (by decide +kernel) rfl
theorem ki_X3_misses : (.instanceMethod yX3_misses : Cond) ∈ TT := TT_in 387 (by decide +kernel) rfl
theorem ks_X3_misses : (.selects RX3 yX3_misses yX3_misses : Cond) ∈ TT := TT_in 388 (by decide +kernel) rfl
set_option maxRecDepth 20000 in
theorem kc_X3_misses : (.code yX3_misses cX3_misses 5 (some .long) : Cond) ∈ TT := TT_in 389 rfl rfl
theorem km_L_99 : (.methodLink RL 99 yX3_owe : Cond) ∈ TT := TT_in 390 (by decide +kernel) rfl
theorem ki_X3_owe : (.instanceMethod yX3_owe : Cond) ∈ TT := TT_in 391 (by decide +kernel) rfl
theorem ks_X3_owe : (.selects RX3 yX3_owe yX3_owe : Cond) ∈ TT := TT_in 392 (by decide +kernel) rfl
set_option maxRecDepth 20000 in
theorem kc_X3_owe : (.code yX3_owe cX3_owe 3 (some .int) : Cond) ∈ TT := TT_in 393 rfl rfl
theorem km_L_103 : (.methodLink RL 103 yX3_pay : Cond) ∈ TT := TT_in 394 (by decide +kernel) rfl
theorem ki_X3_pay : (.instanceMethod yX3_pay : Cond) ∈ TT := TT_in 395 (by decide +kernel) rfl
theorem ks_X3_pay : (.selects RX3 yX3_pay yX3_pay : Cond) ∈ TT := TT_in 396 (by decide +kernel) rfl
set_option maxRecDepth 20000 in
theorem kc_X3_pay : (.code yX3_pay cX3_pay 3 (some .int) : Cond) ∈ TT := TT_in 397 rfl rfl
theorem km_X3_171 : (.methodLink RX3 171 yX3_allPaid : Cond) ∈ TT := TT_in 398 (by decide +kernel) rfl
theorem ki_X3_allPaid : (.instanceMethod yX3_allPaid : Cond) ∈ TT := TT_in 400 (by decide +kernel) rfl
set_option maxRecDepth 20000 in
theorem kc_X3_allPaid : (.code yX3_allPaid cX3_allPaid 1 (some .int) : Cond) ∈ TT := TT_in 401 rfl rfl
theorem km_L_107 : (.methodLink RL 107 yX3_refund : Cond) ∈ TT := TT_in 402 (by decide +kernel) rfl
theorem ki_X3_refund : (.instanceMethod yX3_refund : Cond) ∈ TT := TT_in 403 (by decide +kernel) rfl
theorem ks_X3_refund : (.selects RX3 yX3_refund yX3_refund : Cond) ∈ TT := TT_in 404 (by decide +kernel) rfl
set_option maxRecDepth 20000 in
theorem kc_X3_refund : (.code yX3_refund cX3_refund 3 (some .int) : Cond) ∈ TT := TT_in 405 rfl rfl
theorem km_L_111 : (.methodLink RL 111 yX3_fair : Cond) ∈ TT := TT_in 406 (by decide +kernel) rfl
theorem ki_X3_fair : (.instanceMethod yX3_fair : Cond) ∈ TT := TT_in 407 (by decide +kernel) rfl
theorem ks_X3_fair : (.selects RX3 yX3_fair yX3_fair : Cond) ∈ TT := TT_in 408 (by decide +kernel) rfl
set_option maxRecDepth 20000 in
theorem kc_X3_fair : (.code yX3_fair cX3_fair 4 (some .long) : Cond) ∈ TT := TT_in 409 rfl rfl
theorem km_X3_174 : (.methodLink RX3 174 yX3_fairUp : Cond) ∈ TT := TT_in 410 (by decide +kernel) rfl
theorem ki_X3_fairUp : (.instanceMethod yX3_fairUp : Cond) ∈ TT := TT_in 412 (by decide +kernel) rfl
set_option maxRecDepth 20000 in
theorem kc_X3_fairUp : (.code yX3_fairUp cX3_fairUp 3 (some .long) : Cond) ∈ TT := TT_in 413 rfl rfl
theorem km_L_115 : (.methodLink RL 115 yX3_over : Cond) ∈ TT := TT_in 414 (by decide +kernel) rfl
theorem ki_X3_over : (.instanceMethod yX3_over : Cond) ∈ TT := TT_in 415 (by decide +kernel) rfl
theorem ks_X3_over : (.selects RX3 yX3_over yX3_over : Cond) ∈ TT := TT_in 416 (by decide +kernel) rfl
set_option maxRecDepth 20000 in
theorem kc_X3_over : (.code yX3_over cX3_over 4 (some .long) : Cond) ∈ TT := TT_in 417 rfl rfl
theorem km_X3_181 : (.methodLink RX3 181 yX3_overUp : Cond) ∈ TT := TT_in 418 (by decide +kernel) rfl
theorem ki_X3_overUp : (.instanceMethod yX3_overUp : Cond) ∈ TT := TT_in 420 (by decide +kernel) rfl
set_option maxRecDepth 20000 in
theorem kc_X3_overUp : (.code yX3_overUp cX3_overUp 3 (some .long) : Cond) ∈ TT := TT_in 421 rfl rfl
theorem km_L_119 : (.methodLink RL 119 yX3_transfers : Cond) ∈ TT := TT_in 422 (by decide +kernel) rfl
theorem ki_X3_transfers : (.instanceMethod yX3_transfers : Cond) ∈ TT := TT_in 423 (by decide +kernel) rfl
theorem ks_X3_transfers : (.selects RX3 yX3_transfers yX3_transfers : Cond) ∈ TT := TT_in 424 (by decide +kernel) rfl
set_option maxRecDepth 20000 in
theorem kc_X3_transfers : (.code yX3_transfers cX3_transfers 1 (some .int) : Cond) ∈ TT := TT_in 425 rfl rfl
theorem km_X3_184 : (.methodLink RX3 184 yX3_evenOut : Cond) ∈ TT := TT_in 426 (by decide +kernel) rfl
theorem ki_X3_evenOut : (.instanceMethod yX3_evenOut : Cond) ∈ TT := TT_in 428 (by decide +kernel) rfl
set_option maxRecDepth 20000 in
theorem kc_X3_evenOut : (.code yX3_evenOut cX3_evenOut 3 none : Cond) ∈ TT := TT_in 429 rfl rfl
theorem km_X3_234 : (.methodLink RX3 234 yX0_find : Cond) ∈ TT := TT_in 430 (by decide +kernel) rfl
theorem ki_X0_find : (.instanceMethod yX0_find : Cond) ∈ TT := TT_in 431 (by decide +kernel) rfl
theorem ks_X0_find : (.selects RX0 yX0_find yX0_find : Cond) ∈ TT := TT_in 432 (by decide +kernel) rfl
set_option maxRecDepth 20000 in
theorem kc_X0_find : (.code yX0_find cX0_find 4 none : Cond) ∈ TT := TT_in 433 rfl rfl
theorem km_X0_29 : (.methodLink RX0 29 yX0_give : Cond) ∈ TT := TT_in 434 (by decide +kernel) rfl
theorem ki_X0_give : (.instanceMethod yX0_give : Cond) ∈ TT := TT_in 436 (by decide +kernel) rfl
set_option maxRecDepth 20000 in
theorem kc_X0_give : (.code yX0_give cX0_give 5 none : Cond) ∈ TT := TT_in 437 rfl rfl
theorem km_X0_33 : (.methodLink RX0 33 Lib.MathLoose.min_long.x : Cond) ∈ TT := TT_in 438 (by decide +kernel) rfl
theorem kt_minl : (.static Lib.MathLoose.min_long.x : Cond) ∈ TT := TT_in 439 (by decide +kernel) rfl
set_option maxRecDepth 20000 in
theorem kc_minl : (.code Lib.MathLoose.min_long.x Lib.MathLoose.min_long.code 4 (some .long) : Cond) ∈ TT := TT_in 440 rfl rfl
theorem km_L_123 : (.methodLink RL 123 yX3_transfer : Cond) ∈ TT := TT_in 441 (by decide +kernel) rfl
theorem ki_X3_transfer : (.instanceMethod yX3_transfer : Cond) ∈ TT := TT_in 442 (by decide +kernel) rfl
theorem ks_X3_transfer : (.selects RX3 yX3_transfer yX3_transfer : Cond) ∈ TT := TT_in 443 (by decide +kernel) rfl
set_option maxRecDepth 20000 in
theorem kc_X3_transfer : (.code yX3_transfer cX3_transfer 3 (some .int) : Cond) ∈ TT := TT_in 444 rfl rfl
theorem km_X3_191 : (.methodLink RX3 191 yX0_holds : Cond) ∈ TT := TT_in 445 (by decide +kernel) rfl
theorem ki_X0_holds : (.instanceMethod yX0_holds : Cond) ∈ TT := TT_in 446 (by decide +kernel) rfl
theorem ks_X0_holds : (.selects RX0 yX0_holds yX0_holds : Cond) ∈ TT := TT_in 447 (by decide +kernel) rfl
set_option maxRecDepth 20000 in
theorem kc_X0_holds : (.code yX0_holds cX0_holds 2 (some .boolean) : Cond) ∈ TT := TT_in 448 rfl rfl
theorem km_L_127 : (.methodLink RL 127 yX3_given : Cond) ∈ TT := TT_in 449 (by decide +kernel) rfl
theorem ki_X3_given : (.instanceMethod yX3_given : Cond) ∈ TT := TT_in 450 (by decide +kernel) rfl
theorem ks_X3_given : (.selects RX3 yX3_given yX3_given : Cond) ∈ TT := TT_in 451 (by decide +kernel) rfl
set_option maxRecDepth 20000 in
theorem kc_X3_given : (.code yX3_given cX3_given 4 (some .long) : Cond) ∈ TT := TT_in 452 rfl rfl
theorem km_L_131 : (.methodLink RL 131 yX3_many : Cond) ∈ TT := TT_in 453 (by decide +kernel) rfl
theorem ki_X3_many : (.instanceMethod yX3_many : Cond) ∈ TT := TT_in 454 (by decide +kernel) rfl
theorem ks_X3_many : (.selects RX3 yX3_many yX3_many : Cond) ∈ TT := TT_in 455 (by decide +kernel) rfl
set_option maxRecDepth 20000 in
theorem kc_X3_many : (.code yX3_many cX3_many 2 (some .int) : Cond) ∈ TT := TT_in 456 rfl rfl
theorem kcl_L_10 : (.classLink RL 10 RX4 : Cond) ∈ TT := TT_in 457 (by decide +kernel) rfl
theorem kin_X4 : (.instantiable RX4 22 : Cond) ∈ TT := TT_in 458 (by decide +kernel) rfl
theorem km_L_12 : (.methodLink RL 12 yX4_init : Cond) ∈ TT := TT_in 459 (by decide +kernel) rfl
theorem ki_X4_init : (.instanceMethod yX4_init : Cond) ∈ TT := TT_in 460 (by decide +kernel) rfl
set_option maxRecDepth 20000 in
theorem kc_X4_init : (.code yX4_init cX4_init 2 none : Cond) ∈ TT := TT_in 461 rfl rfl
theorem km_X4_1 : (.methodLink RX4 1 objectInit : Cond) ∈ TT := TT_in 462 (by decide +kernel) rfl
theorem km_X4_67 : (.methodLink RX4 67 yX4_clears : Cond) ∈ TT := TT_in 463 (by decide +kernel) rfl
theorem ki_X4_clears : (.instanceMethod yX4_clears : Cond) ∈ TT := TT_in 465 (by decide +kernel) rfl
set_option maxRecDepth 20000 in
theorem kc_X4_clears : (.code yX4_clears cX4_clears 2 none : Cond) ∈ TT := TT_in 466 rfl rfl
theorem kf_X4_75 : (.fieldLink RX4 75 "SharedFaultModel" "up" "J" : Cond) ∈ TT := TT_in 467 (by decide +kernel) rfl
theorem kf_X4_7 : (.fieldLink RX4 7 "SharedFaultModel" "low" "J" : Cond) ∈ TT := TT_in 468 (by decide +kernel) rfl
theorem kf_X4_87 : (.fieldLink RX4 87 "SharedFaultModel" "lossNow" "I" : Cond) ∈ TT := TT_in 469 (by decide +kernel) rfl
theorem kf_X4_91 : (.fieldLink RX4 91 "SharedFaultModel" "claimantNow" "I" : Cond) ∈ TT := TT_in 470 (by decide +kernel) rfl
theorem kf_X4_13 : (.fieldLink RX4 13 "SharedFaultModel" "settings" "[I" : Cond) ∈ TT := TT_in 471 (by decide +kernel) rfl
theorem kf_X4_17 : (.fieldLink RX4 17 "SharedFaultModel" "isIn" "[Z" : Cond) ∈ TT := TT_in 472 (by decide +kernel) rfl
theorem kf_X4_21 : (.fieldLink RX4 21 "SharedFaultModel" "weightOf" "[I" : Cond) ∈ TT := TT_in 473 (by decide +kernel) rfl
theorem kf_X4_24 : (.fieldLink RX4 24 "SharedFaultModel" "isBroke" "[Z" : Cond) ∈ TT := TT_in 474 (by decide +kernel) rfl
theorem kf_X4_27 : (.fieldLink RX4 27 "SharedFaultModel" "mateOf" "[I" : Cond) ∈ TT := TT_in 475 (by decide +kernel) rfl
theorem kf_X4_30 : (.fieldLink RX4 30 "SharedFaultModel" "settledFor" "[I" : Cond) ∈ TT := TT_in 476 (by decide +kernel) rfl
theorem kf_X4_33 : (.fieldLink RX4 33 "SharedFaultModel" "paidBy" "[I" : Cond) ∈ TT := TT_in 477 (by decide +kernel) rfl
theorem kf_X4_36 : (.fieldLink RX4 36 "SharedFaultModel" "allUp" "[J" : Cond) ∈ TT := TT_in 478 (by decide +kernel) rfl
theorem kf_X4_40 : (.fieldLink RX4 40 "SharedFaultModel" "allLow" "[J" : Cond) ∈ TT := TT_in 479 (by decide +kernel) rfl
theorem kf_X4_43 : (.fieldLink RX4 43 "SharedFaultModel" "unitUp" "[J" : Cond) ∈ TT := TT_in 480 (by decide +kernel) rfl
theorem kf_X4_46 : (.fieldLink RX4 46 "SharedFaultModel" "unitLow" "[J" : Cond) ∈ TT := TT_in 481 (by decide +kernel) rfl
theorem kf_X4_49 : (.fieldLink RX4 49 "SharedFaultModel" "overUp" "[J" : Cond) ∈ TT := TT_in 482 (by decide +kernel) rfl
theorem kf_X4_52 : (.fieldLink RX4 52 "SharedFaultModel" "overLow" "[J" : Cond) ∈ TT := TT_in 483 (by decide +kernel) rfl
theorem kf_X4_185 : (.fieldLink RX4 185 "SharedFaultModel" "transferMany" "I" : Cond) ∈ TT := TT_in 484 (by decide +kernel) rfl
theorem kf_X4_55 : (.fieldLink RX4 55 "SharedFaultModel" "giverOf" "[I" : Cond) ∈ TT := TT_in 485 (by decide +kernel) rfl
theorem kf_X4_58 : (.fieldLink RX4 58 "SharedFaultModel" "takerOf" "[I" : Cond) ∈ TT := TT_in 486 (by decide +kernel) rfl
theorem kf_X4_61 : (.fieldLink RX4 61 "SharedFaultModel" "givenUp" "[J" : Cond) ∈ TT := TT_in 487 (by decide +kernel) rfl
theorem kf_X4_64 : (.fieldLink RX4 64 "SharedFaultModel" "givenLow" "[J" : Cond) ∈ TT := TT_in 488 (by decide +kernel) rfl
theorem ka_boolean : (.arrayClass .boolean : Cond) ∈ TT := TT_in 534 (by decide +kernel) rfl
theorem km_L_17 : (.methodLink RL 17 yX4_loss : Cond) ∈ TT := TT_in 535 (by decide +kernel) rfl
theorem ki_X4_loss : (.instanceMethod yX4_loss : Cond) ∈ TT := TT_in 536 (by decide +kernel) rfl
theorem ks_X4_loss : (.selects RX4 yX4_loss yX4_loss : Cond) ∈ TT := TT_in 537 (by decide +kernel) rfl
set_option maxRecDepth 20000 in
theorem kc_X4_loss : (.code yX4_loss cX4_loss 3 (some .int) : Cond) ∈ TT := TT_in 538 rfl rfl
theorem kk_X4_86 : (.constant RX4 86 (1000000 : Int32) : Cond) ∈ TT := TT_in 539 (by decide +kernel) rfl
theorem km_X4_82 : (.methodLink RX4 82 yX4_within : Cond) ∈ TT := TT_in 540 (by decide +kernel) rfl
theorem kt_X4_within : (.static yX4_within : Cond) ∈ TT := TT_in 541 (by decide +kernel) rfl
set_option maxRecDepth 20000 in
theorem kc_X4_within : (.code yX4_within cX4_within 3 (some .boolean) : Cond) ∈ TT := TT_in 542 rfl rfl
theorem km_L_21 : (.methodLink RL 21 yX4_claimant : Cond) ∈ TT := TT_in 543 (by decide +kernel) rfl
theorem ki_X4_claimant : (.instanceMethod yX4_claimant : Cond) ∈ TT := TT_in 544 (by decide +kernel) rfl
theorem ks_X4_claimant : (.selects RX4 yX4_claimant yX4_claimant : Cond) ∈ TT := TT_in 545 (by decide +kernel) rfl
set_option maxRecDepth 20000 in
theorem kc_X4_claimant : (.code yX4_claimant cX4_claimant 3 (some .int) : Cond) ∈ TT := TT_in 546 rfl rfl
theorem km_L_25 : (.methodLink RL 25 yX4_wrong : Cond) ∈ TT := TT_in 547 (by decide +kernel) rfl
theorem ki_X4_wrong : (.instanceMethod yX4_wrong : Cond) ∈ TT := TT_in 548 (by decide +kernel) rfl
theorem ks_X4_wrong : (.selects RX4 yX4_wrong yX4_wrong : Cond) ∈ TT := TT_in 549 (by decide +kernel) rfl
set_option maxRecDepth 20000 in
theorem kc_X4_wrong : (.code yX4_wrong cX4_wrong 3 (some .int) : Cond) ∈ TT := TT_in 550 rfl rfl
theorem km_X4_94 : (.methodLink RX4 94 yX4_manyIn : Cond) ∈ TT := TT_in 551 (by decide +kernel) rfl
theorem ki_X4_manyIn : (.instanceMethod yX4_manyIn : Cond) ∈ TT := TT_in 553 (by decide +kernel) rfl
set_option maxRecDepth 20000 in
theorem kc_X4_manyIn : (.code yX4_manyIn cX4_manyIn 3 (some .int) : Cond) ∈ TT := TT_in 554 rfl rfl
theorem km_L_29 : (.methodLink RL 29 yX4_leave : Cond) ∈ TT := TT_in 555 (by decide +kernel) rfl
theorem ki_X4_leave : (.instanceMethod yX4_leave : Cond) ∈ TT := TT_in 556 (by decide +kernel) rfl
theorem ks_X4_leave : (.selects RX4 yX4_leave yX4_leave : Cond) ∈ TT := TT_in 557 (by decide +kernel) rfl
set_option maxRecDepth 20000 in
theorem kc_X4_leave : (.code yX4_leave cX4_leave 3 (some .int) : Cond) ∈ TT := TT_in 558 rfl rfl
theorem km_X4_98 : (.methodLink RX4 98 yX4_isThere : Cond) ∈ TT := TT_in 559 (by decide +kernel) rfl
theorem ki_X4_isThere : (.instanceMethod yX4_isThere : Cond) ∈ TT := TT_in 561 (by decide +kernel) rfl
set_option maxRecDepth 20000 in
theorem kc_X4_isThere : (.code yX4_isThere cX4_isThere 2 (some .boolean) : Cond) ∈ TT := TT_in 562 rfl rfl
theorem km_L_34 : (.methodLink RL 34 yX4_weight : Cond) ∈ TT := TT_in 563 (by decide +kernel) rfl
theorem ki_X4_weight : (.instanceMethod yX4_weight : Cond) ∈ TT := TT_in 564 (by decide +kernel) rfl
theorem ks_X4_weight : (.selects RX4 yX4_weight yX4_weight : Cond) ∈ TT := TT_in 565 (by decide +kernel) rfl
set_option maxRecDepth 20000 in
theorem kc_X4_weight : (.code yX4_weight cX4_weight 4 (some .int) : Cond) ∈ TT := TT_in 566 rfl rfl
theorem km_L_39 : (.methodLink RL 39 yX4_broke : Cond) ∈ TT := TT_in 567 (by decide +kernel) rfl
theorem ki_X4_broke : (.instanceMethod yX4_broke : Cond) ∈ TT := TT_in 568 (by decide +kernel) rfl
theorem ks_X4_broke : (.selects RX4 yX4_broke yX4_broke : Cond) ∈ TT := TT_in 569 (by decide +kernel) rfl
set_option maxRecDepth 20000 in
theorem kc_X4_broke : (.code yX4_broke cX4_broke 4 (some .int) : Cond) ∈ TT := TT_in 570 rfl rfl
theorem km_L_43 : (.methodLink RL 43 yX4_pair : Cond) ∈ TT := TT_in 571 (by decide +kernel) rfl
theorem ki_X4_pair : (.instanceMethod yX4_pair : Cond) ∈ TT := TT_in 572 (by decide +kernel) rfl
theorem ks_X4_pair : (.selects RX4 yX4_pair yX4_pair : Cond) ∈ TT := TT_in 573 (by decide +kernel) rfl
set_option maxRecDepth 20000 in
theorem kc_X4_pair : (.code yX4_pair cX4_pair 3 (some .int) : Cond) ∈ TT := TT_in 574 rfl rfl
theorem km_L_47 : (.methodLink RL 47 yX4_part : Cond) ∈ TT := TT_in 575 (by decide +kernel) rfl
theorem ki_X4_part : (.instanceMethod yX4_part : Cond) ∈ TT := TT_in 576 (by decide +kernel) rfl
theorem ks_X4_part : (.selects RX4 yX4_part yX4_part : Cond) ∈ TT := TT_in 577 (by decide +kernel) rfl
set_option maxRecDepth 20000 in
theorem kc_X4_part : (.code yX4_part cX4_part 2 (some .int) : Cond) ∈ TT := TT_in 578 rfl rfl
theorem km_L_51 : (.methodLink RL 51 yX4_settle : Cond) ∈ TT := TT_in 579 (by decide +kernel) rfl
theorem ki_X4_settle : (.instanceMethod yX4_settle : Cond) ∈ TT := TT_in 580 (by decide +kernel) rfl
theorem ks_X4_settle : (.selects RX4 yX4_settle yX4_settle : Cond) ∈ TT := TT_in 581 (by decide +kernel) rfl
set_option maxRecDepth 20000 in
theorem kc_X4_settle : (.code yX4_settle cX4_settle 3 (some .int) : Cond) ∈ TT := TT_in 582 rfl rfl
theorem km_X4_102 : (.methodLink RX4 102 yX4_settles : Cond) ∈ TT := TT_in 583 (by decide +kernel) rfl
theorem ki_X4_settles : (.instanceMethod yX4_settles : Cond) ∈ TT := TT_in 585 (by decide +kernel) rfl
set_option maxRecDepth 20000 in
theorem kc_X4_settles : (.code yX4_settles cX4_settles 3 none : Cond) ∈ TT := TT_in 586 rfl rfl
theorem km_L_55 : (.methodLink RL 55 yX4_reopen : Cond) ∈ TT := TT_in 587 (by decide +kernel) rfl
theorem ki_X4_reopen : (.instanceMethod yX4_reopen : Cond) ∈ TT := TT_in 588 (by decide +kernel) rfl
theorem ks_X4_reopen : (.selects RX4 yX4_reopen yX4_reopen : Cond) ∈ TT := TT_in 589 (by decide +kernel) rfl
set_option maxRecDepth 20000 in
theorem kc_X4_reopen : (.code yX4_reopen cX4_reopen 3 (some .int) : Cond) ∈ TT := TT_in 590 rfl rfl
theorem km_L_59 : (.methodLink RL 59 yX4_setting : Cond) ∈ TT := TT_in 591 (by decide +kernel) rfl
theorem ki_X4_setting : (.instanceMethod yX4_setting : Cond) ∈ TT := TT_in 592 (by decide +kernel) rfl
theorem ks_X4_setting : (.selects RX4 yX4_setting yX4_setting : Cond) ∈ TT := TT_in 593 (by decide +kernel) rfl
set_option maxRecDepth 20000 in
theorem kc_X4_setting : (.code yX4_setting cX4_setting 4 (some .int) : Cond) ∈ TT := TT_in 594 rfl rfl
theorem km_L_63 : (.methodLink RL 63 yX4_ofWrong : Cond) ∈ TT := TT_in 595 (by decide +kernel) rfl
theorem ki_X4_ofWrong : (.instanceMethod yX4_ofWrong : Cond) ∈ TT := TT_in 596 (by decide +kernel) rfl
theorem ks_X4_ofWrong : (.selects RX4 yX4_ofWrong yX4_ofWrong : Cond) ∈ TT := TT_in 597 (by decide +kernel) rfl
set_option maxRecDepth 20000 in
theorem kc_X4_ofWrong : (.code yX4_ofWrong cX4_ofWrong 3 (some .int) : Cond) ∈ TT := TT_in 598 rfl rfl
theorem km_L_68 : (.methodLink RL 68 yX4_amount : Cond) ∈ TT := TT_in 599 (by decide +kernel) rfl
theorem ki_X4_amount : (.instanceMethod yX4_amount : Cond) ∈ TT := TT_in 600 (by decide +kernel) rfl
theorem ks_X4_amount : (.selects RX4 yX4_amount yX4_amount : Cond) ∈ TT := TT_in 601 (by decide +kernel) rfl
set_option maxRecDepth 20000 in
theorem kc_X4_amount : (.code yX4_amount cX4_amount 3 (some .long) : Cond) ∈ TT := TT_in 602 rfl rfl
theorem km_X4_149 : (.methodLink RX4 149 yX4_isWhich : Cond) ∈ TT := TT_in 603 (by decide +kernel) rfl
theorem kt_X4_isWhich : (.static yX4_isWhich : Cond) ∈ TT := TT_in 604 (by decide +kernel) rfl
set_option maxRecDepth 20000 in
theorem kc_X4_isWhich : (.code yX4_isWhich cX4_isWhich 1 (some .boolean) : Cond) ∈ TT := TT_in 605 rfl rfl
theorem kj_X4_152 : (.constantLong RX4 152 (-9223372036854775808 : Int64) : Cond) ∈ TT := TT_in 606 (by decide +kernel) rfl
theorem km_X4_154 : (.methodLink RX4 154 yX4_findDues : Cond) ∈ TT := TT_in 607 (by decide +kernel) rfl
theorem ki_X4_findDues : (.instanceMethod yX4_findDues : Cond) ∈ TT := TT_in 609 (by decide +kernel) rfl
set_option maxRecDepth 20000 in
theorem kc_X4_findDues : (.code yX4_findDues cX4_findDues 6 none : Cond) ∈ TT := TT_in 610 rfl rfl
theorem km_X4_134 : (.methodLink RX4 134 yX4_findRest : Cond) ∈ TT := TT_in 611 (by decide +kernel) rfl
theorem ki_X4_findRest : (.instanceMethod yX4_findRest : Cond) ∈ TT := TT_in 613 (by decide +kernel) rfl
set_option maxRecDepth 20000 in
theorem kc_X4_findRest : (.code yX4_findRest cX4_findRest 2 none : Cond) ∈ TT := TT_in 614 rfl rfl
theorem km_X4_119 : (.methodLink RX4 119 yX4_findEntitled : Cond) ∈ TT := TT_in 615 (by decide +kernel) rfl
theorem ki_X4_findEntitled : (.instanceMethod yX4_findEntitled : Cond) ∈ TT := TT_in 617 (by decide +kernel) rfl
set_option maxRecDepth 20000 in
theorem kc_X4_findEntitled : (.code yX4_findEntitled cX4_findEntitled 3 none : Cond) ∈ TT := TT_in 618 rfl rfl
theorem km_X4_106 : (.methodLink RX4 106 yX4_blame : Cond) ∈ TT := TT_in 619 (by decide +kernel) rfl
theorem ki_X4_blame : (.instanceMethod yX4_blame : Cond) ∈ TT := TT_in 621 (by decide +kernel) rfl
set_option maxRecDepth 20000 in
theorem kc_X4_blame : (.code yX4_blame cX4_blame 3 (some .int) : Cond) ∈ TT := TT_in 622 rfl rfl
theorem km_X4_78 : (.methodLink RX4 78 yX4_makes : Cond) ∈ TT := TT_in 623 (by decide +kernel) rfl
theorem ki_X4_makes : (.instanceMethod yX4_makes : Cond) ∈ TT := TT_in 625 (by decide +kernel) rfl
set_option maxRecDepth 20000 in
theorem kc_X4_makes : (.code yX4_makes cX4_makes 7 none : Cond) ∈ TT := TT_in 626 rfl rfl
theorem km_X4_71 : (.methodLink RX4 71 yX4_common : Cond) ∈ TT := TT_in 627 (by decide +kernel) rfl
theorem kt_X4_common : (.static yX4_common : Cond) ∈ TT := TT_in 628 (by decide +kernel) rfl
set_option maxRecDepth 20000 in
theorem kc_X4_common : (.code yX4_common cX4_common 10 (some .long) : Cond) ∈ TT := TT_in 629 rfl rfl
theorem km_X4_122 : (.methodLink RX4 122 yX4_keeps : Cond) ∈ TT := TT_in 630 (by decide +kernel) rfl
theorem ki_X4_keeps : (.instanceMethod yX4_keeps : Cond) ∈ TT := TT_in 632 (by decide +kernel) rfl
set_option maxRecDepth 20000 in
theorem kc_X4_keeps : (.code yX4_keeps cX4_keeps 2 none : Cond) ∈ TT := TT_in 633 rfl rfl
theorem km_X4_113 : (.methodLink RX4 113 yX4_isUnit : Cond) ∈ TT := TT_in 634 (by decide +kernel) rfl
theorem ki_X4_isUnit : (.instanceMethod yX4_isUnit : Cond) ∈ TT := TT_in 636 (by decide +kernel) rfl
set_option maxRecDepth 20000 in
theorem kc_X4_isUnit : (.code yX4_isUnit cX4_isUnit 2 (some .boolean) : Cond) ∈ TT := TT_in 637 rfl rfl
theorem km_X4_125 : (.methodLink RX4 125 yX4_findCredit : Cond) ∈ TT := TT_in 638 (by decide +kernel) rfl
theorem ki_X4_findCredit : (.instanceMethod yX4_findCredit : Cond) ∈ TT := TT_in 640 (by decide +kernel) rfl
set_option maxRecDepth 20000 in
theorem kc_X4_findCredit : (.code yX4_findCredit cX4_findCredit 6 none : Cond) ∈ TT := TT_in 641 rfl rfl
theorem km_X4_109 : (.methodLink RX4 109 yX4_unitWeight : Cond) ∈ TT := TT_in 642 (by decide +kernel) rfl
theorem ki_X4_unitWeight : (.instanceMethod yX4_unitWeight : Cond) ∈ TT := TT_in 644 (by decide +kernel) rfl
set_option maxRecDepth 20000 in
theorem kc_X4_unitWeight : (.code yX4_unitWeight cX4_unitWeight 2 (some .int) : Cond) ∈ TT := TT_in 645 rfl rfl
theorem km_X4_128 : (.methodLink RX4 128 yX4_adds : Cond) ∈ TT := TT_in 646 (by decide +kernel) rfl
theorem ki_X4_adds : (.instanceMethod yX4_adds : Cond) ∈ TT := TT_in 648 (by decide +kernel) rfl
set_option maxRecDepth 20000 in
theorem kc_X4_adds : (.code yX4_adds cX4_adds 13 none : Cond) ∈ TT := TT_in 649 rfl rfl
theorem kj_X4_132 : (.constantLong RX4 132 (-1 : Int64) : Cond) ∈ TT := TT_in 650 (by decide +kernel) rfl
theorem km_X4_137 : (.methodLink RX4 137 yX4_openWeight : Cond) ∈ TT := TT_in 651 (by decide +kernel) rfl
theorem ki_X4_openWeight : (.instanceMethod yX4_openWeight : Cond) ∈ TT := TT_in 653 (by decide +kernel) rfl
set_option maxRecDepth 20000 in
theorem kc_X4_openWeight : (.code yX4_openWeight cX4_openWeight 4 (some .int) : Cond) ∈ TT := TT_in 654 rfl rfl
theorem km_X4_116 : (.methodLink RX4 116 yX4_isUnitBroke : Cond) ∈ TT := TT_in 655 (by decide +kernel) rfl
theorem ki_X4_isUnitBroke : (.instanceMethod yX4_isUnitBroke : Cond) ∈ TT := TT_in 657 (by decide +kernel) rfl
set_option maxRecDepth 20000 in
theorem kc_X4_isUnitBroke : (.code yX4_isUnitBroke cX4_isUnitBroke 2 (some .boolean) : Cond) ∈ TT := TT_in 658 rfl rfl
theorem km_X4_141 : (.methodLink RX4 141 yX4_findUnit : Cond) ∈ TT := TT_in 659 (by decide +kernel) rfl
theorem ki_X4_findUnit : (.instanceMethod yX4_findUnit : Cond) ∈ TT := TT_in 661 (by decide +kernel) rfl
set_option maxRecDepth 20000 in
theorem kc_X4_findUnit : (.code yX4_findUnit cX4_findUnit 5 none : Cond) ∈ TT := TT_in 662 rfl rfl
theorem km_X4_145 : (.methodLink RX4 145 yX4_multiplies : Cond) ∈ TT := TT_in 663 (by decide +kernel) rfl
theorem ki_X4_multiplies : (.instanceMethod yX4_multiplies : Cond) ∈ TT := TT_in 665 (by decide +kernel) rfl
set_option maxRecDepth 20000 in
theorem kc_X4_multiplies : (.code yX4_multiplies cX4_multiplies 13 none : Cond) ∈ TT := TT_in 666 rfl rfl
theorem km_L_72 : (.methodLink RL 72 yX4_credit : Cond) ∈ TT := TT_in 667 (by decide +kernel) rfl
theorem ki_X4_credit : (.instanceMethod yX4_credit : Cond) ∈ TT := TT_in 668 (by decide +kernel) rfl
theorem ks_X4_credit : (.selects RX4 yX4_credit yX4_credit : Cond) ∈ TT := TT_in 669 (by decide +kernel) rfl
set_option maxRecDepth 20000 in
theorem kc_X4_credit : (.code yX4_credit cX4_credit 3 (some .long) : Cond) ∈ TT := TT_in 670 rfl rfl
theorem km_X4_157 : (.methodLink RX4 157 yX4_unitOf : Cond) ∈ TT := TT_in 671 (by decide +kernel) rfl
theorem ki_X4_unitOf : (.instanceMethod yX4_unitOf : Cond) ∈ TT := TT_in 673 (by decide +kernel) rfl
set_option maxRecDepth 20000 in
theorem kc_X4_unitOf : (.code yX4_unitOf cX4_unitOf 2 (some .int) : Cond) ∈ TT := TT_in 674 rfl rfl
theorem km_X4_160 : (.methodLink RX4 160 yX4_told : Cond) ∈ TT := TT_in 675 (by decide +kernel) rfl
theorem ki_X4_told : (.instanceMethod yX4_told : Cond) ∈ TT := TT_in 677 (by decide +kernel) rfl
set_option maxRecDepth 20000 in
theorem kc_X4_told : (.code yX4_told cX4_told 2 (some .long) : Cond) ∈ TT := TT_in 678 rfl rfl
theorem km_L_76 : (.methodLink RL 76 yX4_unitDue : Cond) ∈ TT := TT_in 679 (by decide +kernel) rfl
theorem ki_X4_unitDue : (.instanceMethod yX4_unitDue : Cond) ∈ TT := TT_in 680 (by decide +kernel) rfl
theorem ks_X4_unitDue : (.selects RX4 yX4_unitDue yX4_unitDue : Cond) ∈ TT := TT_in 681 (by decide +kernel) rfl
set_option maxRecDepth 20000 in
theorem kc_X4_unitDue : (.code yX4_unitDue cX4_unitDue 3 (some .long) : Cond) ∈ TT := TT_in 682 rfl rfl
theorem km_L_80 : (.methodLink RL 80 yX4_due : Cond) ∈ TT := TT_in 683 (by decide +kernel) rfl
theorem ki_X4_due : (.instanceMethod yX4_due : Cond) ∈ TT := TT_in 684 (by decide +kernel) rfl
theorem ks_X4_due : (.selects RX4 yX4_due yX4_due : Cond) ∈ TT := TT_in 685 (by decide +kernel) rfl
set_option maxRecDepth 20000 in
theorem kc_X4_due : (.code yX4_due cX4_due 3 (some .long) : Cond) ∈ TT := TT_in 686 rfl rfl
theorem km_X4_166 : (.methodLink RX4 166 yX4_findDue : Cond) ∈ TT := TT_in 687 (by decide +kernel) rfl
theorem ki_X4_findDue : (.instanceMethod yX4_findDue : Cond) ∈ TT := TT_in 689 (by decide +kernel) rfl
set_option maxRecDepth 20000 in
theorem kc_X4_findDue : (.code yX4_findDue cX4_findDue 4 none : Cond) ∈ TT := TT_in 690 rfl rfl
theorem kj_X4_164 : (.constantLong RX4 164 (2 : Int64) : Cond) ∈ TT := TT_in 691 (by decide +kernel) rfl
theorem km_L_85 : (.methodLink RL 85 yX4_gets : Cond) ∈ TT := TT_in 692 (by decide +kernel) rfl
theorem ki_X4_gets : (.instanceMethod yX4_gets : Cond) ∈ TT := TT_in 693 (by decide +kernel) rfl
theorem ks_X4_gets : (.selects RX4 yX4_gets yX4_gets : Cond) ∈ TT := TT_in 694 (by decide +kernel) rfl
set_option maxRecDepth 20000 in
theorem kc_X4_gets : (.code yX4_gets cX4_gets 4 (some .long) : Cond) ∈ TT := TT_in 695 rfl rfl
theorem km_X4_172 : (.methodLink RX4 172 yX4_findGetsBy : Cond) ∈ TT := TT_in 696 (by decide +kernel) rfl
theorem ki_X4_findGetsBy : (.instanceMethod yX4_findGetsBy : Cond) ∈ TT := TT_in 698 (by decide +kernel) rfl
set_option maxRecDepth 20000 in
theorem kc_X4_findGetsBy : (.code yX4_findGetsBy cX4_findGetsBy 5 none : Cond) ∈ TT := TT_in 699 rfl rfl
theorem km_X4_169 : (.methodLink RX4 169 yX4_findGets : Cond) ∈ TT := TT_in 700 (by decide +kernel) rfl
theorem ki_X4_findGets : (.instanceMethod yX4_findGets : Cond) ∈ TT := TT_in 702 (by decide +kernel) rfl
set_option maxRecDepth 20000 in
theorem kc_X4_findGets : (.code yX4_findGets cX4_findGets 4 none : Cond) ∈ TT := TT_in 703 rfl rfl
theorem km_L_90 : (.methodLink RL 90 yX4_bestManner : Cond) ∈ TT := TT_in 704 (by decide +kernel) rfl
theorem ki_X4_bestManner : (.instanceMethod yX4_bestManner : Cond) ∈ TT := TT_in 705 (by decide +kernel) rfl
theorem ks_X4_bestManner : (.selects RX4 yX4_bestManner yX4_bestManner : Cond) ∈ TT := TT_in 706 (by decide +kernel) rfl
set_option maxRecDepth 20000 in
theorem kc_X4_bestManner : (.code yX4_bestManner cX4_bestManner 7 (some .int) : Cond) ∈ TT := TT_in 707 rfl rfl
theorem km_L_94 : (.methodLink RL 94 yX4_saves : Cond) ∈ TT := TT_in 708 (by decide +kernel) rfl
theorem ki_X4_saves : (.instanceMethod yX4_saves : Cond) ∈ TT := TT_in 709 (by decide +kernel) rfl
theorem ks_X4_saves : (.selects RX4 yX4_saves yX4_saves : Cond) ∈ TT := TT_in 710 (by decide +kernel) rfl
set_option maxRecDepth 20000 in
theorem kc_X4_saves : (.code yX4_saves cX4_saves 5 (some .long) : Cond) ∈ TT := TT_in 711 rfl rfl
theorem km_L_98 : (.methodLink RL 98 yX4_misses : Cond) ∈ TT := TT_in 712 (by decide +kernel) rfl
theorem ki_X4_misses : (.instanceMethod yX4_misses : Cond) ∈ TT := TT_in 713 (by decide +kernel) rfl
theorem ks_X4_misses : (.selects RX4 yX4_misses yX4_misses : Cond) ∈ TT := TT_in 714 (by decide +kernel) rfl
set_option maxRecDepth 20000 in
theorem kc_X4_misses : (.code yX4_misses cX4_misses 8 (some .long) : Cond) ∈ TT := TT_in 715 rfl rfl
theorem km_L_102 : (.methodLink RL 102 yX4_owe : Cond) ∈ TT := TT_in 716 (by decide +kernel) rfl
theorem ki_X4_owe : (.instanceMethod yX4_owe : Cond) ∈ TT := TT_in 717 (by decide +kernel) rfl
theorem ks_X4_owe : (.selects RX4 yX4_owe yX4_owe : Cond) ∈ TT := TT_in 718 (by decide +kernel) rfl
set_option maxRecDepth 20000 in
theorem kc_X4_owe : (.code yX4_owe cX4_owe 3 (some .int) : Cond) ∈ TT := TT_in 719 rfl rfl
theorem km_L_106 : (.methodLink RL 106 yX4_pay : Cond) ∈ TT := TT_in 720 (by decide +kernel) rfl
theorem ki_X4_pay : (.instanceMethod yX4_pay : Cond) ∈ TT := TT_in 721 (by decide +kernel) rfl
theorem ks_X4_pay : (.selects RX4 yX4_pay yX4_pay : Cond) ∈ TT := TT_in 722 (by decide +kernel) rfl
set_option maxRecDepth 20000 in
theorem kc_X4_pay : (.code yX4_pay cX4_pay 3 (some .int) : Cond) ∈ TT := TT_in 723 rfl rfl
theorem km_X4_175 : (.methodLink RX4 175 yX4_paidAll : Cond) ∈ TT := TT_in 724 (by decide +kernel) rfl
theorem ki_X4_paidAll : (.instanceMethod yX4_paidAll : Cond) ∈ TT := TT_in 726 (by decide +kernel) rfl
set_option maxRecDepth 20000 in
theorem kc_X4_paidAll : (.code yX4_paidAll cX4_paidAll 4 (some .long) : Cond) ∈ TT := TT_in 727 rfl rfl
theorem km_L_110 : (.methodLink RL 110 yX4_refund : Cond) ∈ TT := TT_in 728 (by decide +kernel) rfl
theorem ki_X4_refund : (.instanceMethod yX4_refund : Cond) ∈ TT := TT_in 729 (by decide +kernel) rfl
theorem ks_X4_refund : (.selects RX4 yX4_refund yX4_refund : Cond) ∈ TT := TT_in 730 (by decide +kernel) rfl
set_option maxRecDepth 20000 in
theorem kc_X4_refund : (.code yX4_refund cX4_refund 3 (some .int) : Cond) ∈ TT := TT_in 731 rfl rfl
theorem km_L_114 : (.methodLink RL 114 yX4_fair : Cond) ∈ TT := TT_in 732 (by decide +kernel) rfl
theorem ki_X4_fair : (.instanceMethod yX4_fair : Cond) ∈ TT := TT_in 733 (by decide +kernel) rfl
theorem ks_X4_fair : (.selects RX4 yX4_fair yX4_fair : Cond) ∈ TT := TT_in 734 (by decide +kernel) rfl
set_option maxRecDepth 20000 in
theorem kc_X4_fair : (.code yX4_fair cX4_fair 3 (some .long) : Cond) ∈ TT := TT_in 735 rfl rfl
theorem km_X4_179 : (.methodLink RX4 179 yX4_findFair : Cond) ∈ TT := TT_in 736 (by decide +kernel) rfl
theorem ki_X4_findFair : (.instanceMethod yX4_findFair : Cond) ∈ TT := TT_in 738 (by decide +kernel) rfl
set_option maxRecDepth 20000 in
theorem kc_X4_findFair : (.code yX4_findFair cX4_findFair 2 none : Cond) ∈ TT := TT_in 739 rfl rfl
theorem km_L_118 : (.methodLink RL 118 yX4_over : Cond) ∈ TT := TT_in 740 (by decide +kernel) rfl
theorem ki_X4_over : (.instanceMethod yX4_over : Cond) ∈ TT := TT_in 741 (by decide +kernel) rfl
theorem ks_X4_over : (.selects RX4 yX4_over yX4_over : Cond) ∈ TT := TT_in 742 (by decide +kernel) rfl
set_option maxRecDepth 20000 in
theorem kc_X4_over : (.code yX4_over cX4_over 3 (some .long) : Cond) ∈ TT := TT_in 743 rfl rfl
theorem km_X4_182 : (.methodLink RX4 182 yX4_findOver : Cond) ∈ TT := TT_in 744 (by decide +kernel) rfl
theorem ki_X4_findOver : (.instanceMethod yX4_findOver : Cond) ∈ TT := TT_in 746 (by decide +kernel) rfl
set_option maxRecDepth 20000 in
theorem kc_X4_findOver : (.code yX4_findOver cX4_findOver 2 none : Cond) ∈ TT := TT_in 747 rfl rfl
theorem km_L_122 : (.methodLink RL 122 yX4_transfers : Cond) ∈ TT := TT_in 748 (by decide +kernel) rfl
theorem ki_X4_transfers : (.instanceMethod yX4_transfers : Cond) ∈ TT := TT_in 749 (by decide +kernel) rfl
theorem ks_X4_transfers : (.selects RX4 yX4_transfers yX4_transfers : Cond) ∈ TT := TT_in 750 (by decide +kernel) rfl
set_option maxRecDepth 20000 in
theorem kc_X4_transfers : (.code yX4_transfers cX4_transfers 1 (some .int) : Cond) ∈ TT := TT_in 751 rfl rfl
theorem km_X4_194 : (.methodLink RX4 194 yX4_findTransfers : Cond) ∈ TT := TT_in 752 (by decide +kernel) rfl
theorem ki_X4_findTransfers : (.instanceMethod yX4_findTransfers : Cond) ∈ TT := TT_in 754 (by decide +kernel) rfl
set_option maxRecDepth 20000 in
theorem kc_X4_findTransfers : (.code yX4_findTransfers cX4_findTransfers 3 none : Cond) ∈ TT := TT_in 755 rfl rfl
theorem km_X4_188 : (.methodLink RX4 188 yX4_firstWith : Cond) ∈ TT := TT_in 756 (by decide +kernel) rfl
theorem ki_X4_firstWith : (.instanceMethod yX4_firstWith : Cond) ∈ TT := TT_in 758 (by decide +kernel) rfl
set_option maxRecDepth 20000 in
theorem kc_X4_firstWith : (.code yX4_firstWith cX4_firstWith 3 (some .int) : Cond) ∈ TT := TT_in 759 rfl rfl
theorem km_X4_191 : (.methodLink RX4 191 yX4_goesOver : Cond) ∈ TT := TT_in 760 (by decide +kernel) rfl
theorem ki_X4_goesOver : (.instanceMethod yX4_goesOver : Cond) ∈ TT := TT_in 762 (by decide +kernel) rfl
set_option maxRecDepth 20000 in
theorem kc_X4_goesOver : (.code yX4_goesOver cX4_goesOver 7 none : Cond) ∈ TT := TT_in 763 rfl rfl
theorem km_L_126 : (.methodLink RL 126 yX4_transfer : Cond) ∈ TT := TT_in 764 (by decide +kernel) rfl
theorem ki_X4_transfer : (.instanceMethod yX4_transfer : Cond) ∈ TT := TT_in 765 (by decide +kernel) rfl
theorem ks_X4_transfer : (.selects RX4 yX4_transfer yX4_transfer : Cond) ∈ TT := TT_in 766 (by decide +kernel) rfl
set_option maxRecDepth 20000 in
theorem kc_X4_transfer : (.code yX4_transfer cX4_transfer 3 (some .int) : Cond) ∈ TT := TT_in 767 rfl rfl
theorem km_L_130 : (.methodLink RL 130 yX4_given : Cond) ∈ TT := TT_in 768 (by decide +kernel) rfl
theorem ki_X4_given : (.instanceMethod yX4_given : Cond) ∈ TT := TT_in 769 (by decide +kernel) rfl
theorem ks_X4_given : (.selects RX4 yX4_given yX4_given : Cond) ∈ TT := TT_in 770 (by decide +kernel) rfl
set_option maxRecDepth 20000 in
theorem kc_X4_given : (.code yX4_given cX4_given 3 (some .long) : Cond) ∈ TT := TT_in 771 rfl rfl
theorem km_L_134 : (.methodLink RL 134 yX4_many : Cond) ∈ TT := TT_in 772 (by decide +kernel) rfl
theorem ki_X4_many : (.instanceMethod yX4_many : Cond) ∈ TT := TT_in 773 (by decide +kernel) rfl
theorem ks_X4_many : (.selects RX4 yX4_many yX4_many : Cond) ∈ TT := TT_in 774 (by decide +kernel) rfl
set_option maxRecDepth 20000 in
theorem kc_X4_many : (.code yX4_many cX4_many 2 (some .int) : Cond) ∈ TT := TT_in 775 rfl rfl
theorem km_X4_197 : (.methodLink RX4 197 yX4_manyUnits : Cond) ∈ TT := TT_in 776 (by decide +kernel) rfl
theorem ki_X4_manyUnits : (.instanceMethod yX4_manyUnits : Cond) ∈ TT := TT_in 778 (by decide +kernel) rfl
set_option maxRecDepth 20000 in
theorem kc_X4_manyUnits : (.code yX4_manyUnits cX4_manyUnits 6 (some .int) : Cond) ∈ TT := TT_in 779 rfl rfl
theorem hiX0 : ∀ w ∈ u_ws RX0 TX0 5, w ∈ TT := fun w h => by
  have e : u_ws RX0 TX0 5 = [84, 86, 88, 90, 92].filterMap (fun i => lw_tbl[i]?) := by decide +kernel
  have g : (u_ws RX0 TX0 5).all goodWord = true := by decide +kernel
  have h1 := List.all_eq_true.mp g w h
  rw [e] at h
  obtain ⟨i, -, hi⟩ := List.mem_filterMap.mp h
  exact TT_in i hi h1
theorem hiX3 : ∀ w ∈ u_ws RX3 TX3 11, w ∈ TT := fun w h => by
  have e : u_ws RX3 TX3 11 = [108, 110, 112, 114, 116, 118, 120, 122, 124, 126, 128].filterMap (fun i => lw_tbl[i]?) := by decide +kernel
  have g : (u_ws RX3 TX3 11).all goodWord = true := by decide +kernel
  have h1 := List.all_eq_true.mp g w h
  rw [e] at h
  obtain ⟨i, -, hi⟩ := List.mem_filterMap.mp h
  exact TT_in i hi h1
theorem hiX2 : ∀ w ∈ u_ws RX2 TX2 2, w ∈ TT := fun w h => by
  have e : u_ws RX2 TX2 2 = [290, 292].filterMap (fun i => lw_tbl[i]?) := by decide +kernel
  have g : (u_ws RX2 TX2 2).all goodWord = true := by decide +kernel
  have h1 := List.all_eq_true.mp g w h
  rw [e] at h
  obtain ⟨i, -, hi⟩ := List.mem_filterMap.mp h
  exact TT_in i hi h1
theorem hiX1 : ∀ w ∈ u_ws RX1 TX1 7, w ∈ TT := fun w h => by
  have e : u_ws RX1 TX1 7 = [324, 326, 328, 330, 332, 334, 336].filterMap (fun i => lw_tbl[i]?) := by decide +kernel
  have g : (u_ws RX1 TX1 7).all goodWord = true := by decide +kernel
  have h1 := List.all_eq_true.mp g w h
  rw [e] at h
  obtain ⟨i, -, hi⟩ := List.mem_filterMap.mp h
  exact TT_in i hi h1
theorem hiX4 : ∀ w ∈ u_ws RX4 TX4 22, w ∈ TT := fun w h => by
  have e : u_ws RX4 TX4 22 = [489, 491, 493, 495, 497, 499, 501, 503, 505, 507, 509, 511, 513, 515, 517, 519, 521, 523, 525, 527, 529, 531].filterMap (fun i => lw_tbl[i]?) := by decide +kernel
  have g : (u_ws RX4 TX4 22).all goodWord = true := by decide +kernel
  have h1 := List.all_eq_true.mp g w h
  rw [e] at h
  obtain ⟨i, -, hi⟩ := List.mem_filterMap.mp h
  exact TT_in i hi h1
