/-! the words that all methods share: the good ones of the tables -/
def GG : List Cond := lw_tbl.filter goodWord
theorem GG_in {i : Nat} {w : Cond} (h : lw_tbl[i]? = some w) (hg : goodWord w = true) : w ∈ GG := List.mem_filter.mpr ⟨List.mem_of_getElem? h, hg⟩
theorem GG_good : ∀ w ∈ GG, (w.onTables && w.keeps) = true ∨ ∃ ty, w = .arrayClass ty := fun _ h => good_of_word (List.mem_filter.mp h).2
theorem wE_L_8 : Cond.classLink RL 8 RX7 ∈ GG := GG_in (i := 63) (by decide +kernel) (by decide +kernel)
theorem wB_X7 : Cond.instantiable RX7 13 ∈ GG := GG_in (i := 64) (by decide +kernel) (by decide +kernel)
theorem wN_X7 : Cond.initialized RX7 ∈ GG := GG_in (i := 46) (by decide +kernel) (by decide +kernel)
theorem wE_L_16 : Cond.classLink RL 16 RX8 ∈ GG := GG_in (i := 700) (by decide +kernel) (by decide +kernel)
theorem wB_X8 : Cond.instantiable RX8 30 ∈ GG := GG_in (i := 701) (by decide +kernel) (by decide +kernel)
theorem wN_X8 : Cond.initialized RX8 ∈ GG := GG_in (i := 53) (by decide +kernel) (by decide +kernel)
theorem wA_long : Cond.arrayClass .long ∈ GG := GG_in (i := 176) (by decide +kernel) (by decide +kernel)
theorem wM_L_15 : Cond.methodLink RL 15 yX7_init ∈ GG := GG_in (i := 65) (by decide +kernel) (by decide +kernel)
theorem wI_X7_init : Cond.instanceMethod yX7_init ∈ GG := GG_in (i := 66) (by decide +kernel) (by decide +kernel)
set_option maxRecDepth 100000 in
theorem wC_X7_init : Cond.code yX7_init cX7_init 1 none ∈ GG := GG_in (i := 67) (rfl) (by decide +kernel)
theorem wM_X7_3 : Cond.methodLink RX7 3 objectInit ∈ GG := GG_in (i := 68) (by decide +kernel) (by decide +kernel)
theorem wI_objInit : Cond.instanceMethod objectInit ∈ GG := GG_in (i := 69) (by decide +kernel) (by decide +kernel)
set_option maxRecDepth 100000 in
theorem wC_objInit : Cond.code objectInit ⟨#[0xb1]⟩ 1 none ∈ GG := GG_in (i := 70) (rfl) (by decide +kernel)
theorem wE_X7_9 : Cond.classLink RX7 9 RX3 ∈ GG := GG_in (i := 71) (by decide +kernel) (by decide +kernel)
theorem wF_X7_11 : Cond.fieldLink RX7 11 "PairSieve" "sets" "[LPairSieve$NumberSet;" ∈ GG := GG_in (i := 190) (by decide +kernel) (by decide +kernel)
theorem wE_X7_15 : Cond.classLink RX7 15 RX5 ∈ GG := GG_in (i := 73) (by decide +kernel) (by decide +kernel)
theorem wB_X5 : Cond.instantiable RX5 3 ∈ GG := GG_in (i := 74) (by decide +kernel) (by decide +kernel)
theorem wN_X5 : Cond.initialized RX5 ∈ GG := GG_in (i := 47) (by decide +kernel) (by decide +kernel)
theorem wF_X7_20 : Cond.fieldLink RX7 20 "PairSieve" "frequencies" "LPairSieve$Table;" ∈ GG := GG_in (i := 192) (by decide +kernel) (by decide +kernel)
theorem wF_X7_24 : Cond.fieldLink RX7 24 "PairSieve" "told" "LPairSieve$Table;" ∈ GG := GG_in (i := 193) (by decide +kernel) (by decide +kernel)
theorem wE_X7_27 : Cond.classLink RX7 27 RX1 ∈ GG := GG_in (i := 91) (by decide +kernel) (by decide +kernel)
theorem wB_X1 : Cond.instantiable RX1 3 ∈ GG := GG_in (i := 92) (by decide +kernel) (by decide +kernel)
theorem wN_X1 : Cond.initialized RX1 ∈ GG := GG_in (i := 48) (by decide +kernel) (by decide +kernel)
theorem wF_X7_30 : Cond.fieldLink RX7 30 "PairSieve" "limit" "LPairSieve$Measure;" ∈ GG := GG_in (i := 194) (by decide +kernel) (by decide +kernel)
theorem wE_X7_34 : Cond.classLink RX7 34 RX6 ∈ GG := GG_in (i := 110) (by decide +kernel) (by decide +kernel)
theorem wB_X6 : Cond.instantiable RX6 3 ∈ GG := GG_in (i := 111) (by decide +kernel) (by decide +kernel)
theorem wN_X6 : Cond.initialized RX6 ∈ GG := GG_in (i := 49) (by decide +kernel) (by decide +kernel)
theorem wF_X7_37 : Cond.fieldLink RX7 37 "PairSieve" "tape" "LPairSieve$Tape;" ∈ GG := GG_in (i := 195) (by decide +kernel) (by decide +kernel)
theorem wE_X7_41 : Cond.classLink RX7 41 RX4 ∈ GG := GG_in (i := 128) (by decide +kernel) (by decide +kernel)
theorem wB_X4 : Cond.instantiable RX4 3 ∈ GG := GG_in (i := 129) (by decide +kernel) (by decide +kernel)
theorem wN_X4 : Cond.initialized RX4 ∈ GG := GG_in (i := 50) (by decide +kernel) (by decide +kernel)
theorem wF_X7_44 : Cond.fieldLink RX7 44 "PairSieve" "overlap" "LPairSieve$Overlap;" ∈ GG := GG_in (i := 196) (by decide +kernel) (by decide +kernel)
theorem wA_int : Cond.arrayClass .int ∈ GG := GG_in (i := 90) (by decide +kernel) (by decide +kernel)
theorem wF_X7_48 : Cond.fieldLink RX7 48 "PairSieve" "beginnings" "[I" ∈ GG := GG_in (i := 197) (by decide +kernel) (by decide +kernel)
theorem wF_X7_52 : Cond.fieldLink RX7 52 "PairSieve" "tally" "[I" ∈ GG := GG_in (i := 198) (by decide +kernel) (by decide +kernel)
theorem wE_X7_55 : Cond.classLink RX7 55 RX0 ∈ GG := GG_in (i := 147) (by decide +kernel) (by decide +kernel)
theorem wB_X0 : Cond.instantiable RX0 6 ∈ GG := GG_in (i := 148) (by decide +kernel) (by decide +kernel)
theorem wN_X0 : Cond.initialized RX0 ∈ GG := GG_in (i := 51) (by decide +kernel) (by decide +kernel)
theorem wF_X7_58 : Cond.fieldLink RX7 58 "PairSieve" "kept" "LPairSieve$KeptPairs;" ∈ GG := GG_in (i := 200) (by decide +kernel) (by decide +kernel)
theorem wE_X7_62 : Cond.classLink RX7 62 RX2 ∈ GG := GG_in (i := 177) (by decide +kernel) (by decide +kernel)
theorem wB_X2 : Cond.instantiable RX2 2 ∈ GG := GG_in (i := 178) (by decide +kernel) (by decide +kernel)
theorem wN_X2 : Cond.initialized RX2 ∈ GG := GG_in (i := 52) (by decide +kernel) (by decide +kernel)
theorem wF_X7_65 : Cond.fieldLink RX7 65 "PairSieve" "net" "LPairSieve$Net;" ∈ GG := GG_in (i := 201) (by decide +kernel) (by decide +kernel)
theorem wM_X7_17 : Cond.methodLink RX7 17 yX5_init ∈ GG := GG_in (i := 75) (by decide +kernel) (by decide +kernel)
theorem wI_X5_init : Cond.instanceMethod yX5_init ∈ GG := GG_in (i := 76) (by decide +kernel) (by decide +kernel)
set_option maxRecDepth 100000 in
theorem wC_X5_init : Cond.code yX5_init cX5_init 2 none ∈ GG := GG_in (i := 77) (rfl) (by decide +kernel)
theorem wM_X5_1 : Cond.methodLink RX5 1 objectInit ∈ GG := GG_in (i := 78) (by decide +kernel) (by decide +kernel)
theorem wF_X5_7 : Cond.fieldLink RX5 7 "PairSieve$Table" "numbers" "[I" ∈ GG := GG_in (i := 79) (by decide +kernel) (by decide +kernel)
theorem wF_X5_13 : Cond.fieldLink RX5 13 "PairSieve$Table" "values" "[I" ∈ GG := GG_in (i := 80) (by decide +kernel) (by decide +kernel)
theorem wI_X1_init : Cond.instanceMethod yX1_init ∈ GG := GG_in (i := 94) (by decide +kernel) (by decide +kernel)
set_option maxRecDepth 100000 in
theorem wC_X1_init : Cond.code yX1_init cX1_init 1 none ∈ GG := GG_in (i := 95) (rfl) (by decide +kernel)
theorem wM_X1_3 : Cond.methodLink RX1 3 objectInit ∈ GG := GG_in (i := 96) (by decide +kernel) (by decide +kernel)
theorem wF_X1_9 : Cond.fieldLink RX1 9 "PairSieve$Measure" "kind" "I" ∈ GG := GG_in (i := 97) (by decide +kernel) (by decide +kernel)
theorem wF_X1_15 : Cond.fieldLink RX1 15 "PairSieve$Measure" "p" "I" ∈ GG := GG_in (i := 99) (by decide +kernel) (by decide +kernel)
theorem wF_X1_18 : Cond.fieldLink RX1 18 "PairSieve$Measure" "q" "I" ∈ GG := GG_in (i := 101) (by decide +kernel) (by decide +kernel)
theorem wI_X6_init : Cond.instanceMethod yX6_init ∈ GG := GG_in (i := 113) (by decide +kernel) (by decide +kernel)
set_option maxRecDepth 100000 in
theorem wC_X6_init : Cond.code yX6_init cX6_init 1 none ∈ GG := GG_in (i := 114) (rfl) (by decide +kernel)
theorem wM_X6_3 : Cond.methodLink RX6 3 objectInit ∈ GG := GG_in (i := 115) (by decide +kernel) (by decide +kernel)
theorem wF_X6_11 : Cond.fieldLink RX6 11 "PairSieve$Tape" "bytes" "[I" ∈ GG := GG_in (i := 116) (by decide +kernel) (by decide +kernel)
theorem wF_X6_15 : Cond.fieldLink RX6 15 "PairSieve$Tape" "numbers" "[I" ∈ GG := GG_in (i := 119) (by decide +kernel) (by decide +kernel)
theorem wI_X4_init : Cond.instanceMethod yX4_init ∈ GG := GG_in (i := 131) (by decide +kernel) (by decide +kernel)
set_option maxRecDepth 100000 in
theorem wC_X4_init : Cond.code yX4_init cX4_init 1 none ∈ GG := GG_in (i := 132) (rfl) (by decide +kernel)
theorem wM_X4_1 : Cond.methodLink RX4 1 objectInit ∈ GG := GG_in (i := 133) (by decide +kernel) (by decide +kernel)
theorem wI_X0_init : Cond.instanceMethod yX0_init ∈ GG := GG_in (i := 150) (by decide +kernel) (by decide +kernel)
set_option maxRecDepth 100000 in
theorem wC_X0_init : Cond.code yX0_init cX0_init 1 none ∈ GG := GG_in (i := 151) (rfl) (by decide +kernel)
theorem wM_X0_3 : Cond.methodLink RX0 3 objectInit ∈ GG := GG_in (i := 152) (by decide +kernel) (by decide +kernel)
theorem wF_X0_9 : Cond.fieldLink RX0 9 "PairSieve$KeptPairs" "first" "[I" ∈ GG := GG_in (i := 153) (by decide +kernel) (by decide +kernel)
theorem wF_X0_15 : Cond.fieldLink RX0 15 "PairSieve$KeptPairs" "second" "[I" ∈ GG := GG_in (i := 155) (by decide +kernel) (by decide +kernel)
theorem wF_X0_18 : Cond.fieldLink RX0 18 "PairSieve$KeptPairs" "shared" "[I" ∈ GG := GG_in (i := 157) (by decide +kernel) (by decide +kernel)
theorem wF_X0_21 : Cond.fieldLink RX0 21 "PairSieve$KeptPairs" "above" "[J" ∈ GG := GG_in (i := 159) (by decide +kernel) (by decide +kernel)
theorem wF_X0_25 : Cond.fieldLink RX0 25 "PairSieve$KeptPairs" "below" "[J" ∈ GG := GG_in (i := 160) (by decide +kernel) (by decide +kernel)
theorem wI_X2_init : Cond.instanceMethod yX2_init ∈ GG := GG_in (i := 180) (by decide +kernel) (by decide +kernel)
set_option maxRecDepth 100000 in
theorem wC_X2_init : Cond.code yX2_init cX2_init 1 none ∈ GG := GG_in (i := 181) (rfl) (by decide +kernel)
theorem wM_X2_3 : Cond.methodLink RX2 3 objectInit ∈ GG := GG_in (i := 182) (by decide +kernel) (by decide +kernel)
theorem wF_X2_9 : Cond.fieldLink RX2 9 "PairSieve$Net" "friends" "[J" ∈ GG := GG_in (i := 183) (by decide +kernel) (by decide +kernel)
theorem wM_L_18 : Cond.methodLink RL 18 yX8_init ∈ GG := GG_in (i := 702) (by decide +kernel) (by decide +kernel)
theorem wI_X8_init : Cond.instanceMethod yX8_init ∈ GG := GG_in (i := 703) (by decide +kernel) (by decide +kernel)
set_option maxRecDepth 100000 in
theorem wC_X8_init : Cond.code yX8_init cX8_init 1 none ∈ GG := GG_in (i := 704) (rfl) (by decide +kernel)
theorem wM_X8_1 : Cond.methodLink RX8 1 objectInit ∈ GG := GG_in (i := 705) (by decide +kernel) (by decide +kernel)
theorem wA_boolean : Cond.arrayClass .boolean ∈ GG := GG_in (i := 797) (by decide +kernel) (by decide +kernel)
theorem wF_X8_9 : Cond.fieldLink RX8 9 "PairSieveModel" "isDropped" "[Z" ∈ GG := GG_in (i := 708) (by decide +kernel) (by decide +kernel)
theorem wF_X8_13 : Cond.fieldLink RX8 13 "PairSieveModel" "many" "[I" ∈ GG := GG_in (i := 709) (by decide +kernel) (by decide +kernel)
theorem wF_X8_17 : Cond.fieldLink RX8 17 "PairSieveModel" "set" "[I" ∈ GG := GG_in (i := 710) (by decide +kernel) (by decide +kernel)
theorem wF_X8_20 : Cond.fieldLink RX8 20 "PairSieveModel" "toldNumber" "[I" ∈ GG := GG_in (i := 712) (by decide +kernel) (by decide +kernel)
theorem wF_X8_23 : Cond.fieldLink RX8 23 "PairSieveModel" "toldWeight" "[I" ∈ GG := GG_in (i := 713) (by decide +kernel) (by decide +kernel)
theorem wF_X8_26 : Cond.fieldLink RX8 26 "PairSieveModel" "knownNumber" "[I" ∈ GG := GG_in (i := 715) (by decide +kernel) (by decide +kernel)
theorem wF_X8_29 : Cond.fieldLink RX8 29 "PairSieveModel" "knownMany" "[I" ∈ GG := GG_in (i := 716) (by decide +kernel) (by decide +kernel)
theorem wF_X8_32 : Cond.fieldLink RX8 32 "PairSieveModel" "kind" "I" ∈ GG := GG_in (i := 717) (by decide +kernel) (by decide +kernel)
theorem wF_X8_36 : Cond.fieldLink RX8 36 "PairSieveModel" "p" "I" ∈ GG := GG_in (i := 718) (by decide +kernel) (by decide +kernel)
theorem wF_X8_39 : Cond.fieldLink RX8 39 "PairSieveModel" "q" "I" ∈ GG := GG_in (i := 719) (by decide +kernel) (by decide +kernel)
theorem wF_X8_42 : Cond.fieldLink RX8 42 "PairSieveModel" "one" "[I" ∈ GG := GG_in (i := 720) (by decide +kernel) (by decide +kernel)
theorem wF_X8_45 : Cond.fieldLink RX8 45 "PairSieveModel" "two" "[I" ∈ GG := GG_in (i := 721) (by decide +kernel) (by decide +kernel)
theorem wF_X8_48 : Cond.fieldLink RX8 48 "PairSieveModel" "tape" "[I" ∈ GG := GG_in (i := 722) (by decide +kernel) (by decide +kernel)
theorem wF_X8_51 : Cond.fieldLink RX8 51 "PairSieveModel" "keptA" "[I" ∈ GG := GG_in (i := 725) (by decide +kernel) (by decide +kernel)
theorem wF_X8_54 : Cond.fieldLink RX8 54 "PairSieveModel" "keptB" "[I" ∈ GG := GG_in (i := 726) (by decide +kernel) (by decide +kernel)
theorem wF_X8_57 : Cond.fieldLink RX8 57 "PairSieveModel" "keptS" "[I" ∈ GG := GG_in (i := 727) (by decide +kernel) (by decide +kernel)
theorem wF_X8_60 : Cond.fieldLink RX8 60 "PairSieveModel" "sieved" "[I" ∈ GG := GG_in (i := 728) (by decide +kernel) (by decide +kernel)
theorem wF_X8_63 : Cond.fieldLink RX8 63 "PairSieveModel" "far" "[I" ∈ GG := GG_in (i := 729) (by decide +kernel) (by decide +kernel)
theorem wF_X8_66 : Cond.fieldLink RX8 66 "PairSieveModel" "family" "[I" ∈ GG := GG_in (i := 732) (by decide +kernel) (by decide +kernel)
theorem wF_X8_69 : Cond.fieldLink RX8 69 "PairSieveModel" "beside" "[I" ∈ GG := GG_in (i := 733) (by decide +kernel) (by decide +kernel)
theorem wF_X8_72 : Cond.fieldLink RX8 72 "PairSieveModel" "coreOf" "[I" ∈ GG := GG_in (i := 734) (by decide +kernel) (by decide +kernel)
theorem wM_L_19 : Cond.methodLink RL 19 yX7_record ∈ GG := GG_in (i := 230) (by decide +kernel) (by decide +kernel)
theorem wI_X7_record : Cond.instanceMethod yX7_record ∈ GG := GG_in (i := 231) (by decide +kernel) (by decide +kernel)
theorem wL_X7_record : Cond.selects RX7 yX7_record yX7_record ∈ GG := GG_in (i := 232) (by decide +kernel) (by decide +kernel)
set_option maxRecDepth 100000 in
theorem wC_X7_record : Cond.code yX7_record cX7_record 1 (some .int) ∈ GG := GG_in (i := 233) (rfl) (by decide +kernel)
theorem wF_X7_69 : Cond.fieldLink RX7 69 "PairSieve" "made" "I" ∈ GG := GG_in (i := 191) (by decide +kernel) (by decide +kernel)
theorem wB_X3 : Cond.instantiable RX3 4 ∈ GG := GG_in (i := 234) (by decide +kernel) (by decide +kernel)
theorem wN_X3 : Cond.initialized RX3 ∈ GG := GG_in (i := 54) (by decide +kernel) (by decide +kernel)
theorem wI_X3_init : Cond.instanceMethod yX3_init ∈ GG := GG_in (i := 236) (by decide +kernel) (by decide +kernel)
set_option maxRecDepth 100000 in
theorem wC_X3_init : Cond.code yX3_init cX3_init 1 none ∈ GG := GG_in (i := 237) (rfl) (by decide +kernel)
theorem wM_X3_3 : Cond.methodLink RX3 3 objectInit ∈ GG := GG_in (i := 238) (by decide +kernel) (by decide +kernel)
theorem wF_X3_9 : Cond.fieldLink RX3 9 "PairSieve$NumberSet" "keys" "[I" ∈ GG := GG_in (i := 239) (by decide +kernel) (by decide +kernel)
theorem wF_X3_15 : Cond.fieldLink RX3 15 "PairSieve$NumberSet" "weights" "[I" ∈ GG := GG_in (i := 241) (by decide +kernel) (by decide +kernel)
theorem wM_L_23 : Cond.methodLink RL 23 yX8_record ∈ GG := GG_in (i := 802) (by decide +kernel) (by decide +kernel)
theorem wI_X8_record : Cond.instanceMethod yX8_record ∈ GG := GG_in (i := 803) (by decide +kernel) (by decide +kernel)
theorem wL_X8_record : Cond.selects RX8 yX8_record yX8_record ∈ GG := GG_in (i := 804) (by decide +kernel) (by decide +kernel)
set_option maxRecDepth 100000 in
theorem wC_X8_record : Cond.code yX8_record cX8_record 1 (some .int) ∈ GG := GG_in (i := 805) (rfl) (by decide +kernel)
theorem wF_X8_75 : Cond.fieldLink RX8 75 "PairSieveModel" "thrown" "I" ∈ GG := GG_in (i := 706) (by decide +kernel) (by decide +kernel)
theorem wF_X8_78 : Cond.fieldLink RX8 78 "PairSieveModel" "records" "I" ∈ GG := GG_in (i := 707) (by decide +kernel) (by decide +kernel)
theorem wM_L_24 : Cond.methodLink RL 24 yX7_drop ∈ GG := GG_in (i := 257) (by decide +kernel) (by decide +kernel)
theorem wI_X7_drop : Cond.instanceMethod yX7_drop ∈ GG := GG_in (i := 258) (by decide +kernel) (by decide +kernel)
theorem wL_X7_drop : Cond.selects RX7 yX7_drop yX7_drop ∈ GG := GG_in (i := 259) (by decide +kernel) (by decide +kernel)
set_option maxRecDepth 100000 in
theorem wC_X7_drop : Cond.code yX7_drop cX7_drop 2 (some .boolean) ∈ GG := GG_in (i := 260) (rfl) (by decide +kernel)
theorem wM_X7_74 : Cond.methodLink RX7 74 yX7_setOf ∈ GG := GG_in (i := 261) (by decide +kernel) (by decide +kernel)
theorem wI_X7_setOf : Cond.instanceMethod yX7_setOf ∈ GG := GG_in (i := 263) (by decide +kernel) (by decide +kernel)
theorem wL_X7_setOf : Cond.selects RX7 yX7_setOf yX7_setOf ∈ GG := GG_in (i := 0) (by decide +kernel) (by decide +kernel)
set_option maxRecDepth 100000 in
theorem wC_X7_setOf : Cond.code yX7_setOf cX7_setOf 2 (some (.object "PairSieve$NumberSet")) ∈ GG := GG_in (i := 264) (rfl) (by decide +kernel)
theorem wM_X7_78 : Cond.methodLink RX7 78 yX2_forget ∈ GG := GG_in (i := 265) (by decide +kernel) (by decide +kernel)
theorem wI_X2_forget : Cond.instanceMethod yX2_forget ∈ GG := GG_in (i := 266) (by decide +kernel) (by decide +kernel)
theorem wL_X2_forget : Cond.selects RX2 yX2_forget yX2_forget ∈ GG := GG_in (i := 267) (by decide +kernel) (by decide +kernel)
set_option maxRecDepth 100000 in
theorem wC_X2_forget : Cond.code yX2_forget cX2_forget 2 none ∈ GG := GG_in (i := 268) (rfl) (by decide +kernel)
theorem wF_X2_15 : Cond.fieldLink RX2 15 "PairSieve$Net" "forgotten" "J" ∈ GG := GG_in (i := 184) (by decide +kernel) (by decide +kernel)
theorem wM_L_28 : Cond.methodLink RL 28 yX8_drop ∈ GG := GG_in (i := 806) (by decide +kernel) (by decide +kernel)
theorem wI_X8_drop : Cond.instanceMethod yX8_drop ∈ GG := GG_in (i := 807) (by decide +kernel) (by decide +kernel)
theorem wL_X8_drop : Cond.selects RX8 yX8_drop yX8_drop ∈ GG := GG_in (i := 808) (by decide +kernel) (by decide +kernel)
set_option maxRecDepth 100000 in
theorem wC_X8_drop : Cond.code yX8_drop cX8_drop 2 (some .boolean) ∈ GG := GG_in (i := 809) (rfl) (by decide +kernel)
theorem wM_X8_85 : Cond.methodLink RX8 85 yX8_is ∈ GG := GG_in (i := 810) (by decide +kernel) (by decide +kernel)
theorem wI_X8_is : Cond.instanceMethod yX8_is ∈ GG := GG_in (i := 812) (by decide +kernel) (by decide +kernel)
theorem wL_X8_is : Cond.selects RX8 yX8_is yX8_is ∈ GG := GG_in (i := 20) (by decide +kernel) (by decide +kernel)
set_option maxRecDepth 100000 in
theorem wC_X8_is : Cond.code yX8_is cX8_is 2 (some .boolean) ∈ GG := GG_in (i := 813) (rfl) (by decide +kernel)
theorem wM_X8_81 : Cond.methodLink RX8 81 yX8_in ∈ GG := GG_in (i := 814) (by decide +kernel) (by decide +kernel)
theorem wS_X8_in : Cond.static yX8_in ∈ GG := GG_in (i := 815) (by decide +kernel) (by decide +kernel)
set_option maxRecDepth 100000 in
theorem wC_X8_in : Cond.code yX8_in cX8_in 3 (some .boolean) ∈ GG := GG_in (i := 816) (rfl) (by decide +kernel)
theorem wM_L_29 : Cond.methodLink RL 29 yX7_put ∈ GG := GG_in (i := 269) (by decide +kernel) (by decide +kernel)
theorem wI_X7_put : Cond.instanceMethod yX7_put ∈ GG := GG_in (i := 270) (by decide +kernel) (by decide +kernel)
theorem wL_X7_put : Cond.selects RX7 yX7_put yX7_put ∈ GG := GG_in (i := 271) (by decide +kernel) (by decide +kernel)
set_option maxRecDepth 100000 in
theorem wC_X7_put : Cond.code yX7_put cX7_put 4 (some .boolean) ∈ GG := GG_in (i := 272) (rfl) (by decide +kernel)
theorem wM_X7_81 : Cond.methodLink RX7 81 yX7_isNumber ∈ GG := GG_in (i := 273) (by decide +kernel) (by decide +kernel)
theorem wS_X7_isNumber : Cond.static yX7_isNumber ∈ GG := GG_in (i := 274) (by decide +kernel) (by decide +kernel)
set_option maxRecDepth 100000 in
theorem wC_X7_isNumber : Cond.code yX7_isNumber cX7_isNumber 1 (some .boolean) ∈ GG := GG_in (i := 275) (rfl) (by decide +kernel)
theorem wK_X7_276 : Cond.constant RX7 276 (1000000) ∈ GG := GG_in (i := 276) (by decide +kernel) (by decide +kernel)
theorem wM_X7_85 : Cond.methodLink RX7 85 yX3_keyOf ∈ GG := GG_in (i := 277) (by decide +kernel) (by decide +kernel)
theorem wS_X3_keyOf : Cond.static yX3_keyOf ∈ GG := GG_in (i := 278) (by decide +kernel) (by decide +kernel)
set_option maxRecDepth 100000 in
theorem wC_X3_keyOf : Cond.code yX3_keyOf cX3_keyOf 2 (some .int) ∈ GG := GG_in (i := 279) (rfl) (by decide +kernel)
theorem wK_X3_24 : Cond.constant RX3 24 (1000000) ∈ GG := GG_in (i := 292) (by decide +kernel) (by decide +kernel)
theorem wM_X3_18 : Cond.methodLink RX3 18 yX5_valueOf ∈ GG := GG_in (i := 280) (by decide +kernel) (by decide +kernel)
theorem wI_X5_valueOf : Cond.instanceMethod yX5_valueOf ∈ GG := GG_in (i := 281) (by decide +kernel) (by decide +kernel)
theorem wL_X5_valueOf : Cond.selects RX5 yX5_valueOf yX5_valueOf ∈ GG := GG_in (i := 282) (by decide +kernel) (by decide +kernel)
set_option maxRecDepth 100000 in
theorem wC_X5_valueOf : Cond.code yX5_valueOf cX5_valueOf 4 (some .int) ∈ GG := GG_in (i := 283) (rfl) (by decide +kernel)
theorem wM_X5_20 : Cond.methodLink RX5 20 yX5_placeOf ∈ GG := GG_in (i := 284) (by decide +kernel) (by decide +kernel)
theorem wI_X5_placeOf : Cond.instanceMethod yX5_placeOf ∈ GG := GG_in (i := 286) (by decide +kernel) (by decide +kernel)
theorem wL_X5_placeOf : Cond.selects RX5 yX5_placeOf yX5_placeOf ∈ GG := GG_in (i := 1) (by decide +kernel) (by decide +kernel)
set_option maxRecDepth 100000 in
theorem wC_X5_placeOf : Cond.code yX5_placeOf cX5_placeOf 5 (some .int) ∈ GG := GG_in (i := 287) (rfl) (by decide +kernel)
theorem wF_X5_16 : Cond.fieldLink RX5 16 "PairSieve$Table" "size" "I" ∈ GG := GG_in (i := 81) (by decide +kernel) (by decide +kernel)
theorem wM_X5_24 : Cond.methodLink RX5 24 yX5_isAt ∈ GG := GG_in (i := 288) (by decide +kernel) (by decide +kernel)
theorem wI_X5_isAt : Cond.instanceMethod yX5_isAt ∈ GG := GG_in (i := 290) (by decide +kernel) (by decide +kernel)
theorem wL_X5_isAt : Cond.selects RX5 yX5_isAt yX5_isAt ∈ GG := GG_in (i := 2) (by decide +kernel) (by decide +kernel)
set_option maxRecDepth 100000 in
theorem wC_X5_isAt : Cond.code yX5_isAt cX5_isAt 3 (some .boolean) ∈ GG := GG_in (i := 291) (rfl) (by decide +kernel)
theorem wM_X7_89 : Cond.methodLink RX7 89 yX7_weightOf ∈ GG := GG_in (i := 293) (by decide +kernel) (by decide +kernel)
theorem wI_X7_weightOf : Cond.instanceMethod yX7_weightOf ∈ GG := GG_in (i := 295) (by decide +kernel) (by decide +kernel)
theorem wL_X7_weightOf : Cond.selects RX7 yX7_weightOf yX7_weightOf ∈ GG := GG_in (i := 3) (by decide +kernel) (by decide +kernel)
set_option maxRecDepth 100000 in
theorem wC_X7_weightOf : Cond.code yX7_weightOf cX7_weightOf 2 (some .int) ∈ GG := GG_in (i := 296) (rfl) (by decide +kernel)
theorem wM_X7_146 : Cond.methodLink RX7 146 yX5_valueOf ∈ GG := GG_in (i := 297) (by decide +kernel) (by decide +kernel)
theorem wM_X7_93 : Cond.methodLink RX7 93 yX3_insert ∈ GG := GG_in (i := 298) (by decide +kernel) (by decide +kernel)
theorem wI_X3_insert : Cond.instanceMethod yX3_insert ∈ GG := GG_in (i := 299) (by decide +kernel) (by decide +kernel)
theorem wL_X3_insert : Cond.selects RX3 yX3_insert yX3_insert ∈ GG := GG_in (i := 300) (by decide +kernel) (by decide +kernel)
set_option maxRecDepth 100000 in
theorem wC_X3_insert : Cond.code yX3_insert cX3_insert 4 (some .boolean) ∈ GG := GG_in (i := 301) (rfl) (by decide +kernel)
theorem wF_X3_25 : Cond.fieldLink RX3 25 "PairSieve$NumberSet" "size" "I" ∈ GG := GG_in (i := 244) (by decide +kernel) (by decide +kernel)
theorem wM_X3_36 : Cond.methodLink RX3 36 arraycopyName ∈ GG := GG_in (i := 306) (by decide +kernel) (by decide +kernel)
theorem wV_arraycopy : Cond.native arraycopyName ∈ GG := GG_in (i := 308) (by decide +kernel) (by decide +kernel)
theorem wS_arraycopy : Cond.static arraycopyName ∈ GG := GG_in (i := 307) (by decide +kernel) (by decide +kernel)
theorem wN_J10 : Cond.initialized "java/lang/System" ∈ GG := GG_in (i := 55) (by decide +kernel) (by decide +kernel)
theorem wF_X3_29 : Cond.fieldLink RX3 29 "PairSieve$NumberSet" "amount" "I" ∈ GG := GG_in (i := 246) (by decide +kernel) (by decide +kernel)
theorem wM_X3_32 : Cond.methodLink RX3 32 yX3_placeOf ∈ GG := GG_in (i := 302) (by decide +kernel) (by decide +kernel)
theorem wI_X3_placeOf : Cond.instanceMethod yX3_placeOf ∈ GG := GG_in (i := 304) (by decide +kernel) (by decide +kernel)
theorem wL_X3_placeOf : Cond.selects RX3 yX3_placeOf yX3_placeOf ∈ GG := GG_in (i := 4) (by decide +kernel) (by decide +kernel)
set_option maxRecDepth 100000 in
theorem wC_X3_placeOf : Cond.code yX3_placeOf cX3_placeOf 3 (some .int) ∈ GG := GG_in (i := 305) (rfl) (by decide +kernel)
theorem wM_L_33 : Cond.methodLink RL 33 yX8_put ∈ GG := GG_in (i := 817) (by decide +kernel) (by decide +kernel)
theorem wI_X8_put : Cond.instanceMethod yX8_put ∈ GG := GG_in (i := 818) (by decide +kernel) (by decide +kernel)
theorem wL_X8_put : Cond.selects RX8 yX8_put yX8_put ∈ GG := GG_in (i := 819) (by decide +kernel) (by decide +kernel)
set_option maxRecDepth 100000 in
theorem wC_X8_put : Cond.code yX8_put cX8_put 3 (some .boolean) ∈ GG := GG_in (i := 820) (rfl) (by decide +kernel)
theorem wM_X8_90 : Cond.methodLink RX8 90 yX8_isNumber ∈ GG := GG_in (i := 821) (by decide +kernel) (by decide +kernel)
theorem wS_X8_isNumber : Cond.static yX8_isNumber ∈ GG := GG_in (i := 822) (by decide +kernel) (by decide +kernel)
set_option maxRecDepth 100000 in
theorem wC_X8_isNumber : Cond.code yX8_isNumber cX8_isNumber 1 (some .boolean) ∈ GG := GG_in (i := 823) (rfl) (by decide +kernel)
theorem wK_X8_89 : Cond.constant RX8 89 (999999) ∈ GG := GG_in (i := 824) (by decide +kernel) (by decide +kernel)
theorem wM_X8_93 : Cond.methodLink RX8 93 yX8_place ∈ GG := GG_in (i := 825) (by decide +kernel) (by decide +kernel)
theorem wI_X8_place : Cond.instanceMethod yX8_place ∈ GG := GG_in (i := 827) (by decide +kernel) (by decide +kernel)
theorem wL_X8_place : Cond.selects RX8 yX8_place yX8_place ∈ GG := GG_in (i := 21) (by decide +kernel) (by decide +kernel)
set_option maxRecDepth 100000 in
theorem wC_X8_place : Cond.code yX8_place cX8_place 4 (some .int) ∈ GG := GG_in (i := 828) (rfl) (by decide +kernel)
theorem wM_L_34 : Cond.methodLink RL 34 yX7_take ∈ GG := GG_in (i := 309) (by decide +kernel) (by decide +kernel)
theorem wI_X7_take : Cond.instanceMethod yX7_take ∈ GG := GG_in (i := 310) (by decide +kernel) (by decide +kernel)
theorem wL_X7_take : Cond.selects RX7 yX7_take yX7_take ∈ GG := GG_in (i := 311) (by decide +kernel) (by decide +kernel)
set_option maxRecDepth 100000 in
theorem wC_X7_take : Cond.code yX7_take cX7_take 4 (some .boolean) ∈ GG := GG_in (i := 312) (rfl) (by decide +kernel)
theorem wM_X7_97 : Cond.methodLink RX7 97 yX3_remove ∈ GG := GG_in (i := 313) (by decide +kernel) (by decide +kernel)
theorem wI_X3_remove : Cond.instanceMethod yX3_remove ∈ GG := GG_in (i := 314) (by decide +kernel) (by decide +kernel)
theorem wL_X3_remove : Cond.selects RX3 yX3_remove yX3_remove ∈ GG := GG_in (i := 315) (by decide +kernel) (by decide +kernel)
set_option maxRecDepth 100000 in
theorem wC_X3_remove : Cond.code yX3_remove cX3_remove 3 (some .boolean) ∈ GG := GG_in (i := 316) (rfl) (by decide +kernel)
theorem wM_L_37 : Cond.methodLink RL 37 yX8_take ∈ GG := GG_in (i := 829) (by decide +kernel) (by decide +kernel)
theorem wI_X8_take : Cond.instanceMethod yX8_take ∈ GG := GG_in (i := 830) (by decide +kernel) (by decide +kernel)
theorem wL_X8_take : Cond.selects RX8 yX8_take yX8_take ∈ GG := GG_in (i := 831) (by decide +kernel) (by decide +kernel)
set_option maxRecDepth 100000 in
theorem wC_X8_take : Cond.code yX8_take cX8_take 3 (some .boolean) ∈ GG := GG_in (i := 832) (rfl) (by decide +kernel)
theorem wM_X8_97 : Cond.methodLink RX8 97 yX8_place0 ∈ GG := GG_in (i := 833) (by decide +kernel) (by decide +kernel)
theorem wI_X8_place0 : Cond.instanceMethod yX8_place0 ∈ GG := GG_in (i := 835) (by decide +kernel) (by decide +kernel)
theorem wL_X8_place0 : Cond.selects RX8 yX8_place0 yX8_place0 ∈ GG := GG_in (i := 22) (by decide +kernel) (by decide +kernel)
set_option maxRecDepth 100000 in
theorem wC_X8_place0 : Cond.code yX8_place0 cX8_place0 4 (some .int) ∈ GG := GG_in (i := 836) (rfl) (by decide +kernel)
theorem wM_L_38 : Cond.methodLink RL 38 yX7_weight ∈ GG := GG_in (i := 317) (by decide +kernel) (by decide +kernel)
theorem wI_X7_weight : Cond.instanceMethod yX7_weight ∈ GG := GG_in (i := 318) (by decide +kernel) (by decide +kernel)
theorem wL_X7_weight : Cond.selects RX7 yX7_weight yX7_weight ∈ GG := GG_in (i := 319) (by decide +kernel) (by decide +kernel)
set_option maxRecDepth 100000 in
theorem wC_X7_weight : Cond.code yX7_weight cX7_weight 3 (some .boolean) ∈ GG := GG_in (i := 320) (rfl) (by decide +kernel)
theorem wM_X7_100 : Cond.methodLink RX7 100 yX5_write ∈ GG := GG_in (i := 321) (by decide +kernel) (by decide +kernel)
theorem wI_X5_write : Cond.instanceMethod yX5_write ∈ GG := GG_in (i := 322) (by decide +kernel) (by decide +kernel)
theorem wL_X5_write : Cond.selects RX5 yX5_write yX5_write ∈ GG := GG_in (i := 323) (by decide +kernel) (by decide +kernel)
set_option maxRecDepth 100000 in
theorem wC_X5_write : Cond.code yX5_write cX5_write 4 (some .boolean) ∈ GG := GG_in (i := 324) (rfl) (by decide +kernel)
theorem wM_X5_35 : Cond.methodLink RX5 35 arraycopyName ∈ GG := GG_in (i := 325) (by decide +kernel) (by decide +kernel)
theorem wM_X7_103 : Cond.methodLink RX7 103 yX7_weighAll ∈ GG := GG_in (i := 326) (by decide +kernel) (by decide +kernel)
theorem wI_X7_weighAll : Cond.instanceMethod yX7_weighAll ∈ GG := GG_in (i := 328) (by decide +kernel) (by decide +kernel)
theorem wL_X7_weighAll : Cond.selects RX7 yX7_weighAll yX7_weighAll ∈ GG := GG_in (i := 5) (by decide +kernel) (by decide +kernel)
set_option maxRecDepth 100000 in
theorem wC_X7_weighAll : Cond.code yX7_weighAll cX7_weighAll 4 none ∈ GG := GG_in (i := 329) (rfl) (by decide +kernel)
theorem wM_X7_135 : Cond.methodLink RX7 135 yX3_numberAt ∈ GG := GG_in (i := 330) (by decide +kernel) (by decide +kernel)
theorem wI_X3_numberAt : Cond.instanceMethod yX3_numberAt ∈ GG := GG_in (i := 331) (by decide +kernel) (by decide +kernel)
theorem wL_X3_numberAt : Cond.selects RX3 yX3_numberAt yX3_numberAt ∈ GG := GG_in (i := 332) (by decide +kernel) (by decide +kernel)
set_option maxRecDepth 100000 in
theorem wC_X3_numberAt : Cond.code yX3_numberAt cX3_numberAt 2 (some .int) ∈ GG := GG_in (i := 333) (rfl) (by decide +kernel)
theorem wM_X7_277 : Cond.methodLink RX7 277 yX3_reweigh ∈ GG := GG_in (i := 334) (by decide +kernel) (by decide +kernel)
theorem wI_X3_reweigh : Cond.instanceMethod yX3_reweigh ∈ GG := GG_in (i := 335) (by decide +kernel) (by decide +kernel)
theorem wL_X3_reweigh : Cond.selects RX3 yX3_reweigh yX3_reweigh ∈ GG := GG_in (i := 336) (by decide +kernel) (by decide +kernel)
set_option maxRecDepth 100000 in
theorem wC_X3_reweigh : Cond.code yX3_reweigh cX3_reweigh 3 none ∈ GG := GG_in (i := 337) (rfl) (by decide +kernel)
theorem wM_L_41 : Cond.methodLink RL 41 yX8_weight ∈ GG := GG_in (i := 837) (by decide +kernel) (by decide +kernel)
theorem wI_X8_weight : Cond.instanceMethod yX8_weight ∈ GG := GG_in (i := 838) (by decide +kernel) (by decide +kernel)
theorem wL_X8_weight : Cond.selects RX8 yX8_weight yX8_weight ∈ GG := GG_in (i := 839) (by decide +kernel) (by decide +kernel)
set_option maxRecDepth 100000 in
theorem wC_X8_weight : Cond.code yX8_weight cX8_weight 4 (some .boolean) ∈ GG := GG_in (i := 840) (rfl) (by decide +kernel)
theorem wF_X8_100 : Cond.fieldLink RX8 100 "PairSieveModel" "told" "I" ∈ GG := GG_in (i := 711) (by decide +kernel) (by decide +kernel)
theorem wM_L_42 : Cond.methodLink RL 42 yX7_feed ∈ GG := GG_in (i := 338) (by decide +kernel) (by decide +kernel)
theorem wI_X7_feed : Cond.instanceMethod yX7_feed ∈ GG := GG_in (i := 339) (by decide +kernel) (by decide +kernel)
theorem wL_X7_feed : Cond.selects RX7 yX7_feed yX7_feed ∈ GG := GG_in (i := 340) (by decide +kernel) (by decide +kernel)
set_option maxRecDepth 100000 in
theorem wC_X7_feed : Cond.code yX7_feed cX7_feed 6 (some .int) ∈ GG := GG_in (i := 341) (rfl) (by decide +kernel)
theorem wM_X7_106 : Cond.methodLink RX7 106 yX6_hasRoomFor ∈ GG := GG_in (i := 342) (by decide +kernel) (by decide +kernel)
theorem wI_X6_hasRoomFor : Cond.instanceMethod yX6_hasRoomFor ∈ GG := GG_in (i := 343) (by decide +kernel) (by decide +kernel)
theorem wL_X6_hasRoomFor : Cond.selects RX6 yX6_hasRoomFor yX6_hasRoomFor ∈ GG := GG_in (i := 344) (by decide +kernel) (by decide +kernel)
set_option maxRecDepth 100000 in
theorem wC_X6_hasRoomFor : Cond.code yX6_hasRoomFor cX6_hasRoomFor 2 (some .boolean) ∈ GG := GG_in (i := 345) (rfl) (by decide +kernel)
theorem wF_X6_18 : Cond.fieldLink RX6 18 "PairSieve$Tape" "length" "I" ∈ GG := GG_in (i := 117) (by decide +kernel) (by decide +kernel)
theorem wM_X7_109 : Cond.methodLink RX7 109 yX6_append ∈ GG := GG_in (i := 346) (by decide +kernel) (by decide +kernel)
theorem wI_X6_append : Cond.instanceMethod yX6_append ∈ GG := GG_in (i := 347) (by decide +kernel) (by decide +kernel)
theorem wL_X6_append : Cond.selects RX6 yX6_append yX6_append ∈ GG := GG_in (i := 348) (by decide +kernel) (by decide +kernel)
set_option maxRecDepth 100000 in
theorem wC_X6_append : Cond.code yX6_append cX6_append 3 none ∈ GG := GG_in (i := 349) (rfl) (by decide +kernel)
theorem wM_L_46 : Cond.methodLink RL 46 yX8_feed ∈ GG := GG_in (i := 841) (by decide +kernel) (by decide +kernel)
theorem wI_X8_feed : Cond.instanceMethod yX8_feed ∈ GG := GG_in (i := 842) (by decide +kernel) (by decide +kernel)
theorem wL_X8_feed : Cond.selects RX8 yX8_feed yX8_feed ∈ GG := GG_in (i := 843) (by decide +kernel) (by decide +kernel)
set_option maxRecDepth 100000 in
theorem wC_X8_feed : Cond.code yX8_feed cX8_feed 6 (some .int) ∈ GG := GG_in (i := 844) (rfl) (by decide +kernel)
theorem wF_X8_117 : Cond.fieldLink RX8 117 "PairSieveModel" "taped" "I" ∈ GG := GG_in (i := 723) (by decide +kernel) (by decide +kernel)
theorem wM_X8_120 : Cond.methodLink RX8 120 yX8_four ∈ GG := GG_in (i := 845) (by decide +kernel) (by decide +kernel)
theorem wI_X8_four : Cond.instanceMethod yX8_four ∈ GG := GG_in (i := 847) (by decide +kernel) (by decide +kernel)
theorem wL_X8_four : Cond.selects RX8 yX8_four yX8_four ∈ GG := GG_in (i := 23) (by decide +kernel) (by decide +kernel)
set_option maxRecDepth 100000 in
theorem wC_X8_four : Cond.code yX8_four cX8_four 3 none ∈ GG := GG_in (i := 848) (rfl) (by decide +kernel)
theorem wM_L_47 : Cond.methodLink RL 47 yX7_end ∈ GG := GG_in (i := 350) (by decide +kernel) (by decide +kernel)
theorem wI_X7_end : Cond.instanceMethod yX7_end ∈ GG := GG_in (i := 351) (by decide +kernel) (by decide +kernel)
theorem wL_X7_end : Cond.selects RX7 yX7_end yX7_end ∈ GG := GG_in (i := 352) (by decide +kernel) (by decide +kernel)
set_option maxRecDepth 100000 in
theorem wC_X7_end : Cond.code yX7_end cX7_end 2 (some .int) ∈ GG := GG_in (i := 353) (rfl) (by decide +kernel)
theorem wM_X7_115 : Cond.methodLink RX7 115 yX6_cut ∈ GG := GG_in (i := 354) (by decide +kernel) (by decide +kernel)
theorem wI_X6_cut : Cond.instanceMethod yX6_cut ∈ GG := GG_in (i := 355) (by decide +kernel) (by decide +kernel)
theorem wL_X6_cut : Cond.selects RX6 yX6_cut yX6_cut ∈ GG := GG_in (i := 356) (by decide +kernel) (by decide +kernel)
set_option maxRecDepth 100000 in
theorem wC_X6_cut : Cond.code yX6_cut cX6_cut 2 (some .boolean) ∈ GG := GG_in (i := 357) (rfl) (by decide +kernel)
theorem wM_L_51 : Cond.methodLink RL 51 yX8_end ∈ GG := GG_in (i := 849) (by decide +kernel) (by decide +kernel)
theorem wI_X8_end : Cond.instanceMethod yX8_end ∈ GG := GG_in (i := 850) (by decide +kernel) (by decide +kernel)
theorem wL_X8_end : Cond.selects RX8 yX8_end yX8_end ∈ GG := GG_in (i := 851) (by decide +kernel) (by decide +kernel)
set_option maxRecDepth 100000 in
theorem wC_X8_end : Cond.code yX8_end cX8_end 2 (some .int) ∈ GG := GG_in (i := 852) (rfl) (by decide +kernel)
theorem wM_L_52 : Cond.methodLink RL 52 yX7_text ∈ GG := GG_in (i := 358) (by decide +kernel) (by decide +kernel)
theorem wI_X7_text : Cond.instanceMethod yX7_text ∈ GG := GG_in (i := 359) (by decide +kernel) (by decide +kernel)
theorem wL_X7_text : Cond.selects RX7 yX7_text yX7_text ∈ GG := GG_in (i := 360) (by decide +kernel) (by decide +kernel)
set_option maxRecDepth 100000 in
theorem wC_X7_text : Cond.code yX7_text cX7_text 7 (some .int) ∈ GG := GG_in (i := 361) (rfl) (by decide +kernel)
theorem wM_X7_118 : Cond.methodLink RX7 118 yX6_findNumbers ∈ GG := GG_in (i := 362) (by decide +kernel) (by decide +kernel)
theorem wI_X6_findNumbers : Cond.instanceMethod yX6_findNumbers ∈ GG := GG_in (i := 363) (by decide +kernel) (by decide +kernel)
theorem wL_X6_findNumbers : Cond.selects RX6 yX6_findNumbers yX6_findNumbers ∈ GG := GG_in (i := 364) (by decide +kernel) (by decide +kernel)
set_option maxRecDepth 100000 in
theorem wC_X6_findNumbers : Cond.code yX6_findNumbers cX6_findNumbers 5 (some .int) ∈ GG := GG_in (i := 365) (rfl) (by decide +kernel)
theorem wM_X6_22 : Cond.methodLink RX6 22 yX6_countLikeOnesAhead ∈ GG := GG_in (i := 366) (by decide +kernel) (by decide +kernel)
theorem wI_X6_countLikeOnesAhead : Cond.instanceMethod yX6_countLikeOnesAhead ∈ GG := GG_in (i := 368) (by decide +kernel) (by decide +kernel)
theorem wL_X6_countLikeOnesAhead : Cond.selects RX6 yX6_countLikeOnesAhead yX6_countLikeOnesAhead ∈ GG := GG_in (i := 6) (by decide +kernel) (by decide +kernel)
set_option maxRecDepth 100000 in
theorem wC_X6_countLikeOnesAhead : Cond.code yX6_countLikeOnesAhead cX6_countLikeOnesAhead 6 (some .int) ∈ GG := GG_in (i := 369) (rfl) (by decide +kernel)
theorem wM_X6_26 : Cond.methodLink RX6 26 yX6_pieceAt ∈ GG := GG_in (i := 370) (by decide +kernel) (by decide +kernel)
theorem wI_X6_pieceAt : Cond.instanceMethod yX6_pieceAt ∈ GG := GG_in (i := 372) (by decide +kernel) (by decide +kernel)
theorem wL_X6_pieceAt : Cond.selects RX6 yX6_pieceAt yX6_pieceAt ∈ GG := GG_in (i := 7) (by decide +kernel) (by decide +kernel)
set_option maxRecDepth 100000 in
theorem wC_X6_pieceAt : Cond.code yX6_pieceAt cX6_pieceAt 5 (some .int) ∈ GG := GG_in (i := 373) (rfl) (by decide +kernel)
theorem wM_X7_121 : Cond.methodLink RX7 121 yX3_clear ∈ GG := GG_in (i := 374) (by decide +kernel) (by decide +kernel)
theorem wI_X3_clear : Cond.instanceMethod yX3_clear ∈ GG := GG_in (i := 375) (by decide +kernel) (by decide +kernel)
theorem wL_X3_clear : Cond.selects RX3 yX3_clear yX3_clear ∈ GG := GG_in (i := 376) (by decide +kernel) (by decide +kernel)
set_option maxRecDepth 100000 in
theorem wC_X3_clear : Cond.code yX3_clear cX3_clear 1 none ∈ GG := GG_in (i := 377) (rfl) (by decide +kernel)
theorem wM_L_55 : Cond.methodLink RL 55 yX8_text ∈ GG := GG_in (i := 853) (by decide +kernel) (by decide +kernel)
theorem wI_X8_text : Cond.instanceMethod yX8_text ∈ GG := GG_in (i := 854) (by decide +kernel) (by decide +kernel)
theorem wL_X8_text : Cond.selects RX8 yX8_text yX8_text ∈ GG := GG_in (i := 855) (by decide +kernel) (by decide +kernel)
set_option maxRecDepth 100000 in
theorem wC_X8_text : Cond.code yX8_text cX8_text 8 (some .int) ∈ GG := GG_in (i := 856) (rfl) (by decide +kernel)
theorem wM_X8_124 : Cond.methodLink RX8 124 yX8_piece ∈ GG := GG_in (i := 857) (by decide +kernel) (by decide +kernel)
theorem wI_X8_piece : Cond.instanceMethod yX8_piece ∈ GG := GG_in (i := 859) (by decide +kernel) (by decide +kernel)
theorem wL_X8_piece : Cond.selects RX8 yX8_piece yX8_piece ∈ GG := GG_in (i := 24) (by decide +kernel) (by decide +kernel)
set_option maxRecDepth 100000 in
theorem wC_X8_piece : Cond.code yX8_piece cX8_piece 3 (some .int) ∈ GG := GG_in (i := 860) (rfl) (by decide +kernel)
theorem wM_L_56 : Cond.methodLink RL 56 yX7_measure ∈ GG := GG_in (i := 378) (by decide +kernel) (by decide +kernel)
theorem wI_X7_measure : Cond.instanceMethod yX7_measure ∈ GG := GG_in (i := 379) (by decide +kernel) (by decide +kernel)
theorem wL_X7_measure : Cond.selects RX7 yX7_measure yX7_measure ∈ GG := GG_in (i := 380) (by decide +kernel) (by decide +kernel)
set_option maxRecDepth 100000 in
theorem wC_X7_measure : Cond.code yX7_measure cX7_measure 4 (some .boolean) ∈ GG := GG_in (i := 381) (rfl) (by decide +kernel)
theorem wM_X7_127 : Cond.methodLink RX7 127 yX1_tell ∈ GG := GG_in (i := 382) (by decide +kernel) (by decide +kernel)
theorem wI_X1_tell : Cond.instanceMethod yX1_tell ∈ GG := GG_in (i := 383) (by decide +kernel) (by decide +kernel)
theorem wL_X1_tell : Cond.selects RX1 yX1_tell yX1_tell ∈ GG := GG_in (i := 384) (by decide +kernel) (by decide +kernel)
set_option maxRecDepth 100000 in
theorem wC_X1_tell : Cond.code yX1_tell cX1_tell 4 (some .boolean) ∈ GG := GG_in (i := 385) (rfl) (by decide +kernel)
theorem wM_X1_21 : Cond.methodLink RX1 21 yX1_isAllowed ∈ GG := GG_in (i := 386) (by decide +kernel) (by decide +kernel)
theorem wS_X1_isAllowed : Cond.static yX1_isAllowed ∈ GG := GG_in (i := 387) (by decide +kernel) (by decide +kernel)
set_option maxRecDepth 100000 in
theorem wC_X1_isAllowed : Cond.code yX1_isAllowed cX1_isAllowed 3 (some .boolean) ∈ GG := GG_in (i := 388) (rfl) (by decide +kernel)
theorem wM_L_60 : Cond.methodLink RL 60 yX8_measure ∈ GG := GG_in (i := 861) (by decide +kernel) (by decide +kernel)
theorem wI_X8_measure : Cond.instanceMethod yX8_measure ∈ GG := GG_in (i := 862) (by decide +kernel) (by decide +kernel)
theorem wL_X8_measure : Cond.selects RX8 yX8_measure yX8_measure ∈ GG := GG_in (i := 863) (by decide +kernel) (by decide +kernel)
set_option maxRecDepth 100000 in
theorem wC_X8_measure : Cond.code yX8_measure cX8_measure 5 (some .boolean) ∈ GG := GG_in (i := 864) (rfl) (by decide +kernel)
theorem wM_L_61 : Cond.methodLink RL 61 yX7_order ∈ GG := GG_in (i := 389) (by decide +kernel) (by decide +kernel)
theorem wI_X7_order : Cond.instanceMethod yX7_order ∈ GG := GG_in (i := 390) (by decide +kernel) (by decide +kernel)
theorem wL_X7_order : Cond.selects RX7 yX7_order yX7_order ∈ GG := GG_in (i := 391) (by decide +kernel) (by decide +kernel)
set_option maxRecDepth 100000 in
theorem wC_X7_order : Cond.code yX7_order cX7_order 4 (some .int) ∈ GG := GG_in (i := 392) (rfl) (by decide +kernel)
theorem wM_X7_131 : Cond.methodLink RX7 131 yX5_clear ∈ GG := GG_in (i := 393) (by decide +kernel) (by decide +kernel)
theorem wI_X5_clear : Cond.instanceMethod yX5_clear ∈ GG := GG_in (i := 394) (by decide +kernel) (by decide +kernel)
theorem wL_X5_clear : Cond.selects RX5 yX5_clear yX5_clear ∈ GG := GG_in (i := 395) (by decide +kernel) (by decide +kernel)
set_option maxRecDepth 100000 in
theorem wC_X5_clear : Cond.code yX5_clear cX5_clear 1 none ∈ GG := GG_in (i := 396) (rfl) (by decide +kernel)
theorem wM_X7_138 : Cond.methodLink RX7 138 yX5_raise ∈ GG := GG_in (i := 397) (by decide +kernel) (by decide +kernel)
theorem wI_X5_raise : Cond.instanceMethod yX5_raise ∈ GG := GG_in (i := 398) (by decide +kernel) (by decide +kernel)
theorem wL_X5_raise : Cond.selects RX5 yX5_raise yX5_raise ∈ GG := GG_in (i := 399) (by decide +kernel) (by decide +kernel)
set_option maxRecDepth 100000 in
theorem wC_X5_raise : Cond.code yX5_raise cX5_raise 2 none ∈ GG := GG_in (i := 400) (rfl) (by decide +kernel)
theorem wM_X5_28 : Cond.methodLink RX5 28 yX5_valueOf ∈ GG := GG_in (i := 401) (by decide +kernel) (by decide +kernel)
theorem wM_X5_32 : Cond.methodLink RX5 32 yX5_write ∈ GG := GG_in (i := 402) (by decide +kernel) (by decide +kernel)
theorem wM_X7_141 : Cond.methodLink RX7 141 yX3_putInOrder ∈ GG := GG_in (i := 403) (by decide +kernel) (by decide +kernel)
theorem wI_X3_putInOrder : Cond.instanceMethod yX3_putInOrder ∈ GG := GG_in (i := 404) (by decide +kernel) (by decide +kernel)
theorem wL_X3_putInOrder : Cond.selects RX3 yX3_putInOrder yX3_putInOrder ∈ GG := GG_in (i := 405) (by decide +kernel) (by decide +kernel)
set_option maxRecDepth 100000 in
theorem wC_X3_putInOrder : Cond.code yX3_putInOrder cX3_putInOrder 4 none ∈ GG := GG_in (i := 406) (rfl) (by decide +kernel)
theorem wM_X3_42 : Cond.methodLink RX3 42 yX3_clear ∈ GG := GG_in (i := 407) (by decide +kernel) (by decide +kernel)
theorem wM_X3_45 : Cond.methodLink RX3 45 yX3_keyOf ∈ GG := GG_in (i := 408) (by decide +kernel) (by decide +kernel)
theorem wM_X3_49 : Cond.methodLink RX3 49 yX3_insert ∈ GG := GG_in (i := 409) (by decide +kernel) (by decide +kernel)
theorem wM_L_64 : Cond.methodLink RL 64 yX8_order ∈ GG := GG_in (i := 865) (by decide +kernel) (by decide +kernel)
theorem wI_X8_order : Cond.instanceMethod yX8_order ∈ GG := GG_in (i := 866) (by decide +kernel) (by decide +kernel)
theorem wL_X8_order : Cond.selects RX8 yX8_order yX8_order ∈ GG := GG_in (i := 867) (by decide +kernel) (by decide +kernel)
set_option maxRecDepth 100000 in
theorem wC_X8_order : Cond.code yX8_order cX8_order 5 (some .int) ∈ GG := GG_in (i := 868) (rfl) (by decide +kernel)
theorem wF_X8_103 : Cond.fieldLink RX8 103 "PairSieveModel" "known" "I" ∈ GG := GG_in (i := 714) (by decide +kernel) (by decide +kernel)
theorem wM_L_65 : Cond.methodLink RL 65 yX7_frequency ∈ GG := GG_in (i := 410) (by decide +kernel) (by decide +kernel)
theorem wI_X7_frequency : Cond.instanceMethod yX7_frequency ∈ GG := GG_in (i := 411) (by decide +kernel) (by decide +kernel)
theorem wL_X7_frequency : Cond.selects RX7 yX7_frequency yX7_frequency ∈ GG := GG_in (i := 412) (by decide +kernel) (by decide +kernel)
set_option maxRecDepth 100000 in
theorem wC_X7_frequency : Cond.code yX7_frequency cX7_frequency 2 (some .int) ∈ GG := GG_in (i := 413) (rfl) (by decide +kernel)
theorem wM_L_68 : Cond.methodLink RL 68 yX8_frequency ∈ GG := GG_in (i := 869) (by decide +kernel) (by decide +kernel)
theorem wI_X8_frequency : Cond.instanceMethod yX8_frequency ∈ GG := GG_in (i := 870) (by decide +kernel) (by decide +kernel)
theorem wL_X8_frequency : Cond.selects RX8 yX8_frequency yX8_frequency ∈ GG := GG_in (i := 871) (by decide +kernel) (by decide +kernel)
set_option maxRecDepth 100000 in
theorem wC_X8_frequency : Cond.code yX8_frequency cX8_frequency 2 (some .int) ∈ GG := GG_in (i := 872) (rfl) (by decide +kernel)
theorem wM_X8_106 : Cond.methodLink RX8 106 yX8_frequencyOf ∈ GG := GG_in (i := 873) (by decide +kernel) (by decide +kernel)
theorem wI_X8_frequencyOf : Cond.instanceMethod yX8_frequencyOf ∈ GG := GG_in (i := 875) (by decide +kernel) (by decide +kernel)
theorem wL_X8_frequencyOf : Cond.selects RX8 yX8_frequencyOf yX8_frequencyOf ∈ GG := GG_in (i := 25) (by decide +kernel) (by decide +kernel)
set_option maxRecDepth 100000 in
theorem wC_X8_frequencyOf : Cond.code yX8_frequencyOf cX8_frequencyOf 3 (some .int) ∈ GG := GG_in (i := 876) (rfl) (by decide +kernel)
theorem wM_L_69 : Cond.methodLink RL 69 yX7_about ∈ GG := GG_in (i := 414) (by decide +kernel) (by decide +kernel)
theorem wI_X7_about : Cond.instanceMethod yX7_about ∈ GG := GG_in (i := 415) (by decide +kernel) (by decide +kernel)
theorem wL_X7_about : Cond.selects RX7 yX7_about yX7_about ∈ GG := GG_in (i := 416) (by decide +kernel) (by decide +kernel)
set_option maxRecDepth 100000 in
theorem wC_X7_about : Cond.code yX7_about cX7_about 4 (some .int) ∈ GG := GG_in (i := 417) (rfl) (by decide +kernel)
theorem wM_X7_153 : Cond.methodLink RX7 153 yX1_least ∈ GG := GG_in (i := 418) (by decide +kernel) (by decide +kernel)
theorem wI_X1_least : Cond.instanceMethod yX1_least ∈ GG := GG_in (i := 419) (by decide +kernel) (by decide +kernel)
theorem wL_X1_least : Cond.selects RX1 yX1_least yX1_least ∈ GG := GG_in (i := 420) (by decide +kernel) (by decide +kernel)
set_option maxRecDepth 100000 in
theorem wC_X1_least : Cond.code yX1_least cX1_least 3 (some .long) ∈ GG := GG_in (i := 421) (rfl) (by decide +kernel)
theorem wK_X1_25 : Cond.constantLong RX1 25 (2) ∈ GG := GG_in (i := 422) (by decide +kernel) (by decide +kernel)
theorem wM_X1_27 : Cond.methodLink RX1 27 yX1_quotientUp ∈ GG := GG_in (i := 423) (by decide +kernel) (by decide +kernel)
theorem wS_X1_quotientUp : Cond.static yX1_quotientUp ∈ GG := GG_in (i := 424) (by decide +kernel) (by decide +kernel)
set_option maxRecDepth 100000 in
theorem wC_X1_quotientUp : Cond.code yX1_quotientUp cX1_quotientUp 4 (some .long) ∈ GG := GG_in (i := 425) (rfl) (by decide +kernel)
theorem wM_X7_157 : Cond.methodLink RX7 157 yX7_beginningOf ∈ GG := GG_in (i := 426) (by decide +kernel) (by decide +kernel)
theorem wI_X7_beginningOf : Cond.instanceMethod yX7_beginningOf ∈ GG := GG_in (i := 428) (by decide +kernel) (by decide +kernel)
theorem wL_X7_beginningOf : Cond.selects RX7 yX7_beginningOf yX7_beginningOf ∈ GG := GG_in (i := 8) (by decide +kernel) (by decide +kernel)
set_option maxRecDepth 100000 in
theorem wC_X7_beginningOf : Cond.code yX7_beginningOf cX7_beginningOf 2 (some .int) ∈ GG := GG_in (i := 429) (rfl) (by decide +kernel)
theorem wM_X7_280 : Cond.methodLink RX7 280 yX3_countBeginning ∈ GG := GG_in (i := 430) (by decide +kernel) (by decide +kernel)
theorem wI_X3_countBeginning : Cond.instanceMethod yX3_countBeginning ∈ GG := GG_in (i := 431) (by decide +kernel) (by decide +kernel)
theorem wL_X3_countBeginning : Cond.selects RX3 yX3_countBeginning yX3_countBeginning ∈ GG := GG_in (i := 432) (by decide +kernel) (by decide +kernel)
set_option maxRecDepth 100000 in
theorem wC_X3_countBeginning : Cond.code yX3_countBeginning cX3_countBeginning 5 (some .int) ∈ GG := GG_in (i := 433) (rfl) (by decide +kernel)
theorem wM_X7_161 : Cond.methodLink RX7 161 yX7_freshNet ∈ GG := GG_in (i := 434) (by decide +kernel) (by decide +kernel)
theorem wI_X7_freshNet : Cond.instanceMethod yX7_freshNet ∈ GG := GG_in (i := 436) (by decide +kernel) (by decide +kernel)
theorem wL_X7_freshNet : Cond.selects RX7 yX7_freshNet yX7_freshNet ∈ GG := GG_in (i := 9) (by decide +kernel) (by decide +kernel)
set_option maxRecDepth 100000 in
theorem wC_X7_freshNet : Cond.code yX7_freshNet cX7_freshNet 3 (some (.object "PairSieve$Net")) ∈ GG := GG_in (i := 437) (rfl) (by decide +kernel)
theorem wM_X7_311 : Cond.methodLink RX7 311 yX2_isForgotten ∈ GG := GG_in (i := 438) (by decide +kernel) (by decide +kernel)
theorem wI_X2_isForgotten : Cond.instanceMethod yX2_isForgotten ∈ GG := GG_in (i := 439) (by decide +kernel) (by decide +kernel)
theorem wL_X2_isForgotten : Cond.selects RX2 yX2_isForgotten yX2_isForgotten ∈ GG := GG_in (i := 440) (by decide +kernel) (by decide +kernel)
set_option maxRecDepth 100000 in
theorem wC_X2_isForgotten : Cond.code yX2_isForgotten cX2_isForgotten 2 (some .boolean) ∈ GG := GG_in (i := 441) (rfl) (by decide +kernel)
theorem wM_X7_314 : Cond.methodLink RX7 314 yX7_arePair ∈ GG := GG_in (i := 442) (by decide +kernel) (by decide +kernel)
theorem wI_X7_arePair : Cond.instanceMethod yX7_arePair ∈ GG := GG_in (i := 444) (by decide +kernel) (by decide +kernel)
theorem wL_X7_arePair : Cond.selects RX7 yX7_arePair yX7_arePair ∈ GG := GG_in (i := 10) (by decide +kernel) (by decide +kernel)
set_option maxRecDepth 100000 in
theorem wC_X7_arePair : Cond.code yX7_arePair cX7_arePair 5 (some .boolean) ∈ GG := GG_in (i := 445) (rfl) (by decide +kernel)
theorem wM_X7_180 : Cond.methodLink RX7 180 yX4_compare ∈ GG := GG_in (i := 446) (by decide +kernel) (by decide +kernel)
theorem wI_X4_compare : Cond.instanceMethod yX4_compare ∈ GG := GG_in (i := 447) (by decide +kernel) (by decide +kernel)
theorem wL_X4_compare : Cond.selects RX4 yX4_compare yX4_compare ∈ GG := GG_in (i := 448) (by decide +kernel) (by decide +kernel)
set_option maxRecDepth 100000 in
theorem wC_X4_compare : Cond.code yX4_compare cX4_compare 9 none ∈ GG := GG_in (i := 449) (rfl) (by decide +kernel)
theorem wF_X4_7 : Cond.fieldLink RX4 7 "PairSieve$Overlap" "shared" "I" ∈ GG := GG_in (i := 134) (by decide +kernel) (by decide +kernel)
theorem wF_X4_13 : Cond.fieldLink RX4 13 "PairSieve$Overlap" "sharedInBeginnings" "I" ∈ GG := GG_in (i := 136) (by decide +kernel) (by decide +kernel)
theorem wF_X4_16 : Cond.fieldLink RX4 16 "PairSieve$Overlap" "mostByPlaces" "I" ∈ GG := GG_in (i := 138) (by decide +kernel) (by decide +kernel)
theorem wM_X4_35 : Cond.methodLink RX4 35 Lib.Math.min.name ∈ GG := GG_in (i := 454) (by decide +kernel) (by decide +kernel)
theorem wS_J9_min_7cf53 : Cond.static Lib.Math.min.name ∈ GG := GG_in (i := 455) (by decide +kernel) (by decide +kernel)
theorem wN_J9 : Cond.initialized "java/lang/Math" ∈ GG := GG_in (i := 56) (by decide +kernel) (by decide +kernel)
set_option maxRecDepth 100000 in
theorem wC_J9_min_7cf53 : Cond.code Lib.Math.min.name Lib.Math.min.code 2 (some .int) ∈ GG := GG_in (i := 456) (rfl) (by decide +kernel)
theorem wM_X4_31 : Cond.methodLink RX4 31 yX3_amountBehind ∈ GG := GG_in (i := 450) (by decide +kernel) (by decide +kernel)
theorem wI_X3_amountBehind : Cond.instanceMethod yX3_amountBehind ∈ GG := GG_in (i := 451) (by decide +kernel) (by decide +kernel)
theorem wL_X3_amountBehind : Cond.selects RX3 yX3_amountBehind yX3_amountBehind ∈ GG := GG_in (i := 452) (by decide +kernel) (by decide +kernel)
set_option maxRecDepth 100000 in
theorem wC_X3_amountBehind : Cond.code yX3_amountBehind cX3_amountBehind 4 (some .int) ∈ GG := GG_in (i := 453) (rfl) (by decide +kernel)
theorem wM_X7_201 : Cond.methodLink RX7 201 yX1_isReached ∈ GG := GG_in (i := 457) (by decide +kernel) (by decide +kernel)
theorem wI_X1_isReached : Cond.instanceMethod yX1_isReached ∈ GG := GG_in (i := 458) (by decide +kernel) (by decide +kernel)
theorem wL_X1_isReached : Cond.selects RX1 yX1_isReached yX1_isReached ∈ GG := GG_in (i := 459) (by decide +kernel) (by decide +kernel)
set_option maxRecDepth 100000 in
theorem wC_X1_isReached : Cond.code yX1_isReached cX1_isReached 11 (some .boolean) ∈ GG := GG_in (i := 460) (rfl) (by decide +kernel)
theorem wM_X1_39 : Cond.methodLink RX1 39 yX1_likenessAbove ∈ GG := GG_in (i := 461) (by decide +kernel) (by decide +kernel)
theorem wI_X1_likenessAbove : Cond.instanceMethod yX1_likenessAbove ∈ GG := GG_in (i := 462) (by decide +kernel) (by decide +kernel)
theorem wL_X1_likenessAbove : Cond.selects RX1 yX1_likenessAbove yX1_likenessAbove ∈ GG := GG_in (i := 463) (by decide +kernel) (by decide +kernel)
set_option maxRecDepth 100000 in
theorem wC_X1_likenessAbove : Cond.code yX1_likenessAbove cX1_likenessAbove 7 (some .long) ∈ GG := GG_in (i := 464) (rfl) (by decide +kernel)
theorem wM_X1_43 : Cond.methodLink RX1 43 yX1_likenessBelow ∈ GG := GG_in (i := 465) (by decide +kernel) (by decide +kernel)
theorem wI_X1_likenessBelow : Cond.instanceMethod yX1_likenessBelow ∈ GG := GG_in (i := 466) (by decide +kernel) (by decide +kernel)
theorem wL_X1_likenessBelow : Cond.selects RX1 yX1_likenessBelow yX1_likenessBelow ∈ GG := GG_in (i := 467) (by decide +kernel) (by decide +kernel)
set_option maxRecDepth 100000 in
theorem wC_X1_likenessBelow : Cond.code yX1_likenessBelow cX1_likenessBelow 7 (some .long) ∈ GG := GG_in (i := 468) (rfl) (by decide +kernel)
theorem wM_X1_34 : Cond.methodLink RX1 34 Lib.MathLoose.min_long.x ∈ GG := GG_in (i := 469) (by decide +kernel) (by decide +kernel)
theorem wS_J9_min_f86c9 : Cond.static Lib.MathLoose.min_long.x ∈ GG := GG_in (i := 470) (by decide +kernel) (by decide +kernel)
set_option maxRecDepth 100000 in
theorem wC_J9_min_f86c9 : Cond.code Lib.MathLoose.min_long.x Lib.MathLoose.min_long.code 4 (some .long) ∈ GG := GG_in (i := 471) (rfl) (by decide +kernel)
theorem wM_X7_317 : Cond.methodLink RX7 317 yX2_tie ∈ GG := GG_in (i := 472) (by decide +kernel) (by decide +kernel)
theorem wI_X2_tie : Cond.instanceMethod yX2_tie ∈ GG := GG_in (i := 473) (by decide +kernel) (by decide +kernel)
theorem wL_X2_tie : Cond.selects RX2 yX2_tie yX2_tie ∈ GG := GG_in (i := 474) (by decide +kernel) (by decide +kernel)
set_option maxRecDepth 100000 in
theorem wC_X2_tie : Cond.code yX2_tie cX2_tie 4 none ∈ GG := GG_in (i := 475) (rfl) (by decide +kernel)
theorem wK_X2_19 : Cond.constantLong RX2 19 (-1) ∈ GG := GG_in (i := 476) (by decide +kernel) (by decide +kernel)
theorem wM_X7_321 : Cond.methodLink RX7 321 yX2_know ∈ GG := GG_in (i := 477) (by decide +kernel) (by decide +kernel)
theorem wI_X2_know : Cond.instanceMethod yX2_know ∈ GG := GG_in (i := 478) (by decide +kernel) (by decide +kernel)
theorem wL_X2_know : Cond.selects RX2 yX2_know yX2_know ∈ GG := GG_in (i := 479) (by decide +kernel) (by decide +kernel)
set_option maxRecDepth 100000 in
theorem wC_X2_know : Cond.code yX2_know cX2_know 2 none ∈ GG := GG_in (i := 480) (rfl) (by decide +kernel)
theorem wM_X7_165 : Cond.methodLink RX7 165 yX2_familyOf ∈ GG := GG_in (i := 481) (by decide +kernel) (by decide +kernel)
theorem wI_X2_familyOf : Cond.instanceMethod yX2_familyOf ∈ GG := GG_in (i := 482) (by decide +kernel) (by decide +kernel)
theorem wL_X2_familyOf : Cond.selects RX2 yX2_familyOf yX2_familyOf ∈ GG := GG_in (i := 483) (by decide +kernel) (by decide +kernel)
set_option maxRecDepth 100000 in
theorem wC_X2_familyOf : Cond.code yX2_familyOf cX2_familyOf 7 (some .long) ∈ GG := GG_in (i := 484) (rfl) (by decide +kernel)
theorem wM_X2_27 : Cond.methodLink RX2 27 yX2_friendsOf ∈ GG := GG_in (i := 485) (by decide +kernel) (by decide +kernel)
theorem wI_X2_friendsOf : Cond.instanceMethod yX2_friendsOf ∈ GG := GG_in (i := 487) (by decide +kernel) (by decide +kernel)
theorem wL_X2_friendsOf : Cond.selects RX2 yX2_friendsOf yX2_friendsOf ∈ GG := GG_in (i := 11) (by decide +kernel) (by decide +kernel)
set_option maxRecDepth 100000 in
theorem wC_X2_friendsOf : Cond.code yX2_friendsOf cX2_friendsOf 6 (some .long) ∈ GG := GG_in (i := 488) (rfl) (by decide +kernel)
theorem wM_X7_169 : Cond.methodLink RX7 169 yX2_leastOf ∈ GG := GG_in (i := 489) (by decide +kernel) (by decide +kernel)
theorem wS_X2_leastOf : Cond.static yX2_leastOf ∈ GG := GG_in (i := 490) (by decide +kernel) (by decide +kernel)
set_option maxRecDepth 100000 in
theorem wC_X2_leastOf : Cond.code yX2_leastOf cX2_leastOf 2 (some .int) ∈ GG := GG_in (i := 491) (rfl) (by decide +kernel)
theorem wM_X2_21 : Cond.methodLink RX2 21 yJ13_bitCount_95d88 ∈ GG := GG_in (i := 492) (by decide +kernel) (by decide +kernel)
theorem wS_J13_bitCount_95d88 : Cond.static yJ13_bitCount_95d88 ∈ GG := GG_in (i := 493) (by decide +kernel) (by decide +kernel)
theorem wN_J13 : Cond.initialized RJ13 ∈ GG := GG_in (i := 57) (by decide +kernel) (by decide +kernel)
set_option maxRecDepth 100000 in
theorem wC_J13_bitCount_95d88 : Cond.code yJ13_bitCount_95d88 cJ13_bitCount_95d88 2 (some .int) ∈ GG := GG_in (i := 494) (rfl) (by decide +kernel)
theorem wK_J13_314 : Cond.constantLong RJ13 314 (6148914691236517205) ∈ GG := GG_in (i := 495) (by decide +kernel) (by decide +kernel)
theorem wK_J13_316 : Cond.constantLong RJ13 316 (3689348814741910323) ∈ GG := GG_in (i := 496) (by decide +kernel) (by decide +kernel)
theorem wK_J13_318 : Cond.constantLong RJ13 318 (1085102592571150095) ∈ GG := GG_in (i := 497) (by decide +kernel) (by decide +kernel)
theorem wM_X7_173 : Cond.methodLink RX7 173 yJ13_bitCount_95d88 ∈ GG := GG_in (i := 498) (by decide +kernel) (by decide +kernel)
theorem wM_L_72 : Cond.methodLink RL 72 yX8_about ∈ GG := GG_in (i := 973) (by decide +kernel) (by decide +kernel)
theorem wI_X8_about : Cond.instanceMethod yX8_about ∈ GG := GG_in (i := 974) (by decide +kernel) (by decide +kernel)
theorem wL_X8_about : Cond.selects RX8 yX8_about yX8_about ∈ GG := GG_in (i := 975) (by decide +kernel) (by decide +kernel)
set_option maxRecDepth 100000 in
theorem wC_X8_about : Cond.code yX8_about cX8_about 5 (some .int) ∈ GG := GG_in (i := 976) (rfl) (by decide +kernel)
theorem wM_X8_136 : Cond.methodLink RX8 136 yX8_amountOf ∈ GG := GG_in (i := 917) (by decide +kernel) (by decide +kernel)
theorem wI_X8_amountOf : Cond.instanceMethod yX8_amountOf ∈ GG := GG_in (i := 919) (by decide +kernel) (by decide +kernel)
theorem wL_X8_amountOf : Cond.selects RX8 yX8_amountOf yX8_amountOf ∈ GG := GG_in (i := 34) (by decide +kernel) (by decide +kernel)
set_option maxRecDepth 100000 in
theorem wC_X8_amountOf : Cond.code yX8_amountOf cX8_amountOf 4 (some .int) ∈ GG := GG_in (i := 920) (rfl) (by decide +kernel)
theorem wM_X8_114 : Cond.methodLink RX8 114 yX8_weightOf ∈ GG := GG_in (i := 905) (by decide +kernel) (by decide +kernel)
theorem wI_X8_weightOf : Cond.instanceMethod yX8_weightOf ∈ GG := GG_in (i := 907) (by decide +kernel) (by decide +kernel)
theorem wL_X8_weightOf : Cond.selects RX8 yX8_weightOf yX8_weightOf ∈ GG := GG_in (i := 32) (by decide +kernel) (by decide +kernel)
set_option maxRecDepth 100000 in
theorem wC_X8_weightOf : Cond.code yX8_weightOf cX8_weightOf 3 (some .int) ∈ GG := GG_in (i := 908) (rfl) (by decide +kernel)
theorem wM_X8_153 : Cond.methodLink RX8 153 yX8_least ∈ GG := GG_in (i := 909) (by decide +kernel) (by decide +kernel)
theorem wI_X8_least : Cond.instanceMethod yX8_least ∈ GG := GG_in (i := 911) (by decide +kernel) (by decide +kernel)
theorem wL_X8_least : Cond.selects RX8 yX8_least yX8_least ∈ GG := GG_in (i := 33) (by decide +kernel) (by decide +kernel)
set_option maxRecDepth 100000 in
theorem wC_X8_least : Cond.code yX8_least cX8_least 3 (some .long) ∈ GG := GG_in (i := 912) (rfl) (by decide +kernel)
theorem wK_X8_127 : Cond.constantLong RX8 127 (2) ∈ GG := GG_in (i := 913) (by decide +kernel) (by decide +kernel)
theorem wM_X8_129 : Cond.methodLink RX8 129 yX8_up ∈ GG := GG_in (i := 914) (by decide +kernel) (by decide +kernel)
theorem wS_X8_up : Cond.static yX8_up ∈ GG := GG_in (i := 915) (by decide +kernel) (by decide +kernel)
set_option maxRecDepth 100000 in
theorem wC_X8_up : Cond.code yX8_up cX8_up 4 (some .long) ∈ GG := GG_in (i := 916) (rfl) (by decide +kernel)
theorem wM_X8_157 : Cond.methodLink RX8 157 yX8_sort ∈ GG := GG_in (i := 889) (by decide +kernel) (by decide +kernel)
theorem wI_X8_sort : Cond.instanceMethod yX8_sort ∈ GG := GG_in (i := 891) (by decide +kernel) (by decide +kernel)
theorem wL_X8_sort : Cond.selects RX8 yX8_sort yX8_sort ∈ GG := GG_in (i := 28) (by decide +kernel) (by decide +kernel)
set_option maxRecDepth 100000 in
theorem wC_X8_sort : Cond.code yX8_sort cX8_sort 6 none ∈ GG := GG_in (i := 892) (rfl) (by decide +kernel)
theorem wM_X8_110 : Cond.methodLink RX8 110 yX8_isAhead ∈ GG := GG_in (i := 893) (by decide +kernel) (by decide +kernel)
theorem wI_X8_isAhead : Cond.instanceMethod yX8_isAhead ∈ GG := GG_in (i := 895) (by decide +kernel) (by decide +kernel)
theorem wL_X8_isAhead : Cond.selects RX8 yX8_isAhead yX8_isAhead ∈ GG := GG_in (i := 29) (by decide +kernel) (by decide +kernel)
set_option maxRecDepth 100000 in
theorem wC_X8_isAhead : Cond.code yX8_isAhead cX8_isAhead 5 (some .boolean) ∈ GG := GG_in (i := 896) (rfl) (by decide +kernel)
theorem wM_X8_161 : Cond.methodLink RX8 161 yX8_beginning ∈ GG := GG_in (i := 897) (by decide +kernel) (by decide +kernel)
theorem wI_X8_beginning : Cond.instanceMethod yX8_beginning ∈ GG := GG_in (i := 899) (by decide +kernel) (by decide +kernel)
theorem wL_X8_beginning : Cond.selects RX8 yX8_beginning yX8_beginning ∈ GG := GG_in (i := 30) (by decide +kernel) (by decide +kernel)
set_option maxRecDepth 100000 in
theorem wC_X8_beginning : Cond.code yX8_beginning cX8_beginning 6 (some .int) ∈ GG := GG_in (i := 900) (rfl) (by decide +kernel)
theorem wM_X8_149 : Cond.methodLink RX8 149 yX8_amount ∈ GG := GG_in (i := 901) (by decide +kernel) (by decide +kernel)
theorem wI_X8_amount : Cond.instanceMethod yX8_amount ∈ GG := GG_in (i := 903) (by decide +kernel) (by decide +kernel)
theorem wL_X8_amount : Cond.selects RX8 yX8_amount yX8_amount ∈ GG := GG_in (i := 31) (by decide +kernel) (by decide +kernel)
set_option maxRecDepth 100000 in
theorem wC_X8_amount : Cond.code yX8_amount cX8_amount 6 (some .int) ∈ GG := GG_in (i := 904) (rfl) (by decide +kernel)
theorem wM_X8_194 : Cond.methodLink RX8 194 yX8_steps ∈ GG := GG_in (i := 977) (by decide +kernel) (by decide +kernel)
theorem wI_X8_steps : Cond.instanceMethod yX8_steps ∈ GG := GG_in (i := 979) (by decide +kernel) (by decide +kernel)
theorem wL_X8_steps : Cond.selects RX8 yX8_steps yX8_steps ∈ GG := GG_in (i := 43) (by decide +kernel) (by decide +kernel)
set_option maxRecDepth 100000 in
theorem wC_X8_steps : Cond.code yX8_steps cX8_steps 6 none ∈ GG := GG_in (i := 980) (rfl) (by decide +kernel)
theorem wM_X8_171 : Cond.methodLink RX8 171 yX8_isTwo ∈ GG := GG_in (i := 881) (by decide +kernel) (by decide +kernel)
theorem wI_X8_isTwo : Cond.instanceMethod yX8_isTwo ∈ GG := GG_in (i := 883) (by decide +kernel) (by decide +kernel)
theorem wL_X8_isTwo : Cond.selects RX8 yX8_isTwo yX8_isTwo ∈ GG := GG_in (i := 26) (by decide +kernel) (by decide +kernel)
set_option maxRecDepth 100000 in
theorem wC_X8_isTwo : Cond.code yX8_isTwo cX8_isTwo 3 (some .boolean) ∈ GG := GG_in (i := 884) (rfl) (by decide +kernel)
theorem wM_X8_168 : Cond.methodLink RX8 168 yX8_isPair ∈ GG := GG_in (i := 925) (by decide +kernel) (by decide +kernel)
theorem wI_X8_isPair : Cond.instanceMethod yX8_isPair ∈ GG := GG_in (i := 927) (by decide +kernel) (by decide +kernel)
theorem wL_X8_isPair : Cond.selects RX8 yX8_isPair yX8_isPair ∈ GG := GG_in (i := 36) (by decide +kernel) (by decide +kernel)
set_option maxRecDepth 100000 in
theorem wC_X8_isPair : Cond.code yX8_isPair cX8_isPair 13 (some .boolean) ∈ GG := GG_in (i := 928) (rfl) (by decide +kernel)
theorem wM_X8_139 : Cond.methodLink RX8 139 yX8_shared ∈ GG := GG_in (i := 929) (by decide +kernel) (by decide +kernel)
theorem wI_X8_shared : Cond.instanceMethod yX8_shared ∈ GG := GG_in (i := 931) (by decide +kernel) (by decide +kernel)
theorem wL_X8_shared : Cond.selects RX8 yX8_shared yX8_shared ∈ GG := GG_in (i := 37) (by decide +kernel) (by decide +kernel)
set_option maxRecDepth 100000 in
theorem wC_X8_shared : Cond.code yX8_shared cX8_shared 5 (some .int) ∈ GG := GG_in (i := 932) (rfl) (by decide +kernel)
theorem wM_X8_142 : Cond.methodLink RX8 142 yX8_above ∈ GG := GG_in (i := 933) (by decide +kernel) (by decide +kernel)
theorem wI_X8_above : Cond.instanceMethod yX8_above ∈ GG := GG_in (i := 935) (by decide +kernel) (by decide +kernel)
theorem wL_X8_above : Cond.selects RX8 yX8_above yX8_above ∈ GG := GG_in (i := 38) (by decide +kernel) (by decide +kernel)
set_option maxRecDepth 100000 in
theorem wC_X8_above : Cond.code yX8_above cX8_above 7 (some .long) ∈ GG := GG_in (i := 936) (rfl) (by decide +kernel)
theorem wM_X8_146 : Cond.methodLink RX8 146 yX8_below ∈ GG := GG_in (i := 937) (by decide +kernel) (by decide +kernel)
theorem wI_X8_below : Cond.instanceMethod yX8_below ∈ GG := GG_in (i := 939) (by decide +kernel) (by decide +kernel)
theorem wL_X8_below : Cond.selects RX8 yX8_below yX8_below ∈ GG := GG_in (i := 39) (by decide +kernel) (by decide +kernel)
set_option maxRecDepth 100000 in
theorem wC_X8_below : Cond.code yX8_below cX8_below 7 (some .long) ∈ GG := GG_in (i := 940) (rfl) (by decide +kernel)
theorem wM_L_73 : Cond.methodLink RL 73 yX7_at ∈ GG := GG_in (i := 499) (by decide +kernel) (by decide +kernel)
theorem wI_X7_at : Cond.instanceMethod yX7_at ∈ GG := GG_in (i := 500) (by decide +kernel) (by decide +kernel)
theorem wL_X7_at : Cond.selects RX7 yX7_at yX7_at ∈ GG := GG_in (i := 501) (by decide +kernel) (by decide +kernel)
set_option maxRecDepth 100000 in
theorem wC_X7_at : Cond.code yX7_at cX7_at 4 (some .int) ∈ GG := GG_in (i := 502) (rfl) (by decide +kernel)
theorem wM_L_76 : Cond.methodLink RL 76 yX8_at ∈ GG := GG_in (i := 981) (by decide +kernel) (by decide +kernel)
theorem wI_X8_at : Cond.instanceMethod yX8_at ∈ GG := GG_in (i := 982) (by decide +kernel) (by decide +kernel)
theorem wL_X8_at : Cond.selects RX8 yX8_at yX8_at ∈ GG := GG_in (i := 983) (by decide +kernel) (by decide +kernel)
set_option maxRecDepth 100000 in
theorem wC_X8_at : Cond.code yX8_at cX8_at 3 (some .int) ∈ GG := GG_in (i := 984) (rfl) (by decide +kernel)
theorem wM_L_77 : Cond.methodLink RL 77 yX7_like ∈ GG := GG_in (i := 503) (by decide +kernel) (by decide +kernel)
theorem wI_X7_like : Cond.instanceMethod yX7_like ∈ GG := GG_in (i := 504) (by decide +kernel) (by decide +kernel)
theorem wL_X7_like : Cond.selects RX7 yX7_like yX7_like ∈ GG := GG_in (i := 505) (by decide +kernel) (by decide +kernel)
set_option maxRecDepth 100000 in
theorem wC_X7_like : Cond.code yX7_like cX7_like 12 (some .long) ∈ GG := GG_in (i := 506) (rfl) (by decide +kernel)
theorem wK_X7_178 : Cond.constantLong RX7 178 (-1) ∈ GG := GG_in (i := 507) (by decide +kernel) (by decide +kernel)
theorem wM_X7_187 : Cond.methodLink RX7 187 yX1_likenessAbove ∈ GG := GG_in (i := 508) (by decide +kernel) (by decide +kernel)
theorem wM_X7_191 : Cond.methodLink RX7 191 yX1_likenessBelow ∈ GG := GG_in (i := 509) (by decide +kernel) (by decide +kernel)
theorem wM_X7_194 : Cond.methodLink RX7 194 yX1_needed ∈ GG := GG_in (i := 510) (by decide +kernel) (by decide +kernel)
theorem wI_X1_needed : Cond.instanceMethod yX1_needed ∈ GG := GG_in (i := 511) (by decide +kernel) (by decide +kernel)
theorem wL_X1_needed : Cond.selects RX1 yX1_needed yX1_needed ∈ GG := GG_in (i := 512) (by decide +kernel) (by decide +kernel)
set_option maxRecDepth 100000 in
theorem wC_X1_needed : Cond.code yX1_needed cX1_needed 5 (some .long) ∈ GG := GG_in (i := 513) (rfl) (by decide +kernel)
theorem wM_X1_31 : Cond.methodLink RX1 31 yX1_rootUp ∈ GG := GG_in (i := 514) (by decide +kernel) (by decide +kernel)
theorem wS_X1_rootUp : Cond.static yX1_rootUp ∈ GG := GG_in (i := 515) (by decide +kernel) (by decide +kernel)
set_option maxRecDepth 100000 in
theorem wC_X1_rootUp : Cond.code yX1_rootUp cX1_rootUp 6 (some .long) ∈ GG := GG_in (i := 516) (rfl) (by decide +kernel)
theorem wK_X1_46 : Cond.constantLong RX1 46 (3000) ∈ GG := GG_in (i := 517) (by decide +kernel) (by decide +kernel)
theorem wM_X7_198 : Cond.methodLink RX7 198 yX1_withoutDivisor ∈ GG := GG_in (i := 518) (by decide +kernel) (by decide +kernel)
theorem wS_X1_withoutDivisor : Cond.static yX1_withoutDivisor ∈ GG := GG_in (i := 519) (by decide +kernel) (by decide +kernel)
set_option maxRecDepth 100000 in
theorem wC_X1_withoutDivisor : Cond.code yX1_withoutDivisor cX1_withoutDivisor 13 (some .long) ∈ GG := GG_in (i := 520) (rfl) (by decide +kernel)
theorem wM_L_81 : Cond.methodLink RL 81 yX8_like ∈ GG := GG_in (i := 941) (by decide +kernel) (by decide +kernel)
theorem wI_X8_like : Cond.instanceMethod yX8_like ∈ GG := GG_in (i := 942) (by decide +kernel) (by decide +kernel)
theorem wL_X8_like : Cond.selects RX8 yX8_like yX8_like ∈ GG := GG_in (i := 943) (by decide +kernel) (by decide +kernel)
set_option maxRecDepth 100000 in
theorem wC_X8_like : Cond.code yX8_like cX8_like 16 (some .long) ∈ GG := GG_in (i := 944) (rfl) (by decide +kernel)
theorem wK_X8_177 : Cond.constantLong RX8 177 (-1) ∈ GG := GG_in (i := 945) (by decide +kernel) (by decide +kernel)
theorem wM_X8_133 : Cond.methodLink RX8 133 yX8_divisor ∈ GG := GG_in (i := 946) (by decide +kernel) (by decide +kernel)
theorem wS_X8_divisor : Cond.static yX8_divisor ∈ GG := GG_in (i := 947) (by decide +kernel) (by decide +kernel)
set_option maxRecDepth 100000 in
theorem wC_X8_divisor : Cond.code yX8_divisor cX8_divisor 4 (some .long) ∈ GG := GG_in (i := 948) (rfl) (by decide +kernel)
theorem wM_X8_165 : Cond.methodLink RX8 165 yX8_needed ∈ GG := GG_in (i := 921) (by decide +kernel) (by decide +kernel)
theorem wI_X8_needed : Cond.instanceMethod yX8_needed ∈ GG := GG_in (i := 923) (by decide +kernel) (by decide +kernel)
theorem wL_X8_needed : Cond.selects RX8 yX8_needed yX8_needed ∈ GG := GG_in (i := 35) (by decide +kernel) (by decide +kernel)
set_option maxRecDepth 100000 in
theorem wC_X8_needed : Cond.code yX8_needed cX8_needed 9 (some .long) ∈ GG := GG_in (i := 924) (rfl) (by decide +kernel)
theorem wM_L_82 : Cond.methodLink RL 82 yX7_why ∈ GG := GG_in (i := 521) (by decide +kernel) (by decide +kernel)
theorem wI_X7_why : Cond.instanceMethod yX7_why ∈ GG := GG_in (i := 522) (by decide +kernel) (by decide +kernel)
theorem wL_X7_why : Cond.selects RX7 yX7_why yX7_why ∈ GG := GG_in (i := 523) (by decide +kernel) (by decide +kernel)
set_option maxRecDepth 100000 in
theorem wC_X7_why : Cond.code yX7_why cX7_why 5 (some .int) ∈ GG := GG_in (i := 524) (rfl) (by decide +kernel)
theorem wM_X7_205 : Cond.methodLink RX7 205 yX7_fateOf ∈ GG := GG_in (i := 525) (by decide +kernel) (by decide +kernel)
theorem wI_X7_fateOf : Cond.instanceMethod yX7_fateOf ∈ GG := GG_in (i := 527) (by decide +kernel) (by decide +kernel)
theorem wL_X7_fateOf : Cond.selects RX7 yX7_fateOf yX7_fateOf ∈ GG := GG_in (i := 12) (by decide +kernel) (by decide +kernel)
set_option maxRecDepth 100000 in
theorem wC_X7_fateOf : Cond.code yX7_fateOf cX7_fateOf 7 (some .int) ∈ GG := GG_in (i := 528) (rfl) (by decide +kernel)
theorem wM_X7_286 : Cond.methodLink RX7 286 Lib.Math.min.name ∈ GG := GG_in (i := 529) (by decide +kernel) (by decide +kernel)
theorem wM_L_85 : Cond.methodLink RL 85 yX8_why ∈ GG := GG_in (i := 877) (by decide +kernel) (by decide +kernel)
theorem wI_X8_why : Cond.instanceMethod yX8_why ∈ GG := GG_in (i := 878) (by decide +kernel) (by decide +kernel)
theorem wL_X8_why : Cond.selects RX8 yX8_why yX8_why ∈ GG := GG_in (i := 879) (by decide +kernel) (by decide +kernel)
set_option maxRecDepth 100000 in
theorem wC_X8_why : Cond.code yX8_why cX8_why 3 (some .int) ∈ GG := GG_in (i := 880) (rfl) (by decide +kernel)
theorem wM_X8_174 : Cond.methodLink RX8 174 yX8_whyOf ∈ GG := GG_in (i := 885) (by decide +kernel) (by decide +kernel)
theorem wI_X8_whyOf : Cond.instanceMethod yX8_whyOf ∈ GG := GG_in (i := 887) (by decide +kernel) (by decide +kernel)
theorem wL_X8_whyOf : Cond.selects RX8 yX8_whyOf yX8_whyOf ∈ GG := GG_in (i := 27) (by decide +kernel) (by decide +kernel)
set_option maxRecDepth 100000 in
theorem wC_X8_whyOf : Cond.code yX8_whyOf cX8_whyOf 16 (some .int) ∈ GG := GG_in (i := 888) (rfl) (by decide +kernel)
theorem wM_L_86 : Cond.methodLink RL 86 yX7_pairs ∈ GG := GG_in (i := 530) (by decide +kernel) (by decide +kernel)
theorem wI_X7_pairs : Cond.instanceMethod yX7_pairs ∈ GG := GG_in (i := 531) (by decide +kernel) (by decide +kernel)
theorem wL_X7_pairs : Cond.selects RX7 yX7_pairs yX7_pairs ∈ GG := GG_in (i := 532) (by decide +kernel) (by decide +kernel)
set_option maxRecDepth 100000 in
theorem wC_X7_pairs : Cond.code yX7_pairs cX7_pairs 3 (some .int) ∈ GG := GG_in (i := 533) (rfl) (by decide +kernel)
theorem wM_X7_209 : Cond.methodLink RX7 209 yX7_startSieve ∈ GG := GG_in (i := 534) (by decide +kernel) (by decide +kernel)
theorem wI_X7_startSieve : Cond.instanceMethod yX7_startSieve ∈ GG := GG_in (i := 536) (by decide +kernel) (by decide +kernel)
theorem wL_X7_startSieve : Cond.selects RX7 yX7_startSieve yX7_startSieve ∈ GG := GG_in (i := 13) (by decide +kernel) (by decide +kernel)
set_option maxRecDepth 100000 in
theorem wC_X7_startSieve : Cond.code yX7_startSieve cX7_startSieve 2 none ∈ GG := GG_in (i := 537) (rfl) (by decide +kernel)
theorem wF_X7_261 : Cond.fieldLink RX7 261 "PairSieve" "spent" "I" ∈ GG := GG_in (i := 199) (by decide +kernel) (by decide +kernel)
theorem wM_X7_232 : Cond.methodLink RX7 232 yX0_clear ∈ GG := GG_in (i := 538) (by decide +kernel) (by decide +kernel)
theorem wI_X0_clear : Cond.instanceMethod yX0_clear ∈ GG := GG_in (i := 539) (by decide +kernel) (by decide +kernel)
theorem wL_X0_clear : Cond.selects RX0 yX0_clear yX0_clear ∈ GG := GG_in (i := 540) (by decide +kernel) (by decide +kernel)
set_option maxRecDepth 100000 in
theorem wC_X0_clear : Cond.code yX0_clear cX0_clear 1 none ∈ GG := GG_in (i := 541) (rfl) (by decide +kernel)
theorem wF_X0_28 : Cond.fieldLink RX0 28 "PairSieve$KeptPairs" "size" "I" ∈ GG := GG_in (i := 161) (by decide +kernel) (by decide +kernel)
theorem wM_X7_212 : Cond.methodLink RX7 212 yX7_sift ∈ GG := GG_in (i := 542) (by decide +kernel) (by decide +kernel)
theorem wI_X7_sift : Cond.instanceMethod yX7_sift ∈ GG := GG_in (i := 544) (by decide +kernel) (by decide +kernel)
theorem wL_X7_sift : Cond.selects RX7 yX7_sift yX7_sift ∈ GG := GG_in (i := 14) (by decide +kernel) (by decide +kernel)
set_option maxRecDepth 100000 in
theorem wC_X7_sift : Cond.code yX7_sift cX7_sift 4 none ∈ GG := GG_in (i := 545) (rfl) (by decide +kernel)
theorem wM_X7_294 : Cond.methodLink RX7 294 yX0_append ∈ GG := GG_in (i := 546) (by decide +kernel) (by decide +kernel)
theorem wI_X0_append : Cond.instanceMethod yX0_append ∈ GG := GG_in (i := 547) (by decide +kernel) (by decide +kernel)
theorem wL_X0_append : Cond.selects RX0 yX0_append yX0_append ∈ GG := GG_in (i := 548) (by decide +kernel) (by decide +kernel)
set_option maxRecDepth 100000 in
theorem wC_X0_append : Cond.code yX0_append cX0_append 4 none ∈ GG := GG_in (i := 549) (rfl) (by decide +kernel)
theorem wM_X0_32 : Cond.methodLink RX0 32 yX0_set ∈ GG := GG_in (i := 550) (by decide +kernel) (by decide +kernel)
theorem wI_X0_set : Cond.instanceMethod yX0_set ∈ GG := GG_in (i := 551) (by decide +kernel) (by decide +kernel)
theorem wL_X0_set : Cond.selects RX0 yX0_set yX0_set ∈ GG := GG_in (i := 552) (by decide +kernel) (by decide +kernel)
set_option maxRecDepth 100000 in
theorem wC_X0_set : Cond.code yX0_set cX0_set 5 none ∈ GG := GG_in (i := 553) (rfl) (by decide +kernel)
theorem wM_L_89 : Cond.methodLink RL 89 yX8_pairs ∈ GG := GG_in (i := 949) (by decide +kernel) (by decide +kernel)
theorem wI_X8_pairs : Cond.instanceMethod yX8_pairs ∈ GG := GG_in (i := 950) (by decide +kernel) (by decide +kernel)
theorem wL_X8_pairs : Cond.selects RX8 yX8_pairs yX8_pairs ∈ GG := GG_in (i := 951) (by decide +kernel) (by decide +kernel)
set_option maxRecDepth 100000 in
theorem wC_X8_pairs : Cond.code yX8_pairs cX8_pairs 4 (some .int) ∈ GG := GG_in (i := 952) (rfl) (by decide +kernel)
theorem wF_X8_179 : Cond.fieldLink RX8 179 "PairSieveModel" "kept" "I" ∈ GG := GG_in (i := 724) (by decide +kernel) (by decide +kernel)
theorem wM_X8_182 : Cond.methodLink RX8 182 yX8_keep ∈ GG := GG_in (i := 953) (by decide +kernel) (by decide +kernel)
theorem wI_X8_keep : Cond.instanceMethod yX8_keep ∈ GG := GG_in (i := 955) (by decide +kernel) (by decide +kernel)
theorem wL_X8_keep : Cond.selects RX8 yX8_keep yX8_keep ∈ GG := GG_in (i := 40) (by decide +kernel) (by decide +kernel)
set_option maxRecDepth 100000 in
theorem wC_X8_keep : Cond.code yX8_keep cX8_keep 4 none ∈ GG := GG_in (i := 956) (rfl) (by decide +kernel)
theorem wM_X8_186 : Cond.methodLink RX8 186 yX8_spent ∈ GG := GG_in (i := 957) (by decide +kernel) (by decide +kernel)
theorem wI_X8_spent : Cond.instanceMethod yX8_spent ∈ GG := GG_in (i := 959) (by decide +kernel) (by decide +kernel)
theorem wL_X8_spent : Cond.selects RX8 yX8_spent yX8_spent ∈ GG := GG_in (i := 41) (by decide +kernel) (by decide +kernel)
set_option maxRecDepth 100000 in
theorem wC_X8_spent : Cond.code yX8_spent cX8_spent 8 (some .int) ∈ GG := GG_in (i := 960) (rfl) (by decide +kernel)
theorem wM_L_90 : Cond.methodLink RL 90 yL_pair ∈ GG := GG_in (i := 626) (by decide +kernel) (by decide +kernel)
theorem wS_L_pair : Cond.static yL_pair ∈ GG := GG_in (i := 627) (by decide +kernel) (by decide +kernel)
theorem wN_L : Cond.initialized RL ∈ GG := GG_in (i := 45) (by decide +kernel) (by decide +kernel)
theorem wE_L_13 : Cond.classLink RL 13 "java/util/NoSuchElementException" ∈ GG := GG_in (i := 629) (by decide +kernel) (by decide +kernel)
theorem wM_L_7 : Cond.methodLink RL 7 yX7_pair ∈ GG := GG_in (i := 630) (by decide +kernel) (by decide +kernel)
theorem wI_X7_pair : Cond.instanceMethod yX7_pair ∈ GG := GG_in (i := 631) (by decide +kernel) (by decide +kernel)
theorem wL_X7_pair : Cond.selects RX7 yX7_pair yX7_pair ∈ GG := GG_in (i := 632) (by decide +kernel) (by decide +kernel)
set_option maxRecDepth 100000 in
theorem wC_X7_pair : Cond.code yX7_pair cX7_pair 3 (some .int) ∈ GG := GG_in (i := 633) (rfl) (by decide +kernel)
theorem wE_X7_217 : Cond.classLink RX7 217 "java/util/NoSuchElementException" ∈ GG := GG_in (i := 634) (by decide +kernel) (by decide +kernel)
theorem wN_java_util_NoSuchElementException : Cond.initialized "java/util/NoSuchElementException" ∈ GG := GG_in (i := 61) (by decide +kernel) (by decide +kernel)
theorem wM_L_95 : Cond.methodLink RL 95 yX8_pair ∈ GG := GG_in (i := 961) (by decide +kernel) (by decide +kernel)
theorem wI_X8_pair : Cond.instanceMethod yX8_pair ∈ GG := GG_in (i := 962) (by decide +kernel) (by decide +kernel)
theorem wL_X8_pair : Cond.selects RX8 yX8_pair yX8_pair ∈ GG := GG_in (i := 963) (by decide +kernel) (by decide +kernel)
set_option maxRecDepth 100000 in
theorem wC_X8_pair : Cond.code yX8_pair cX8_pair 3 (some .int) ∈ GG := GG_in (i := 964) (rfl) (by decide +kernel)
theorem wM_L_96 : Cond.methodLink RL 96 yX8_thrown ∈ GG := GG_in (i := 798) (by decide +kernel) (by decide +kernel)
theorem wI_X8_thrown : Cond.instanceMethod yX8_thrown ∈ GG := GG_in (i := 799) (by decide +kernel) (by decide +kernel)
theorem wL_X8_thrown : Cond.selects RX8 yX8_thrown yX8_thrown ∈ GG := GG_in (i := 800) (by decide +kernel) (by decide +kernel)
set_option maxRecDepth 100000 in
theorem wC_X8_thrown : Cond.code yX8_thrown cX8_thrown 1 (some .int) ∈ GG := GG_in (i := 801) (rfl) (by decide +kernel)
theorem wM_L_99 : Cond.methodLink RL 99 yX7_top ∈ GG := GG_in (i := 554) (by decide +kernel) (by decide +kernel)
theorem wI_X7_top : Cond.instanceMethod yX7_top ∈ GG := GG_in (i := 555) (by decide +kernel) (by decide +kernel)
theorem wL_X7_top : Cond.selects RX7 yX7_top yX7_top ∈ GG := GG_in (i := 556) (by decide +kernel) (by decide +kernel)
set_option maxRecDepth 100000 in
theorem wC_X7_top : Cond.code yX7_top cX7_top 4 (some .int) ∈ GG := GG_in (i := 557) (rfl) (by decide +kernel)
theorem wM_X7_233 : Cond.methodLink RX7 233 yX7_rank ∈ GG := GG_in (i := 558) (by decide +kernel) (by decide +kernel)
theorem wI_X7_rank : Cond.instanceMethod yX7_rank ∈ GG := GG_in (i := 560) (by decide +kernel) (by decide +kernel)
theorem wL_X7_rank : Cond.selects RX7 yX7_rank yX7_rank ∈ GG := GG_in (i := 15) (by decide +kernel) (by decide +kernel)
set_option maxRecDepth 100000 in
theorem wC_X7_rank : Cond.code yX7_rank cX7_rank 12 none ∈ GG := GG_in (i := 561) (rfl) (by decide +kernel)
theorem wM_X7_296 : Cond.methodLink RX7 296 yX0_placeFor ∈ GG := GG_in (i := 562) (by decide +kernel) (by decide +kernel)
theorem wI_X0_placeFor : Cond.instanceMethod yX0_placeFor ∈ GG := GG_in (i := 563) (by decide +kernel) (by decide +kernel)
theorem wL_X0_placeFor : Cond.selects RX0 yX0_placeFor yX0_placeFor ∈ GG := GG_in (i := 564) (by decide +kernel) (by decide +kernel)
set_option maxRecDepth 100000 in
theorem wC_X0_placeFor : Cond.code yX0_placeFor cX0_placeFor 8 (some .int) ∈ GG := GG_in (i := 565) (rfl) (by decide +kernel)
theorem wM_X0_36 : Cond.methodLink RX0 36 Lib.Math.min.name ∈ GG := GG_in (i := 566) (by decide +kernel) (by decide +kernel)
theorem wM_X7_300 : Cond.methodLink RX7 300 yX0_makeRoom ∈ GG := GG_in (i := 567) (by decide +kernel) (by decide +kernel)
theorem wI_X0_makeRoom : Cond.instanceMethod yX0_makeRoom ∈ GG := GG_in (i := 568) (by decide +kernel) (by decide +kernel)
theorem wL_X0_makeRoom : Cond.selects RX0 yX0_makeRoom yX0_makeRoom ∈ GG := GG_in (i := 569) (by decide +kernel) (by decide +kernel)
set_option maxRecDepth 100000 in
theorem wC_X0_makeRoom : Cond.code yX0_makeRoom cX0_makeRoom 4 none ∈ GG := GG_in (i := 570) (rfl) (by decide +kernel)
theorem wM_X0_42 : Cond.methodLink RX0 42 arraycopyName ∈ GG := GG_in (i := 571) (by decide +kernel) (by decide +kernel)
theorem wM_X7_303 : Cond.methodLink RX7 303 yX0_set ∈ GG := GG_in (i := 572) (by decide +kernel) (by decide +kernel)
theorem wM_X7_307 : Cond.methodLink RX7 307 yX0_setLikeness ∈ GG := GG_in (i := 573) (by decide +kernel) (by decide +kernel)
theorem wI_X0_setLikeness : Cond.instanceMethod yX0_setLikeness ∈ GG := GG_in (i := 574) (by decide +kernel) (by decide +kernel)
theorem wL_X0_setLikeness : Cond.selects RX0 yX0_setLikeness yX0_setLikeness ∈ GG := GG_in (i := 575) (by decide +kernel) (by decide +kernel)
set_option maxRecDepth 100000 in
theorem wC_X0_setLikeness : Cond.code yX0_setLikeness cX0_setLikeness 6 none ∈ GG := GG_in (i := 576) (rfl) (by decide +kernel)
theorem wM_L_102 : Cond.methodLink RL 102 yX8_top ∈ GG := GG_in (i := 965) (by decide +kernel) (by decide +kernel)
theorem wI_X8_top : Cond.instanceMethod yX8_top ∈ GG := GG_in (i := 966) (by decide +kernel) (by decide +kernel)
theorem wL_X8_top : Cond.selects RX8 yX8_top yX8_top ∈ GG := GG_in (i := 967) (by decide +kernel) (by decide +kernel)
set_option maxRecDepth 100000 in
theorem wC_X8_top : Cond.code yX8_top cX8_top 5 (some .int) ∈ GG := GG_in (i := 968) (rfl) (by decide +kernel)
theorem wM_X8_190 : Cond.methodLink RX8 190 yX8_isLiker ∈ GG := GG_in (i := 969) (by decide +kernel) (by decide +kernel)
theorem wI_X8_isLiker : Cond.instanceMethod yX8_isLiker ∈ GG := GG_in (i := 971) (by decide +kernel) (by decide +kernel)
theorem wL_X8_isLiker : Cond.selects RX8 yX8_isLiker yX8_isLiker ∈ GG := GG_in (i := 42) (by decide +kernel) (by decide +kernel)
set_option maxRecDepth 100000 in
theorem wC_X8_isLiker : Cond.code yX8_isLiker cX8_isLiker 17 (some .boolean) ∈ GG := GG_in (i := 972) (rfl) (by decide +kernel)
theorem wM_L_103 : Cond.methodLink RL 103 yX7_core ∈ GG := GG_in (i := 577) (by decide +kernel) (by decide +kernel)
theorem wI_X7_core : Cond.instanceMethod yX7_core ∈ GG := GG_in (i := 578) (by decide +kernel) (by decide +kernel)
theorem wL_X7_core : Cond.selects RX7 yX7_core yX7_core ∈ GG := GG_in (i := 579) (by decide +kernel) (by decide +kernel)
set_option maxRecDepth 100000 in
theorem wC_X7_core : Cond.code yX7_core cX7_core 4 (some .int) ∈ GG := GG_in (i := 580) (rfl) (by decide +kernel)
theorem wF_X7_240 : Cond.fieldLink RX7 240 "PairSieve" "keptCore" "J" ∈ GG := GG_in (i := 202) (by decide +kernel) (by decide +kernel)
theorem wM_X7_237 : Cond.methodLink RX7 237 yX2_coreOf ∈ GG := GG_in (i := 581) (by decide +kernel) (by decide +kernel)
theorem wI_X2_coreOf : Cond.instanceMethod yX2_coreOf ∈ GG := GG_in (i := 582) (by decide +kernel) (by decide +kernel)
theorem wL_X2_coreOf : Cond.selects RX2 yX2_coreOf yX2_coreOf ∈ GG := GG_in (i := 583) (by decide +kernel) (by decide +kernel)
set_option maxRecDepth 100000 in
theorem wC_X2_coreOf : Cond.code yX2_coreOf cX2_coreOf 3 (some .long) ∈ GG := GG_in (i := 584) (rfl) (by decide +kernel)
theorem wM_X2_34 : Cond.methodLink RX2 34 yX2_greatestCore ∈ GG := GG_in (i := 585) (by decide +kernel) (by decide +kernel)
theorem wS_X2_greatestCore : Cond.static yX2_greatestCore ∈ GG := GG_in (i := 586) (by decide +kernel) (by decide +kernel)
set_option maxRecDepth 100000 in
theorem wC_X2_greatestCore : Cond.code yX2_greatestCore cX2_greatestCore 14 (some .long) ∈ GG := GG_in (i := 587) (rfl) (by decide +kernel)
theorem wM_X2_31 : Cond.methodLink RX2 31 yX2_leastOf ∈ GG := GG_in (i := 588) (by decide +kernel) (by decide +kernel)
theorem wM_L_106 : Cond.methodLink RL 106 yX8_core ∈ GG := GG_in (i := 993) (by decide +kernel) (by decide +kernel)
theorem wI_X8_core : Cond.instanceMethod yX8_core ∈ GG := GG_in (i := 994) (by decide +kernel) (by decide +kernel)
theorem wL_X8_core : Cond.selects RX8 yX8_core yX8_core ∈ GG := GG_in (i := 995) (by decide +kernel) (by decide +kernel)
set_option maxRecDepth 100000 in
theorem wC_X8_core : Cond.code yX8_core cX8_core 5 (some .int) ∈ GG := GG_in (i := 996) (rfl) (by decide +kernel)
theorem wF_X8_205 : Cond.fieldLink RX8 205 "PairSieveModel" "familyMany" "I" ∈ GG := GG_in (i := 730) (by decide +kernel) (by decide +kernel)
theorem wF_X8_197 : Cond.fieldLink RX8 197 "PairSieveModel" "best" "I" ∈ GG := GG_in (i := 735) (by decide +kernel) (by decide +kernel)
theorem wF_X8_212 : Cond.fieldLink RX8 212 "PairSieveModel" "coreMany" "I" ∈ GG := GG_in (i := 731) (by decide +kernel) (by decide +kernel)
theorem wM_X8_208 : Cond.methodLink RX8 208 yX8_grow ∈ GG := GG_in (i := 997) (by decide +kernel) (by decide +kernel)
theorem wI_X8_grow : Cond.instanceMethod yX8_grow ∈ GG := GG_in (i := 999) (by decide +kernel) (by decide +kernel)
theorem wL_X8_grow : Cond.selects RX8 yX8_grow yX8_grow ∈ GG := GG_in (i := 44) (by decide +kernel) (by decide +kernel)
set_option maxRecDepth 100000 in
theorem wC_X8_grow : Cond.code yX8_grow cX8_grow 6 none ∈ GG := GG_in (i := 1000) (rfl) (by decide +kernel)
theorem wM_X8_200 : Cond.methodLink RX8 200 yJ6_bitCount_0f7a4 ∈ GG := GG_in (i := 1001) (by decide +kernel) (by decide +kernel)
theorem wS_J6_bitCount_0f7a4 : Cond.static yJ6_bitCount_0f7a4 ∈ GG := GG_in (i := 1002) (by decide +kernel) (by decide +kernel)
theorem wN_J6 : Cond.initialized RJ6 ∈ GG := GG_in (i := 62) (by decide +kernel) (by decide +kernel)
set_option maxRecDepth 100000 in
theorem wC_J6_bitCount_0f7a4 : Cond.code yJ6_bitCount_0f7a4 cJ6_bitCount_0f7a4 1 (some .int) ∈ GG := GG_in (i := 1003) (rfl) (by decide +kernel)
theorem wK_J6_265 : Cond.constant RJ6 265 (1431655765) ∈ GG := GG_in (i := 1004) (by decide +kernel) (by decide +kernel)
theorem wK_J6_266 : Cond.constant RJ6 266 (858993459) ∈ GG := GG_in (i := 1005) (by decide +kernel) (by decide +kernel)
theorem wK_J6_267 : Cond.constant RJ6 267 (252645135) ∈ GG := GG_in (i := 1006) (by decide +kernel) (by decide +kernel)
theorem wM_L_107 : Cond.methodLink RL 107 yX7_member ∈ GG := GG_in (i := 589) (by decide +kernel) (by decide +kernel)
theorem wI_X7_member : Cond.instanceMethod yX7_member ∈ GG := GG_in (i := 590) (by decide +kernel) (by decide +kernel)
theorem wL_X7_member : Cond.selects RX7 yX7_member yX7_member ∈ GG := GG_in (i := 591) (by decide +kernel) (by decide +kernel)
set_option maxRecDepth 100000 in
theorem wC_X7_member : Cond.code yX7_member cX7_member 5 (some .int) ∈ GG := GG_in (i := 592) (rfl) (by decide +kernel)
theorem wM_L_110 : Cond.methodLink RL 110 yX8_member ∈ GG := GG_in (i := 1007) (by decide +kernel) (by decide +kernel)
theorem wI_X8_member : Cond.instanceMethod yX8_member ∈ GG := GG_in (i := 1008) (by decide +kernel) (by decide +kernel)
theorem wL_X8_member : Cond.selects RX8 yX8_member yX8_member ∈ GG := GG_in (i := 1009) (by decide +kernel) (by decide +kernel)
set_option maxRecDepth 100000 in
theorem wC_X8_member : Cond.code yX8_member cX8_member 2 (some .int) ∈ GG := GG_in (i := 1010) (rfl) (by decide +kernel)
theorem wM_L_111 : Cond.methodLink RL 111 yX7_chain ∈ GG := GG_in (i := 593) (by decide +kernel) (by decide +kernel)
theorem wI_X7_chain : Cond.instanceMethod yX7_chain ∈ GG := GG_in (i := 594) (by decide +kernel) (by decide +kernel)
theorem wL_X7_chain : Cond.selects RX7 yX7_chain yX7_chain ∈ GG := GG_in (i := 595) (by decide +kernel) (by decide +kernel)
set_option maxRecDepth 100000 in
theorem wC_X7_chain : Cond.code yX7_chain cX7_chain 3 (some .int) ∈ GG := GG_in (i := 596) (rfl) (by decide +kernel)
theorem wM_X7_244 : Cond.methodLink RX7 244 yX2_stepsBetween ∈ GG := GG_in (i := 597) (by decide +kernel) (by decide +kernel)
theorem wI_X2_stepsBetween : Cond.instanceMethod yX2_stepsBetween ∈ GG := GG_in (i := 598) (by decide +kernel) (by decide +kernel)
theorem wL_X2_stepsBetween : Cond.selects RX2 yX2_stepsBetween yX2_stepsBetween ∈ GG := GG_in (i := 599) (by decide +kernel) (by decide +kernel)
set_option maxRecDepth 100000 in
theorem wC_X2_stepsBetween : Cond.code yX2_stepsBetween cX2_stepsBetween 8 (some .int) ∈ GG := GG_in (i := 600) (rfl) (by decide +kernel)
theorem wM_L_114 : Cond.methodLink RL 114 yX8_chain ∈ GG := GG_in (i := 985) (by decide +kernel) (by decide +kernel)
theorem wI_X8_chain : Cond.instanceMethod yX8_chain ∈ GG := GG_in (i := 986) (by decide +kernel) (by decide +kernel)
theorem wL_X8_chain : Cond.selects RX8 yX8_chain yX8_chain ∈ GG := GG_in (i := 987) (by decide +kernel) (by decide +kernel)
set_option maxRecDepth 100000 in
theorem wC_X8_chain : Cond.code yX8_chain cX8_chain 3 (some .int) ∈ GG := GG_in (i := 988) (rfl) (by decide +kernel)
theorem wM_L_115 : Cond.methodLink RL 115 yX7_next ∈ GG := GG_in (i := 601) (by decide +kernel) (by decide +kernel)
theorem wI_X7_next : Cond.instanceMethod yX7_next ∈ GG := GG_in (i := 602) (by decide +kernel) (by decide +kernel)
theorem wL_X7_next : Cond.selects RX7 yX7_next yX7_next ∈ GG := GG_in (i := 603) (by decide +kernel) (by decide +kernel)
set_option maxRecDepth 100000 in
theorem wC_X7_next : Cond.code yX7_next cX7_next 4 (some .int) ∈ GG := GG_in (i := 604) (rfl) (by decide +kernel)
theorem wM_X7_247 : Cond.methodLink RX7 247 yX7_chain ∈ GG := GG_in (i := 605) (by decide +kernel) (by decide +kernel)
theorem wM_X7_250 : Cond.methodLink RX7 250 yX2_firstStep ∈ GG := GG_in (i := 606) (by decide +kernel) (by decide +kernel)
theorem wI_X2_firstStep : Cond.instanceMethod yX2_firstStep ∈ GG := GG_in (i := 607) (by decide +kernel) (by decide +kernel)
theorem wL_X2_firstStep : Cond.selects RX2 yX2_firstStep yX2_firstStep ∈ GG := GG_in (i := 608) (by decide +kernel) (by decide +kernel)
set_option maxRecDepth 100000 in
theorem wC_X2_firstStep : Cond.code yX2_firstStep cX2_firstStep 7 (some .int) ∈ GG := GG_in (i := 609) (rfl) (by decide +kernel)
theorem wM_L_118 : Cond.methodLink RL 118 yX8_next ∈ GG := GG_in (i := 989) (by decide +kernel) (by decide +kernel)
theorem wI_X8_next : Cond.instanceMethod yX8_next ∈ GG := GG_in (i := 990) (by decide +kernel) (by decide +kernel)
theorem wL_X8_next : Cond.selects RX8 yX8_next yX8_next ∈ GG := GG_in (i := 991) (by decide +kernel) (by decide +kernel)
set_option maxRecDepth 100000 in
theorem wC_X8_next : Cond.code yX8_next cX8_next 4 (some .int) ∈ GG := GG_in (i := 992) (rfl) (by decide +kernel)
theorem wM_L_119 : Cond.methodLink RL 119 yX7_count ∈ GG := GG_in (i := 610) (by decide +kernel) (by decide +kernel)
theorem wI_X7_count : Cond.instanceMethod yX7_count ∈ GG := GG_in (i := 611) (by decide +kernel) (by decide +kernel)
theorem wL_X7_count : Cond.selects RX7 yX7_count yX7_count ∈ GG := GG_in (i := 612) (by decide +kernel) (by decide +kernel)
set_option maxRecDepth 100000 in
theorem wC_X7_count : Cond.code yX7_count cX7_count 2 (some .int) ∈ GG := GG_in (i := 613) (rfl) (by decide +kernel)
theorem wM_X7_254 : Cond.methodLink RX7 254 yX7_countRecords ∈ GG := GG_in (i := 614) (by decide +kernel) (by decide +kernel)
theorem wI_X7_countRecords : Cond.instanceMethod yX7_countRecords ∈ GG := GG_in (i := 616) (by decide +kernel) (by decide +kernel)
theorem wL_X7_countRecords : Cond.selects RX7 yX7_countRecords yX7_countRecords ∈ GG := GG_in (i := 16) (by decide +kernel) (by decide +kernel)
set_option maxRecDepth 100000 in
theorem wC_X7_countRecords : Cond.code yX7_countRecords cX7_countRecords 3 (some .int) ∈ GG := GG_in (i := 617) (rfl) (by decide +kernel)
theorem wM_X7_258 : Cond.methodLink RX7 258 yX7_countNumbers ∈ GG := GG_in (i := 618) (by decide +kernel) (by decide +kernel)
theorem wI_X7_countNumbers : Cond.instanceMethod yX7_countNumbers ∈ GG := GG_in (i := 620) (by decide +kernel) (by decide +kernel)
theorem wL_X7_countNumbers : Cond.selects RX7 yX7_countNumbers yX7_countNumbers ∈ GG := GG_in (i := 17) (by decide +kernel) (by decide +kernel)
set_option maxRecDepth 100000 in
theorem wC_X7_countNumbers : Cond.code yX7_countNumbers cX7_countNumbers 3 (some .int) ∈ GG := GG_in (i := 621) (rfl) (by decide +kernel)
theorem wM_X7_264 : Cond.methodLink RX7 264 yX7_countFamilies ∈ GG := GG_in (i := 622) (by decide +kernel) (by decide +kernel)
theorem wI_X7_countFamilies : Cond.instanceMethod yX7_countFamilies ∈ GG := GG_in (i := 624) (by decide +kernel) (by decide +kernel)
theorem wL_X7_countFamilies : Cond.selects RX7 yX7_countFamilies yX7_countFamilies ∈ GG := GG_in (i := 18) (by decide +kernel) (by decide +kernel)
set_option maxRecDepth 100000 in
theorem wC_X7_countFamilies : Cond.code yX7_countFamilies cX7_countFamilies 5 (some .int) ∈ GG := GG_in (i := 625) (rfl) (by decide +kernel)
theorem wM_L_122 : Cond.methodLink RL 122 yX8_count ∈ GG := GG_in (i := 1011) (by decide +kernel) (by decide +kernel)
theorem wI_X8_count : Cond.instanceMethod yX8_count ∈ GG := GG_in (i := 1012) (by decide +kernel) (by decide +kernel)
theorem wL_X8_count : Cond.selects RX8 yX8_count yX8_count ∈ GG := GG_in (i := 1013) (by decide +kernel) (by decide +kernel)
set_option maxRecDepth 100000 in
theorem wC_X8_count : Cond.code yX8_count cX8_count 5 (some .int) ∈ GG := GG_in (i := 1014) (rfl) (by decide +kernel)
theorem inX0 : ∀ w ∈ u_ws RX0 TX0 6, w ∈ GG := fun w h => List.mem_filter.mpr ⟨(show ∀ w ∈ u_ws RX0 TX0 6, w ∈ lw_tbl by decide +kernel) w h, (show ∀ w ∈ u_ws RX0 TX0 6, goodWord w = true by decide +kernel) w h⟩
theorem inX1 : ∀ w ∈ u_ws RX1 TX1 3, w ∈ GG := fun w h => List.mem_filter.mpr ⟨(show ∀ w ∈ u_ws RX1 TX1 3, w ∈ lw_tbl by decide +kernel) w h, (show ∀ w ∈ u_ws RX1 TX1 3, goodWord w = true by decide +kernel) w h⟩
theorem inX2 : ∀ w ∈ u_ws RX2 TX2 2, w ∈ GG := fun w h => List.mem_filter.mpr ⟨(show ∀ w ∈ u_ws RX2 TX2 2, w ∈ lw_tbl by decide +kernel) w h, (show ∀ w ∈ u_ws RX2 TX2 2, goodWord w = true by decide +kernel) w h⟩
theorem inX3 : ∀ w ∈ u_ws RX3 TX3 4, w ∈ GG := fun w h => List.mem_filter.mpr ⟨(show ∀ w ∈ u_ws RX3 TX3 4, w ∈ lw_tbl by decide +kernel) w h, (show ∀ w ∈ u_ws RX3 TX3 4, goodWord w = true by decide +kernel) w h⟩
theorem inX4 : ∀ w ∈ u_ws RX4 TX4 3, w ∈ GG := fun w h => List.mem_filter.mpr ⟨(show ∀ w ∈ u_ws RX4 TX4 3, w ∈ lw_tbl by decide +kernel) w h, (show ∀ w ∈ u_ws RX4 TX4 3, goodWord w = true by decide +kernel) w h⟩
theorem inX5 : ∀ w ∈ u_ws RX5 TX5 3, w ∈ GG := fun w h => List.mem_filter.mpr ⟨(show ∀ w ∈ u_ws RX5 TX5 3, w ∈ lw_tbl by decide +kernel) w h, (show ∀ w ∈ u_ws RX5 TX5 3, goodWord w = true by decide +kernel) w h⟩
theorem inX6 : ∀ w ∈ u_ws RX6 TX6 3, w ∈ GG := fun w h => List.mem_filter.mpr ⟨(show ∀ w ∈ u_ws RX6 TX6 3, w ∈ lw_tbl by decide +kernel) w h, (show ∀ w ∈ u_ws RX6 TX6 3, goodWord w = true by decide +kernel) w h⟩
theorem inX7 : ∀ w ∈ u_ws RX7 TX7 13, w ∈ GG := fun w h => List.mem_filter.mpr ⟨(show ∀ w ∈ u_ws RX7 TX7 13, w ∈ lw_tbl by decide +kernel) w h, (show ∀ w ∈ u_ws RX7 TX7 13, goodWord w = true by decide +kernel) w h⟩
theorem inX8 : ∀ w ∈ u_ws RX8 TX8 30, w ∈ GG := fun w h => List.mem_filter.mpr ⟨(show ∀ w ∈ u_ws RX8 TX8 30, w ∈ lw_tbl by decide +kernel) w h, (show ∀ w ∈ u_ws RX8 TX8 30, goodWord w = true by decide +kernel) w h⟩
def NNf : List Cond := [Jvm.Cond.fieldLinkNest "PairSieve" (145 : Nat) "PairSieve$Table" "size" "I" "PairSieve", Jvm.Cond.fieldLinkNest "PairSieve" (267 : Nat) "PairSieve$Measure" "kind" "I" "PairSieve", Jvm.Cond.fieldLinkNest "PairSieve" (270 : Nat) "PairSieve$Measure" "p" "I" "PairSieve", Jvm.Cond.fieldLinkNest "PairSieve" (273 : Nat) "PairSieve$Measure" "q" "I" "PairSieve", Jvm.Cond.fieldLinkNest "PairSieve" (112 : Nat) "PairSieve$Tape" "length" "I" "PairSieve", Jvm.Cond.fieldLinkNest "PairSieve" (124 : Nat) "PairSieve$Tape" "numbers" "[I" "PairSieve", Jvm.Cond.fieldLinkNest "PairSieve" (184 : Nat) "PairSieve$Overlap" "shared" "I" "PairSieve", Jvm.Cond.fieldLinkNest "PairSieve" (283 : Nat) "PairSieve$Overlap" "sharedInBeginnings" "I" "PairSieve", Jvm.Cond.fieldLinkNest "PairSieve" (291 : Nat) "PairSieve$Overlap" "mostByPlaces" "I" "PairSieve", Jvm.Cond.fieldLinkNest "PairSieve" (226 : Nat) "PairSieve$KeptPairs" "first" "[I" "PairSieve", Jvm.Cond.fieldLinkNest "PairSieve" (229 : Nat) "PairSieve$KeptPairs" "second" "[I" "PairSieve", Jvm.Cond.fieldLinkNest "PairSieve" (224 : Nat) "PairSieve$KeptPairs" "shared" "[I" "PairSieve", Jvm.Cond.fieldLinkNest "PairSieve" (216 : Nat) "PairSieve$KeptPairs" "size" "I" "PairSieve", Jvm.Cond.fieldLinkNest "PairSieve$Overlap" (24 : Nat) "PairSieve$NumberSet" "keys" "[I" "PairSieve", Jvm.Cond.fieldLinkNest "PairSieve$Overlap" (28 : Nat) "PairSieve$NumberSet" "weights" "[I" "PairSieve", Jvm.Cond.fieldLinkNest "PairSieve$Overlap" (19 : Nat) "PairSieve$NumberSet" "size" "I" "PairSieve", Jvm.Cond.fieldLinkNest "PairSieve" (132 : Nat) "PairSieve$NumberSet" "size" "I" "PairSieve", Jvm.Cond.fieldLinkNest "PairSieve" (150 : Nat) "PairSieve$NumberSet" "amount" "I" "PairSieve"]
def NNm : List Cond := [Jvm.Cond.methodLinkNest "PairSieve" (29 : Nat) ({ cls := "PairSieve$Measure", name := "<init>", desc := "()V" } : Jvm.MethodName) "PairSieve", Jvm.Cond.methodLinkNest "PairSieve" (36 : Nat) ({ cls := "PairSieve$Tape", name := "<init>", desc := "()V" } : Jvm.MethodName) "PairSieve", Jvm.Cond.methodLinkNest "PairSieve" (43 : Nat) ({ cls := "PairSieve$Overlap", name := "<init>", desc := "()V" } : Jvm.MethodName) "PairSieve", Jvm.Cond.methodLinkNest "PairSieve" (57 : Nat) ({ cls := "PairSieve$KeptPairs", name := "<init>", desc := "()V" } : Jvm.MethodName) "PairSieve", Jvm.Cond.methodLinkNest "PairSieve" (64 : Nat) ({ cls := "PairSieve$Net", name := "<init>", desc := "()V" } : Jvm.MethodName) "PairSieve", Jvm.Cond.methodLinkNest "PairSieve" (73 : Nat) ({ cls := "PairSieve$NumberSet", name := "<init>", desc := "()V" } : Jvm.MethodName) "PairSieve"]
theorem wFn_X7_145 : Jvm.Cond.fieldLinkNest "PairSieve" (145 : Nat) "PairSieve$Table" "size" "I" "PairSieve" ∈ NNf := List.mem_of_getElem? (i := 0) rfl
theorem wFn_X7_267 : Jvm.Cond.fieldLinkNest "PairSieve" (267 : Nat) "PairSieve$Measure" "kind" "I" "PairSieve" ∈ NNf := List.mem_of_getElem? (i := 1) rfl
theorem wFn_X7_270 : Jvm.Cond.fieldLinkNest "PairSieve" (270 : Nat) "PairSieve$Measure" "p" "I" "PairSieve" ∈ NNf := List.mem_of_getElem? (i := 2) rfl
theorem wFn_X7_273 : Jvm.Cond.fieldLinkNest "PairSieve" (273 : Nat) "PairSieve$Measure" "q" "I" "PairSieve" ∈ NNf := List.mem_of_getElem? (i := 3) rfl
theorem wFn_X7_112 : Jvm.Cond.fieldLinkNest "PairSieve" (112 : Nat) "PairSieve$Tape" "length" "I" "PairSieve" ∈ NNf := List.mem_of_getElem? (i := 4) rfl
theorem wFn_X7_124 : Jvm.Cond.fieldLinkNest "PairSieve" (124 : Nat) "PairSieve$Tape" "numbers" "[I" "PairSieve" ∈ NNf := List.mem_of_getElem? (i := 5) rfl
theorem wFn_X7_184 : Jvm.Cond.fieldLinkNest "PairSieve" (184 : Nat) "PairSieve$Overlap" "shared" "I" "PairSieve" ∈ NNf := List.mem_of_getElem? (i := 6) rfl
theorem wFn_X7_283 : Jvm.Cond.fieldLinkNest "PairSieve" (283 : Nat) "PairSieve$Overlap" "sharedInBeginnings" "I" "PairSieve" ∈ NNf := List.mem_of_getElem? (i := 7) rfl
theorem wFn_X7_291 : Jvm.Cond.fieldLinkNest "PairSieve" (291 : Nat) "PairSieve$Overlap" "mostByPlaces" "I" "PairSieve" ∈ NNf := List.mem_of_getElem? (i := 8) rfl
theorem wFn_X7_226 : Jvm.Cond.fieldLinkNest "PairSieve" (226 : Nat) "PairSieve$KeptPairs" "first" "[I" "PairSieve" ∈ NNf := List.mem_of_getElem? (i := 9) rfl
theorem wFn_X7_229 : Jvm.Cond.fieldLinkNest "PairSieve" (229 : Nat) "PairSieve$KeptPairs" "second" "[I" "PairSieve" ∈ NNf := List.mem_of_getElem? (i := 10) rfl
theorem wFn_X7_224 : Jvm.Cond.fieldLinkNest "PairSieve" (224 : Nat) "PairSieve$KeptPairs" "shared" "[I" "PairSieve" ∈ NNf := List.mem_of_getElem? (i := 11) rfl
theorem wFn_X7_216 : Jvm.Cond.fieldLinkNest "PairSieve" (216 : Nat) "PairSieve$KeptPairs" "size" "I" "PairSieve" ∈ NNf := List.mem_of_getElem? (i := 12) rfl
theorem wFn_X4_24 : Jvm.Cond.fieldLinkNest "PairSieve$Overlap" (24 : Nat) "PairSieve$NumberSet" "keys" "[I" "PairSieve" ∈ NNf := List.mem_of_getElem? (i := 13) rfl
theorem wFn_X4_28 : Jvm.Cond.fieldLinkNest "PairSieve$Overlap" (28 : Nat) "PairSieve$NumberSet" "weights" "[I" "PairSieve" ∈ NNf := List.mem_of_getElem? (i := 14) rfl
theorem wFn_X4_19 : Jvm.Cond.fieldLinkNest "PairSieve$Overlap" (19 : Nat) "PairSieve$NumberSet" "size" "I" "PairSieve" ∈ NNf := List.mem_of_getElem? (i := 15) rfl
theorem wFn_X7_132 : Jvm.Cond.fieldLinkNest "PairSieve" (132 : Nat) "PairSieve$NumberSet" "size" "I" "PairSieve" ∈ NNf := List.mem_of_getElem? (i := 16) rfl
theorem wFn_X7_150 : Jvm.Cond.fieldLinkNest "PairSieve" (150 : Nat) "PairSieve$NumberSet" "amount" "I" "PairSieve" ∈ NNf := List.mem_of_getElem? (i := 17) rfl
theorem wMn_X7_29 : Jvm.Cond.methodLinkNest "PairSieve" (29 : Nat) ({ cls := "PairSieve$Measure", name := "<init>", desc := "()V" } : Jvm.MethodName) "PairSieve" ∈ NNm := List.mem_of_getElem? (i := 0) rfl
theorem wMn_X7_36 : Jvm.Cond.methodLinkNest "PairSieve" (36 : Nat) ({ cls := "PairSieve$Tape", name := "<init>", desc := "()V" } : Jvm.MethodName) "PairSieve" ∈ NNm := List.mem_of_getElem? (i := 1) rfl
theorem wMn_X7_43 : Jvm.Cond.methodLinkNest "PairSieve" (43 : Nat) ({ cls := "PairSieve$Overlap", name := "<init>", desc := "()V" } : Jvm.MethodName) "PairSieve" ∈ NNm := List.mem_of_getElem? (i := 2) rfl
theorem wMn_X7_57 : Jvm.Cond.methodLinkNest "PairSieve" (57 : Nat) ({ cls := "PairSieve$KeptPairs", name := "<init>", desc := "()V" } : Jvm.MethodName) "PairSieve" ∈ NNm := List.mem_of_getElem? (i := 3) rfl
theorem wMn_X7_64 : Jvm.Cond.methodLinkNest "PairSieve" (64 : Nat) ({ cls := "PairSieve$Net", name := "<init>", desc := "()V" } : Jvm.MethodName) "PairSieve" ∈ NNm := List.mem_of_getElem? (i := 4) rfl
theorem wMn_X7_73 : Jvm.Cond.methodLinkNest "PairSieve" (73 : Nat) ({ cls := "PairSieve$NumberSet", name := "<init>", desc := "()V" } : Jvm.MethodName) "PairSieve" ∈ NNm := List.mem_of_getElem? (i := 5) rfl
theorem NNf_in : ∀ w ∈ NNf, w ∈ lw_tbl := by decide +kernel
theorem NNm_in : ∀ w ∈ NNm, w ∈ lw_tbl := by decide +kernel
theorem NNf_on : ∀ w ∈ NNf, w.onTables = true := by decide +kernel
theorem NNm_on : ∀ w ∈ NNm, w.onTables = true := by decide +kernel
theorem NNf_is : ∀ w ∈ NNf, ∃ a i b n d x, w = Cond.fieldLinkNest a i b n d x := by
  intro w hw
  simp only [NNf, List.mem_cons, List.not_mem_nil, or_false] at hw
  rcases hw with rfl | rfl | rfl | rfl | rfl | rfl | rfl | rfl | rfl | rfl | rfl | rfl | rfl | rfl | rfl | rfl | rfl | rfl <;> exact ⟨_, _, _, _, _, _, rfl⟩
theorem NNm_is : ∀ w ∈ NNm, ∃ a i b x, w = Cond.methodLinkNest a i b x := by
  intro w hw
  simp only [NNm, List.mem_cons, List.not_mem_nil, or_false] at hw
  rcases hw with rfl | rfl | rfl | rfl | rfl | rfl <;> exact ⟨_, _, _, _, rfl⟩
