/-! the words that contracts name: each a good word of the tables -/
theorem wC_0 : (.selects R_PR y_PR_fits y_PR_fits : Cond) ∈ wC := List.mem_filter.mpr ⟨List.mem_of_getElem? (i := 0) (by decide +kernel), rfl⟩
theorem wC_2 : (.selects R_WK y_WK_value y_WK_value : Cond) ∈ wC := List.mem_filter.mpr ⟨List.mem_of_getElem? (i := 2) (by decide +kernel), rfl⟩
theorem wC_3 : (.selects R_WK y_WK_mayBegin y_WK_mayBegin : Cond) ∈ wC := List.mem_filter.mpr ⟨List.mem_of_getElem? (i := 3) (by decide +kernel), rfl⟩
theorem wC_4 : (.selects R_WK y_WK_choice y_WK_choice : Cond) ∈ wC := List.mem_filter.mpr ⟨List.mem_of_getElem? (i := 4) (by decide +kernel), rfl⟩
theorem wC_5 : (.selects R_WK y_WK_leaving y_WK_leaving : Cond) ∈ wC := List.mem_filter.mpr ⟨List.mem_of_getElem? (i := 5) (by decide +kernel), rfl⟩
theorem wC_6 : (.selects R_WK y_WK_parameter y_WK_parameter : Cond) ∈ wC := List.mem_filter.mpr ⟨List.mem_of_getElem? (i := 6) (by decide +kernel), rfl⟩
theorem wC_7 : (.selects R_WK y_WK_fail y_WK_fail : Cond) ∈ wC := List.mem_filter.mpr ⟨List.mem_of_getElem? (i := 7) (by decide +kernel), rfl⟩
theorem wC_8 : (.selects R_WK y_WK_mayEnter y_WK_mayEnter : Cond) ∈ wC := List.mem_filter.mpr ⟨List.mem_of_getElem? (i := 8) (by decide +kernel), rfl⟩
theorem wC_9 : (.selects R_WK y_WK_call y_WK_call : Cond) ∈ wC := List.mem_filter.mpr ⟨List.mem_of_getElem? (i := 9) (by decide +kernel), rfl⟩
theorem wC_10 : (.selects R_WK y_WK_set y_WK_set : Cond) ∈ wC := List.mem_filter.mpr ⟨List.mem_of_getElem? (i := 10) (by decide +kernel), rfl⟩
theorem wC_11 : (.selects R_WK y_WK_become y_WK_become : Cond) ∈ wC := List.mem_filter.mpr ⟨List.mem_of_getElem? (i := 11) (by decide +kernel), rfl⟩
theorem wC_12 : (.selects R_WK y_WK_elementBecomes y_WK_elementBecomes : Cond) ∈ wC := List.mem_filter.mpr ⟨List.mem_of_getElem? (i := 12) (by decide +kernel), rfl⟩
theorem wC_13 : (.selects R_WK y_WK_localBecomes y_WK_localBecomes : Cond) ∈ wC := List.mem_filter.mpr ⟨List.mem_of_getElem? (i := 13) (by decide +kernel), rfl⟩
theorem wC_14 : (.selects R_WK y_WK_parameterBecomes y_WK_parameterBecomes : Cond) ∈ wC := List.mem_filter.mpr ⟨List.mem_of_getElem? (i := 14) (by decide +kernel), rfl⟩
theorem wC_15 : (.selects R_WK y_WK_sequence y_WK_sequence : Cond) ∈ wC := List.mem_filter.mpr ⟨List.mem_of_getElem? (i := 15) (by decide +kernel), rfl⟩
theorem wC_16 : (.selects R_WK y_WK_loop y_WK_loop : Cond) ∈ wC := List.mem_filter.mpr ⟨List.mem_of_getElem? (i := 16) (by decide +kernel), rfl⟩
theorem wC_17 : (.selects R_WK y_WK_jump y_WK_jump : Cond) ∈ wC := List.mem_filter.mpr ⟨List.mem_of_getElem? (i := 17) (by decide +kernel), rfl⟩
theorem wC_18 : (.selects R_WK y_WK_label y_WK_label : Cond) ∈ wC := List.mem_filter.mpr ⟨List.mem_of_getElem? (i := 18) (by decide +kernel), rfl⟩
theorem wC_19 : (.selects R_WK y_WK_ofTwo y_WK_ofTwo : Cond) ∈ wC := List.mem_filter.mpr ⟨List.mem_of_getElem? (i := 19) (by decide +kernel), rfl⟩
theorem wC_20 : (.selects R_WK y_WK_elementAt y_WK_elementAt : Cond) ∈ wC := List.mem_filter.mpr ⟨List.mem_of_getElem? (i := 20) (by decide +kernel), rfl⟩
theorem wC_21 : (.selects R_WK y_WK_limited y_WK_limited : Cond) ∈ wC := List.mem_filter.mpr ⟨List.mem_of_getElem? (i := 21) (by decide +kernel), rfl⟩
theorem wC_22 : (.selects R_WK y_WK_quotient y_WK_quotient : Cond) ∈ wC := List.mem_filter.mpr ⟨List.mem_of_getElem? (i := 22) (by decide +kernel), rfl⟩
theorem wC_23 : (.selects R_MO y_MO_fits y_MO_fits : Cond) ∈ wC := List.mem_filter.mpr ⟨List.mem_of_getElem? (i := 23) (by decide +kernel), rfl⟩
theorem wC_24 : (.selects R_MO y_MO_isNode y_MO_isNode : Cond) ∈ wC := List.mem_filter.mpr ⟨List.mem_of_getElem? (i := 24) (by decide +kernel), rfl⟩
theorem wC_25 : (.selects R_MO y_MO_fail y_MO_fail : Cond) ∈ wC := List.mem_filter.mpr ⟨List.mem_of_getElem? (i := 25) (by decide +kernel), rfl⟩
theorem wC_26 : (.selects R_MO y_MO_enter y_MO_enter : Cond) ∈ wC := List.mem_filter.mpr ⟨List.mem_of_getElem? (i := 26) (by decide +kernel), rfl⟩
theorem wC_27 : (.selects R_MO y_MO_wrong y_MO_wrong : Cond) ∈ wC := List.mem_filter.mpr ⟨List.mem_of_getElem? (i := 27) (by decide +kernel), rfl⟩
theorem wC_28 : (.selects R_MO y_MO_step y_MO_step : Cond) ∈ wC := List.mem_filter.mpr ⟨List.mem_of_getElem? (i := 28) (by decide +kernel), rfl⟩
theorem wC_29 : (.selects R_MO y_MO_end y_MO_end : Cond) ∈ wC := List.mem_filter.mpr ⟨List.mem_of_getElem? (i := 29) (by decide +kernel), rfl⟩
theorem wC_30 : (.selects R_MO y_MO_parameter y_MO_parameter : Cond) ∈ wC := List.mem_filter.mpr ⟨List.mem_of_getElem? (i := 30) (by decide +kernel), rfl⟩
theorem wC_31 : (.selects R_MO y_MO_isThere y_MO_isThere : Cond) ∈ wC := List.mem_filter.mpr ⟨List.mem_of_getElem? (i := 31) (by decide +kernel), rfl⟩
theorem wC_32 : (.selects R_MO y_MO_isName y_MO_isName : Cond) ∈ wC := List.mem_filter.mpr ⟨List.mem_of_getElem? (i := 32) (by decide +kernel), rfl⟩
theorem wC_33 : (.selects R_MO y_MO_deeper y_MO_deeper : Cond) ∈ wC := List.mem_filter.mpr ⟨List.mem_of_getElem? (i := 33) (by decide +kernel), rfl⟩
theorem wC_34 : (.selects R_MO y_MO_call y_MO_call : Cond) ∈ wC := List.mem_filter.mpr ⟨List.mem_of_getElem? (i := 34) (by decide +kernel), rfl⟩
theorem wC_35 : (.selects R_MO y_MO_set y_MO_set : Cond) ∈ wC := List.mem_filter.mpr ⟨List.mem_of_getElem? (i := 35) (by decide +kernel), rfl⟩
theorem wC_36 : (.selects R_MO y_MO_follow y_MO_follow : Cond) ∈ wC := List.mem_filter.mpr ⟨List.mem_of_getElem? (i := 36) (by decide +kernel), rfl⟩
theorem wC_37 : (.selects R_MO y_MO_become y_MO_become : Cond) ∈ wC := List.mem_filter.mpr ⟨List.mem_of_getElem? (i := 37) (by decide +kernel), rfl⟩
theorem wC_38 : (.selects R_MO y_MO_place y_MO_place : Cond) ∈ wC := List.mem_filter.mpr ⟨List.mem_of_getElem? (i := 38) (by decide +kernel), rfl⟩
theorem wC_39 : (.selects R_MO y_MO_repeat y_MO_repeat : Cond) ∈ wC := List.mem_filter.mpr ⟨List.mem_of_getElem? (i := 39) (by decide +kernel), rfl⟩
theorem wC_40 : (.selects R_MO y_MO_jump y_MO_jump : Cond) ∈ wC := List.mem_filter.mpr ⟨List.mem_of_getElem? (i := 40) (by decide +kernel), rfl⟩
theorem wC_41 : (.selects R_MO y_MO_pair y_MO_pair : Cond) ∈ wC := List.mem_filter.mpr ⟨List.mem_of_getElem? (i := 41) (by decide +kernel), rfl⟩
theorem wC_42 : (.selects R_MO y_MO_sum y_MO_sum : Cond) ∈ wC := List.mem_filter.mpr ⟨List.mem_of_getElem? (i := 42) (by decide +kernel), rfl⟩
theorem wC_43 : (.initialized R_LW : Cond) ∈ wC := List.mem_filter.mpr ⟨List.mem_of_getElem? (i := 43) (by decide +kernel), rfl⟩
theorem wC_44 : (.initialized R_NF : Cond) ∈ wC := List.mem_filter.mpr ⟨List.mem_of_getElem? (i := 44) (by decide +kernel), rfl⟩
theorem wC_45 : (.initialized R_PR : Cond) ∈ wC := List.mem_filter.mpr ⟨List.mem_of_getElem? (i := 45) (by decide +kernel), rfl⟩
theorem wC_46 : (.initialized "java/util/Arrays" : Cond) ∈ wC := List.mem_filter.mpr ⟨List.mem_of_getElem? (i := 46) (by decide +kernel), rfl⟩
theorem wC_47 : (.initialized R_ST : Cond) ∈ wC := List.mem_filter.mpr ⟨List.mem_of_getElem? (i := 47) (by decide +kernel), rfl⟩
theorem wC_48 : (.initialized R_WK : Cond) ∈ wC := List.mem_filter.mpr ⟨List.mem_of_getElem? (i := 48) (by decide +kernel), rfl⟩
theorem wC_49 : (.initialized R_EN : Cond) ∈ wC := List.mem_filter.mpr ⟨List.mem_of_getElem? (i := 49) (by decide +kernel), rfl⟩
theorem wC_50 : (.initialized R_MO : Cond) ∈ wC := List.mem_filter.mpr ⟨List.mem_of_getElem? (i := 50) (by decide +kernel), rfl⟩
theorem wC_54 : (.initialized "java/lang/IllegalArgumentException" : Cond) ∈ wC := List.mem_filter.mpr ⟨List.mem_of_getElem? (i := 54) (by decide +kernel), rfl⟩
theorem wC_55 : (.initialized "java/lang/IllegalStateException" : Cond) ∈ wC := List.mem_filter.mpr ⟨List.mem_of_getElem? (i := 55) (by decide +kernel), rfl⟩
theorem wC_56 : (.initialized "java/lang/Math" : Cond) ∈ wC := List.mem_filter.mpr ⟨List.mem_of_getElem? (i := 56) (by decide +kernel), rfl⟩
theorem wC_57 : (.initialized "java/lang/ArithmeticException" : Cond) ∈ wC := List.mem_filter.mpr ⟨List.mem_of_getElem? (i := 57) (by decide +kernel), rfl⟩
theorem wC_58 : (.initialized "java/lang/IndexOutOfBoundsException" : Cond) ∈ wC := List.mem_filter.mpr ⟨List.mem_of_getElem? (i := 58) (by decide +kernel), rfl⟩
theorem wC_59 : (.initialized "java/lang/UnsupportedOperationException" : Cond) ∈ wC := List.mem_filter.mpr ⟨List.mem_of_getElem? (i := 59) (by decide +kernel), rfl⟩
theorem wC_60 : (.initialized "java/util/NoSuchElementException" : Cond) ∈ wC := List.mem_filter.mpr ⟨List.mem_of_getElem? (i := 60) (by decide +kernel), rfl⟩
theorem wC_66 : (.methodLink R_NF 1 Lib.objectInit : Cond) ∈ wC := List.mem_filter.mpr ⟨List.mem_of_getElem? (i := 66) (by decide +kernel), rfl⟩
theorem wC_67 : (.instanceMethod Lib.objectInit : Cond) ∈ wC := List.mem_filter.mpr ⟨List.mem_of_getElem? (i := 67) (by decide +kernel), rfl⟩
set_option maxRecDepth 100000 in
theorem wC_68 : (.code Lib.objectInit ⟨#[0xb1]⟩ 1 none : Cond) ∈ wC := List.mem_filter.mpr ⟨List.mem_of_getElem? (i := 68) rfl, rfl⟩
theorem wC_69 : (.classLink R_NF 7 R_PR : Cond) ∈ wC := List.mem_filter.mpr ⟨List.mem_of_getElem? (i := 69) (by decide +kernel), rfl⟩
theorem wC_70 : (.instantiable R_PR 8 : Cond) ∈ wC := List.mem_filter.mpr ⟨List.mem_of_getElem? (i := 70) (by decide +kernel), rfl⟩
theorem wC_71 : (.methodLink R_NF 9 y_PR_init : Cond) ∈ wC := List.mem_filter.mpr ⟨List.mem_of_getElem? (i := 71) (by decide +kernel), rfl⟩
theorem wC_72 : (.instanceMethod y_PR_init : Cond) ∈ wC := List.mem_filter.mpr ⟨List.mem_of_getElem? (i := 72) (by decide +kernel), rfl⟩
set_option maxRecDepth 100000 in
theorem wC_73 : (.code y_PR_init b_PR_init 1 none : Cond) ∈ wC := List.mem_filter.mpr ⟨List.mem_of_getElem? (i := 73) rfl, rfl⟩
theorem wC_74 : (.methodLink R_PR 3 Lib.objectInit : Cond) ∈ wC := List.mem_filter.mpr ⟨List.mem_of_getElem? (i := 74) (by decide +kernel), rfl⟩
theorem wC_75 : (.methodLink R_PR 33 y_AR_fillI : Cond) ∈ wC := List.mem_filter.mpr ⟨List.mem_of_getElem? (i := 75) (by decide +kernel), rfl⟩
theorem wC_76 : (.static y_AR_fillI : Cond) ∈ wC := List.mem_filter.mpr ⟨List.mem_of_getElem? (i := 76) (by decide +kernel), rfl⟩
set_option maxRecDepth 100000 in
theorem wC_77 : (.code y_AR_fillI b_AR_fillI 4 none : Cond) ∈ wC := List.mem_filter.mpr ⟨List.mem_of_getElem? (i := 77) rfl, rfl⟩
theorem wC_78 : (.fieldLink R_PR 9 "NameForge$Program" "kinds" "[I" : Cond) ∈ wC := List.mem_filter.mpr ⟨List.mem_of_getElem? (i := 78) (by decide +kernel), rfl⟩
theorem wC_79 : (.fieldLink R_WK 75 "NameForge$Program" "kinds" "[I" : Cond) ∈ wC := List.mem_filter.mpr ⟨List.mem_of_getElem? (i := 79) (by decide +kernel), rfl⟩
theorem wC_80 : (.fieldLink R_NF 128 "NameForge$Program" "kinds" "[I" : Cond) ∈ wC := List.mem_filter.mpr ⟨List.mem_of_getElem? (i := 80) (by decide +kernel), rfl⟩
theorem wC_81 : (.fieldLink R_PR 15 "NameForge$Program" "as" "[I" : Cond) ∈ wC := List.mem_filter.mpr ⟨List.mem_of_getElem? (i := 81) (by decide +kernel), rfl⟩
theorem wC_82 : (.fieldLink R_WK 70 "NameForge$Program" "as" "[I" : Cond) ∈ wC := List.mem_filter.mpr ⟨List.mem_of_getElem? (i := 82) (by decide +kernel), rfl⟩
theorem wC_83 : (.fieldLink R_NF 132 "NameForge$Program" "as" "[I" : Cond) ∈ wC := List.mem_filter.mpr ⟨List.mem_of_getElem? (i := 83) (by decide +kernel), rfl⟩
theorem wC_84 : (.fieldLink R_PR 18 "NameForge$Program" "bs" "[I" : Cond) ∈ wC := List.mem_filter.mpr ⟨List.mem_of_getElem? (i := 84) (by decide +kernel), rfl⟩
theorem wC_85 : (.fieldLink R_WK 127 "NameForge$Program" "bs" "[I" : Cond) ∈ wC := List.mem_filter.mpr ⟨List.mem_of_getElem? (i := 85) (by decide +kernel), rfl⟩
theorem wC_86 : (.fieldLink R_NF 135 "NameForge$Program" "bs" "[I" : Cond) ∈ wC := List.mem_filter.mpr ⟨List.mem_of_getElem? (i := 86) (by decide +kernel), rfl⟩
theorem wC_87 : (.fieldLink R_PR 21 "NameForge$Program" "cs" "[I" : Cond) ∈ wC := List.mem_filter.mpr ⟨List.mem_of_getElem? (i := 87) (by decide +kernel), rfl⟩
theorem wC_88 : (.fieldLink R_NF 138 "NameForge$Program" "cs" "[I" : Cond) ∈ wC := List.mem_filter.mpr ⟨List.mem_of_getElem? (i := 88) (by decide +kernel), rfl⟩
theorem wC_89 : (.fieldLink R_WK 160 "NameForge$Program" "cs" "[I" : Cond) ∈ wC := List.mem_filter.mpr ⟨List.mem_of_getElem? (i := 89) (by decide +kernel), rfl⟩
theorem wC_90 : (.fieldLink R_PR 39 "NameForge$Program" "size" "I" : Cond) ∈ wC := List.mem_filter.mpr ⟨List.mem_of_getElem? (i := 90) (by decide +kernel), rfl⟩
theorem wC_91 : (.fieldLink R_NF 43 "NameForge$Program" "size" "I" : Cond) ∈ wC := List.mem_filter.mpr ⟨List.mem_of_getElem? (i := 91) (by decide +kernel), rfl⟩
theorem wC_92 : (.fieldLink R_PR 24 "NameForge$Program" "bodies" "[I" : Cond) ∈ wC := List.mem_filter.mpr ⟨List.mem_of_getElem? (i := 92) (by decide +kernel), rfl⟩
theorem wC_93 : (.fieldLink R_WK 205 "NameForge$Program" "bodies" "[I" : Cond) ∈ wC := List.mem_filter.mpr ⟨List.mem_of_getElem? (i := 93) (by decide +kernel), rfl⟩
theorem wC_94 : (.fieldLink R_PR 27 "NameForge$Program" "parameters" "[I" : Cond) ∈ wC := List.mem_filter.mpr ⟨List.mem_of_getElem? (i := 94) (by decide +kernel), rfl⟩
theorem wC_95 : (.fieldLink R_WK 191 "NameForge$Program" "parameters" "[I" : Cond) ∈ wC := List.mem_filter.mpr ⟨List.mem_of_getElem? (i := 95) (by decide +kernel), rfl⟩
theorem wC_96 : (.fieldLink R_PR 30 "NameForge$Program" "names" "[I" : Cond) ∈ wC := List.mem_filter.mpr ⟨List.mem_of_getElem? (i := 96) (by decide +kernel), rfl⟩
theorem wC_97 : (.fieldLink R_WK 194 "NameForge$Program" "names" "[I" : Cond) ∈ wC := List.mem_filter.mpr ⟨List.mem_of_getElem? (i := 97) (by decide +kernel), rfl⟩
theorem wC_115 : (.arrayClass .int : Cond) ∈ wC := List.mem_filter.mpr ⟨List.mem_of_getElem? (i := 115) (by decide +kernel), rfl⟩
theorem wC_116 : (.classLink R_NF 16 R_ST : Cond) ∈ wC := List.mem_filter.mpr ⟨List.mem_of_getElem? (i := 116) (by decide +kernel), rfl⟩
theorem wC_117 : (.instantiable R_ST 6 : Cond) ∈ wC := List.mem_filter.mpr ⟨List.mem_of_getElem? (i := 117) (by decide +kernel), rfl⟩
theorem wC_119 : (.instanceMethod y_ST_init : Cond) ∈ wC := List.mem_filter.mpr ⟨List.mem_of_getElem? (i := 119) (by decide +kernel), rfl⟩
set_option maxRecDepth 100000 in
theorem wC_120 : (.code y_ST_init b_ST_init 1 none : Cond) ∈ wC := List.mem_filter.mpr ⟨List.mem_of_getElem? (i := 120) rfl, rfl⟩
theorem wC_121 : (.methodLink R_ST 3 Lib.objectInit : Cond) ∈ wC := List.mem_filter.mpr ⟨List.mem_of_getElem? (i := 121) (by decide +kernel), rfl⟩
theorem wC_122 : (.fieldLink R_ST 9 "NameForge$Store" "variables" "[D" : Cond) ∈ wC := List.mem_filter.mpr ⟨List.mem_of_getElem? (i := 122) (by decide +kernel), rfl⟩
theorem wC_123 : (.fieldLink R_NF 87 "NameForge$Store" "variables" "[D" : Cond) ∈ wC := List.mem_filter.mpr ⟨List.mem_of_getElem? (i := 123) (by decide +kernel), rfl⟩
theorem wC_124 : (.fieldLink R_WK 80 "NameForge$Store" "variables" "[D" : Cond) ∈ wC := List.mem_filter.mpr ⟨List.mem_of_getElem? (i := 124) (by decide +kernel), rfl⟩
theorem wC_125 : (.fieldLink R_ST 15 "NameForge$Store" "elements" "[D" : Cond) ∈ wC := List.mem_filter.mpr ⟨List.mem_of_getElem? (i := 125) (by decide +kernel), rfl⟩
theorem wC_126 : (.fieldLink R_NF 119 "NameForge$Store" "elements" "[D" : Cond) ∈ wC := List.mem_filter.mpr ⟨List.mem_of_getElem? (i := 126) (by decide +kernel), rfl⟩
theorem wC_127 : (.fieldLink R_WK 149 "NameForge$Store" "elements" "[D" : Cond) ∈ wC := List.mem_filter.mpr ⟨List.mem_of_getElem? (i := 127) (by decide +kernel), rfl⟩
theorem wC_128 : (.fieldLink R_ST 18 "NameForge$Store" "firstRow" "I" : Cond) ∈ wC := List.mem_filter.mpr ⟨List.mem_of_getElem? (i := 128) (by decide +kernel), rfl⟩
theorem wC_129 : (.fieldLink R_ST 22 "NameForge$Store" "lastRow" "I" : Cond) ∈ wC := List.mem_filter.mpr ⟨List.mem_of_getElem? (i := 129) (by decide +kernel), rfl⟩
theorem wC_130 : (.fieldLink R_ST 25 "NameForge$Store" "firstColumn" "I" : Cond) ∈ wC := List.mem_filter.mpr ⟨List.mem_of_getElem? (i := 130) (by decide +kernel), rfl⟩
theorem wC_131 : (.fieldLink R_ST 28 "NameForge$Store" "lastColumn" "I" : Cond) ∈ wC := List.mem_filter.mpr ⟨List.mem_of_getElem? (i := 131) (by decide +kernel), rfl⟩
theorem wC_145 : (.arrayClass .double : Cond) ∈ wC := List.mem_filter.mpr ⟨List.mem_of_getElem? (i := 145) (by decide +kernel), rfl⟩
theorem wC_146 : (.classLink R_NF 23 R_WK : Cond) ∈ wC := List.mem_filter.mpr ⟨List.mem_of_getElem? (i := 146) (by decide +kernel), rfl⟩
theorem wC_147 : (.instantiable R_WK 13 : Cond) ∈ wC := List.mem_filter.mpr ⟨List.mem_of_getElem? (i := 147) (by decide +kernel), rfl⟩
theorem wC_148 : (.methodLink R_NF 25 y_WK_init : Cond) ∈ wC := List.mem_filter.mpr ⟨List.mem_of_getElem? (i := 148) (by decide +kernel), rfl⟩
theorem wC_149 : (.instanceMethod y_WK_init : Cond) ∈ wC := List.mem_filter.mpr ⟨List.mem_of_getElem? (i := 149) (by decide +kernel), rfl⟩
set_option maxRecDepth 100000 in
theorem wC_150 : (.code y_WK_init b_WK_init 4 none : Cond) ∈ wC := List.mem_filter.mpr ⟨List.mem_of_getElem? (i := 150) rfl, rfl⟩
theorem wC_151 : (.methodLink R_WK 3 Lib.objectInit : Cond) ∈ wC := List.mem_filter.mpr ⟨List.mem_of_getElem? (i := 151) (by decide +kernel), rfl⟩
theorem wC_152 : (.classLink R_WK 9 R_EN : Cond) ∈ wC := List.mem_filter.mpr ⟨List.mem_of_getElem? (i := 152) (by decide +kernel), rfl⟩
theorem wC_153 : (.instantiable R_EN 6 : Cond) ∈ wC := List.mem_filter.mpr ⟨List.mem_of_getElem? (i := 153) (by decide +kernel), rfl⟩
theorem wC_155 : (.instanceMethod y_EN_init : Cond) ∈ wC := List.mem_filter.mpr ⟨List.mem_of_getElem? (i := 155) (by decide +kernel), rfl⟩
set_option maxRecDepth 100000 in
theorem wC_156 : (.code y_EN_init b_EN_init 1 none : Cond) ∈ wC := List.mem_filter.mpr ⟨List.mem_of_getElem? (i := 156) rfl, rfl⟩
theorem wC_157 : (.methodLink R_EN 3 Lib.objectInit : Cond) ∈ wC := List.mem_filter.mpr ⟨List.mem_of_getElem? (i := 157) (by decide +kernel), rfl⟩
theorem wC_158 : (.fieldLink R_EN 22 "NameForge$Environment" "caller" "LNameForge$Environment;" : Cond) ∈ wC := List.mem_filter.mpr ⟨List.mem_of_getElem? (i := 158) (by decide +kernel), rfl⟩
theorem wC_159 : (.fieldLink R_WK 178 "NameForge$Environment" "caller" "LNameForge$Environment;" : Cond) ∈ wC := List.mem_filter.mpr ⟨List.mem_of_getElem? (i := 159) (by decide +kernel), rfl⟩
theorem wC_160 : (.fieldLink R_EN 9 "NameForge$Environment" "given" "[I" : Cond) ∈ wC := List.mem_filter.mpr ⟨List.mem_of_getElem? (i := 160) (by decide +kernel), rfl⟩
theorem wC_161 : (.fieldLink R_WK 175 "NameForge$Environment" "given" "[I" : Cond) ∈ wC := List.mem_filter.mpr ⟨List.mem_of_getElem? (i := 161) (by decide +kernel), rfl⟩
theorem wC_162 : (.fieldLink R_EN 15 "NameForge$Environment" "values" "[D" : Cond) ∈ wC := List.mem_filter.mpr ⟨List.mem_of_getElem? (i := 162) (by decide +kernel), rfl⟩
theorem wC_163 : (.fieldLink R_WK 169 "NameForge$Environment" "values" "[D" : Cond) ∈ wC := List.mem_filter.mpr ⟨List.mem_of_getElem? (i := 163) (by decide +kernel), rfl⟩
theorem wC_164 : (.fieldLink R_EN 19 "NameForge$Environment" "locals" "[D" : Cond) ∈ wC := List.mem_filter.mpr ⟨List.mem_of_getElem? (i := 164) (by decide +kernel), rfl⟩
theorem wC_165 : (.fieldLink R_WK 96 "NameForge$Environment" "locals" "[D" : Cond) ∈ wC := List.mem_filter.mpr ⟨List.mem_of_getElem? (i := 165) (by decide +kernel), rfl⟩
theorem wC_166 : (.fieldLink R_EN 26 "NameForge$Environment" "parameters" "I" : Cond) ∈ wC := List.mem_filter.mpr ⟨List.mem_of_getElem? (i := 166) (by decide +kernel), rfl⟩
theorem wC_167 : (.fieldLink R_EN 30 "NameForge$Environment" "names" "I" : Cond) ∈ wC := List.mem_filter.mpr ⟨List.mem_of_getElem? (i := 167) (by decide +kernel), rfl⟩
theorem wC_182 : (.fieldLink R_WK 38 "NameForge$Worker" "worked" "I" : Cond) ∈ wC := List.mem_filter.mpr ⟨List.mem_of_getElem? (i := 182) (by decide +kernel), rfl⟩
theorem wC_183 : (.fieldLink R_NF 144 "NameForge$Worker" "worked" "I" : Cond) ∈ wC := List.mem_filter.mpr ⟨List.mem_of_getElem? (i := 183) (by decide +kernel), rfl⟩
theorem wC_184 : (.fieldLink R_WK 41 "NameForge$Worker" "fault" "I" : Cond) ∈ wC := List.mem_filter.mpr ⟨List.mem_of_getElem? (i := 184) (by decide +kernel), rfl⟩
theorem wC_185 : (.fieldLink R_NF 101 "NameForge$Worker" "fault" "I" : Cond) ∈ wC := List.mem_filter.mpr ⟨List.mem_of_getElem? (i := 185) (by decide +kernel), rfl⟩
theorem wC_186 : (.fieldLink R_WK 44 "NameForge$Worker" "bodiesBegun" "I" : Cond) ∈ wC := List.mem_filter.mpr ⟨List.mem_of_getElem? (i := 186) (by decide +kernel), rfl⟩
theorem wC_187 : (.fieldLink R_NF 147 "NameForge$Worker" "bodiesBegun" "I" : Cond) ∈ wC := List.mem_filter.mpr ⟨List.mem_of_getElem? (i := 187) (by decide +kernel), rfl⟩
theorem wC_188 : (.fieldLink R_WK 47 "NameForge$Worker" "mostEnvironments" "I" : Cond) ∈ wC := List.mem_filter.mpr ⟨List.mem_of_getElem? (i := 188) (by decide +kernel), rfl⟩
theorem wC_189 : (.fieldLink R_NF 150 "NameForge$Worker" "mostEnvironments" "I" : Cond) ∈ wC := List.mem_filter.mpr ⟨List.mem_of_getElem? (i := 189) (by decide +kernel), rfl⟩
theorem wC_190 : (.fieldLink R_WK 50 "NameForge$Worker" "jumpsArrived" "I" : Cond) ∈ wC := List.mem_filter.mpr ⟨List.mem_of_getElem? (i := 190) (by decide +kernel), rfl⟩
theorem wC_191 : (.fieldLink R_NF 153 "NameForge$Worker" "jumpsArrived" "I" : Cond) ∈ wC := List.mem_filter.mpr ⟨List.mem_of_getElem? (i := 191) (by decide +kernel), rfl⟩
theorem wC_192 : (.fieldLink R_WK 30 "NameForge$Worker" "program" "LNameForge$Program;" : Cond) ∈ wC := List.mem_filter.mpr ⟨List.mem_of_getElem? (i := 192) (by decide +kernel), rfl⟩
theorem wC_193 : (.fieldLink R_WK 34 "NameForge$Worker" "store" "LNameForge$Store;" : Cond) ∈ wC := List.mem_filter.mpr ⟨List.mem_of_getElem? (i := 193) (by decide +kernel), rfl⟩
theorem wC_194 : (.fieldLink R_WK 12 "NameForge$Worker" "outermost" "LNameForge$Environment;" : Cond) ∈ wC := List.mem_filter.mpr ⟨List.mem_of_getElem? (i := 194) (by decide +kernel), rfl⟩
theorem wC_195 : (.fieldLink R_WK 18 "NameForge$Worker" "environments" "[LNameForge$Environment;" : Cond) ∈ wC := List.mem_filter.mpr ⟨List.mem_of_getElem? (i := 195) (by decide +kernel), rfl⟩
theorem wC_196 : (.fieldLink R_WK 22 "NameForge$Worker" "openLabels" "[I" : Cond) ∈ wC := List.mem_filter.mpr ⟨List.mem_of_getElem? (i := 196) (by decide +kernel), rfl⟩
theorem wC_197 : (.fieldLink R_WK 188 "NameForge$Worker" "openCalls" "I" : Cond) ∈ wC := List.mem_filter.mpr ⟨List.mem_of_getElem? (i := 197) (by decide +kernel), rfl⟩
theorem wC_198 : (.fieldLink R_WK 57 "NameForge$Worker" "openEnvironments" "I" : Cond) ∈ wC := List.mem_filter.mpr ⟨List.mem_of_getElem? (i := 198) (by decide +kernel), rfl⟩
theorem wC_199 : (.fieldLink R_WK 26 "NameForge$Worker" "jumpingTo" "I" : Cond) ∈ wC := List.mem_filter.mpr ⟨List.mem_of_getElem? (i := 199) (by decide +kernel), rfl⟩
theorem wC_227 : (.fieldLink R_NF 10 "NameForge" "program" "LNameForge$Program;" : Cond) ∈ wC := List.mem_filter.mpr ⟨List.mem_of_getElem? (i := 227) (by decide +kernel), rfl⟩
theorem wC_228 : (.fieldLink R_NF 19 "NameForge" "store" "LNameForge$Store;" : Cond) ∈ wC := List.mem_filter.mpr ⟨List.mem_of_getElem? (i := 228) (by decide +kernel), rfl⟩
theorem wC_229 : (.fieldLink R_NF 28 "NameForge" "worker" "LNameForge$Worker;" : Cond) ∈ wC := List.mem_filter.mpr ⟨List.mem_of_getElem? (i := 229) (by decide +kernel), rfl⟩
theorem wC_237 : (.methodLink R_LW 97 y_NF_clear : Cond) ∈ wC := List.mem_filter.mpr ⟨List.mem_of_getElem? (i := 237) (by decide +kernel), rfl⟩
theorem wC_238 : (.instanceMethod y_NF_clear : Cond) ∈ wC := List.mem_filter.mpr ⟨List.mem_of_getElem? (i := 238) (by decide +kernel), rfl⟩
theorem wC_239 : (.selects R_NF y_NF_clear y_NF_clear : Cond) ∈ wC := List.mem_filter.mpr ⟨List.mem_of_getElem? (i := 239) (by decide +kernel), rfl⟩
set_option maxRecDepth 100000 in
theorem wC_240 : (.code y_NF_clear b_NF_clear 2 (some .int) : Cond) ∈ wC := List.mem_filter.mpr ⟨List.mem_of_getElem? (i := 240) rfl, rfl⟩
theorem wC_241 : (.methodLink R_NF 141 y_PR_empty : Cond) ∈ wC := List.mem_filter.mpr ⟨List.mem_of_getElem? (i := 241) (by decide +kernel), rfl⟩
theorem wC_242 : (.instanceMethod y_PR_empty : Cond) ∈ wC := List.mem_filter.mpr ⟨List.mem_of_getElem? (i := 242) (by decide +kernel), rfl⟩
theorem wC_243 : (.selects R_PR y_PR_empty y_PR_empty : Cond) ∈ wC := List.mem_filter.mpr ⟨List.mem_of_getElem? (i := 243) (by decide +kernel), rfl⟩
set_option maxRecDepth 100000 in
theorem wC_244 : (.code y_PR_empty b_PR_empty 1 none : Cond) ∈ wC := List.mem_filter.mpr ⟨List.mem_of_getElem? (i := 244) rfl, rfl⟩
theorem wC_245 : (.methodLink R_LW 59 y_LW_make : Cond) ∈ wC := List.mem_filter.mpr ⟨List.mem_of_getElem? (i := 245) (by decide +kernel), rfl⟩
theorem wC_246 : (.static y_LW_make : Cond) ∈ wC := List.mem_filter.mpr ⟨List.mem_of_getElem? (i := 246) (by decide +kernel), rfl⟩
set_option maxRecDepth 100000 in
theorem wC_247 : (.codeWith y_LW_make b_LW_make 7 (some .int) [(0, 14, 17, 13), (0, 14, 21, 15)] : Cond) ∈ wC := List.mem_filter.mpr ⟨List.mem_of_getElem? (i := 247) rfl, rfl⟩
theorem wC_248 : (.classLink R_LW 13 "java/lang/IllegalArgumentException" : Cond) ∈ wC := List.mem_filter.mpr ⟨List.mem_of_getElem? (i := 248) (by decide +kernel), rfl⟩
theorem wC_249 : (.classLink R_LW 15 "java/lang/IllegalStateException" : Cond) ∈ wC := List.mem_filter.mpr ⟨List.mem_of_getElem? (i := 249) (by decide +kernel), rfl⟩
theorem wC_250 : (.methodLink R_LW 7 y_NF_make : Cond) ∈ wC := List.mem_filter.mpr ⟨List.mem_of_getElem? (i := 250) (by decide +kernel), rfl⟩
theorem wC_251 : (.instanceMethod y_NF_make : Cond) ∈ wC := List.mem_filter.mpr ⟨List.mem_of_getElem? (i := 251) (by decide +kernel), rfl⟩
theorem wC_252 : (.selects R_NF y_NF_make y_NF_make : Cond) ∈ wC := List.mem_filter.mpr ⟨List.mem_of_getElem? (i := 252) (by decide +kernel), rfl⟩
set_option maxRecDepth 100000 in
theorem wC_253 : (.code y_NF_make b_NF_make 5 (some .int) : Cond) ∈ wC := List.mem_filter.mpr ⟨List.mem_of_getElem? (i := 253) rfl, rfl⟩
theorem wC_254 : (.methodLink R_NF 32 y_PR_takes : Cond) ∈ wC := List.mem_filter.mpr ⟨List.mem_of_getElem? (i := 254) (by decide +kernel), rfl⟩
theorem wC_255 : (.instanceMethod y_PR_takes : Cond) ∈ wC := List.mem_filter.mpr ⟨List.mem_of_getElem? (i := 255) (by decide +kernel), rfl⟩
theorem wC_256 : (.selects R_PR y_PR_takes y_PR_takes : Cond) ∈ wC := List.mem_filter.mpr ⟨List.mem_of_getElem? (i := 256) (by decide +kernel), rfl⟩
set_option maxRecDepth 100000 in
theorem wC_257 : (.code y_PR_takes b_PR_takes 5 (some .boolean) : Cond) ∈ wC := List.mem_filter.mpr ⟨List.mem_of_getElem? (i := 257) rfl, rfl⟩
theorem wC_259 : (.static y_NF_isBelow : Cond) ∈ wC := List.mem_filter.mpr ⟨List.mem_of_getElem? (i := 259) (by decide +kernel), rfl⟩
set_option maxRecDepth 100000 in
theorem wC_260 : (.code y_NF_isBelow b_NF_isBelow 2 (some .boolean) : Cond) ∈ wC := List.mem_filter.mpr ⟨List.mem_of_getElem? (i := 260) rfl, rfl⟩
theorem wC_261 : (.fieldLink R_PR 47 "NameForge$Program" "SORTS_OF_A" "[I" : Cond) ∈ wC := List.mem_filter.mpr ⟨List.mem_of_getElem? (i := 261) (by decide +kernel), rfl⟩
theorem wC_263 : (.methodLink R_PR 50 y_PR_fits : Cond) ∈ wC := List.mem_filter.mpr ⟨List.mem_of_getElem? (i := 263) (by decide +kernel), rfl⟩
theorem wC_265 : (.instanceMethod y_PR_fits : Cond) ∈ wC := List.mem_filter.mpr ⟨List.mem_of_getElem? (i := 265) (by decide +kernel), rfl⟩
set_option maxRecDepth 100000 in
theorem wC_266 : (.code y_PR_fits b_PR_fits 3 (some .boolean) : Cond) ∈ wC := List.mem_filter.mpr ⟨List.mem_of_getElem? (i := 266) rfl, rfl⟩
theorem wC_267 : (.methodLink R_PR 59 y_PR_has : Cond) ∈ wC := List.mem_filter.mpr ⟨List.mem_of_getElem? (i := 267) (by decide +kernel), rfl⟩
theorem wC_268 : (.instanceMethod y_PR_has : Cond) ∈ wC := List.mem_filter.mpr ⟨List.mem_of_getElem? (i := 268) (by decide +kernel), rfl⟩
theorem wC_269 : (.selects R_PR y_PR_has y_PR_has : Cond) ∈ wC := List.mem_filter.mpr ⟨List.mem_of_getElem? (i := 269) (by decide +kernel), rfl⟩
set_option maxRecDepth 100000 in
theorem wC_270 : (.code y_PR_has b_PR_has 2 (some .boolean) : Cond) ∈ wC := List.mem_filter.mpr ⟨List.mem_of_getElem? (i := 270) rfl, rfl⟩
theorem wC_271 : (.fieldLink R_PR 53 "NameForge$Program" "SORTS_OF_B" "[I" : Cond) ∈ wC := List.mem_filter.mpr ⟨List.mem_of_getElem? (i := 271) (by decide +kernel), rfl⟩
theorem wC_273 : (.fieldLink R_PR 56 "NameForge$Program" "SORTS_OF_C" "[I" : Cond) ∈ wC := List.mem_filter.mpr ⟨List.mem_of_getElem? (i := 273) (by decide +kernel), rfl⟩
theorem wC_275 : (.classLink R_NF 36 "java/lang/IllegalArgumentException" : Cond) ∈ wC := List.mem_filter.mpr ⟨List.mem_of_getElem? (i := 275) (by decide +kernel), rfl⟩
theorem wC_346 : (.classLink R_NF 47 "java/lang/IllegalStateException" : Cond) ∈ wC := List.mem_filter.mpr ⟨List.mem_of_getElem? (i := 346) (by decide +kernel), rfl⟩
theorem wC_362 : (.methodLink R_NF 52 y_PR_add : Cond) ∈ wC := List.mem_filter.mpr ⟨List.mem_of_getElem? (i := 362) (by decide +kernel), rfl⟩
theorem wC_363 : (.instanceMethod y_PR_add : Cond) ∈ wC := List.mem_filter.mpr ⟨List.mem_of_getElem? (i := 363) (by decide +kernel), rfl⟩
theorem wC_364 : (.selects R_PR y_PR_add y_PR_add : Cond) ∈ wC := List.mem_filter.mpr ⟨List.mem_of_getElem? (i := 364) (by decide +kernel), rfl⟩
set_option maxRecDepth 100000 in
theorem wC_365 : (.code y_PR_add b_PR_add 5 (some .int) : Cond) ∈ wC := List.mem_filter.mpr ⟨List.mem_of_getElem? (i := 365) rfl, rfl⟩
theorem wC_366 : (.methodLink R_LW 65 y_LW_procedure : Cond) ∈ wC := List.mem_filter.mpr ⟨List.mem_of_getElem? (i := 366) (by decide +kernel), rfl⟩
theorem wC_367 : (.static y_LW_procedure : Cond) ∈ wC := List.mem_filter.mpr ⟨List.mem_of_getElem? (i := 367) (by decide +kernel), rfl⟩
set_option maxRecDepth 100000 in
theorem wC_368 : (.codeWith y_LW_procedure b_LW_procedure 6 (some .int) [(0, 9, 12, 13)] : Cond) ∈ wC := List.mem_filter.mpr ⟨List.mem_of_getElem? (i := 368) rfl, rfl⟩
theorem wC_369 : (.methodLink R_LW 17 y_NF_procedure : Cond) ∈ wC := List.mem_filter.mpr ⟨List.mem_of_getElem? (i := 369) (by decide +kernel), rfl⟩
theorem wC_370 : (.instanceMethod y_NF_procedure : Cond) ∈ wC := List.mem_filter.mpr ⟨List.mem_of_getElem? (i := 370) (by decide +kernel), rfl⟩
theorem wC_371 : (.selects R_NF y_NF_procedure y_NF_procedure : Cond) ∈ wC := List.mem_filter.mpr ⟨List.mem_of_getElem? (i := 371) (by decide +kernel), rfl⟩
set_option maxRecDepth 100000 in
theorem wC_372 : (.code y_NF_procedure b_NF_procedure 5 none : Cond) ∈ wC := List.mem_filter.mpr ⟨List.mem_of_getElem? (i := 372) rfl, rfl⟩
theorem wC_373 : (.methodLink R_NF 56 y_NF_isBelow : Cond) ∈ wC := List.mem_filter.mpr ⟨List.mem_of_getElem? (i := 373) (by decide +kernel), rfl⟩
theorem wC_374 : (.methodLink R_NF 60 y_PR_has : Cond) ∈ wC := List.mem_filter.mpr ⟨List.mem_of_getElem? (i := 374) (by decide +kernel), rfl⟩
theorem wC_376 : (.methodLink R_NF 66 y_PR_define : Cond) ∈ wC := List.mem_filter.mpr ⟨List.mem_of_getElem? (i := 376) (by decide +kernel), rfl⟩
theorem wC_377 : (.instanceMethod y_PR_define : Cond) ∈ wC := List.mem_filter.mpr ⟨List.mem_of_getElem? (i := 377) (by decide +kernel), rfl⟩
theorem wC_378 : (.selects R_PR y_PR_define y_PR_define : Cond) ∈ wC := List.mem_filter.mpr ⟨List.mem_of_getElem? (i := 378) (by decide +kernel), rfl⟩
set_option maxRecDepth 100000 in
theorem wC_379 : (.code y_PR_define b_PR_define 5 none : Cond) ∈ wC := List.mem_filter.mpr ⟨List.mem_of_getElem? (i := 379) rfl, rfl⟩
theorem wC_380 : (.methodLink R_LW 69 y_LW_bounds : Cond) ∈ wC := List.mem_filter.mpr ⟨List.mem_of_getElem? (i := 380) (by decide +kernel), rfl⟩
theorem wC_381 : (.static y_LW_bounds : Cond) ∈ wC := List.mem_filter.mpr ⟨List.mem_of_getElem? (i := 381) (by decide +kernel), rfl⟩
set_option maxRecDepth 100000 in
theorem wC_382 : (.codeWith y_LW_bounds b_LW_bounds 7 (some .int) [(0, 14, 17, 13)] : Cond) ∈ wC := List.mem_filter.mpr ⟨List.mem_of_getElem? (i := 382) rfl, rfl⟩
theorem wC_383 : (.methodLink R_LW 21 y_NF_bounds : Cond) ∈ wC := List.mem_filter.mpr ⟨List.mem_of_getElem? (i := 383) (by decide +kernel), rfl⟩
theorem wC_384 : (.instanceMethod y_NF_bounds : Cond) ∈ wC := List.mem_filter.mpr ⟨List.mem_of_getElem? (i := 384) (by decide +kernel), rfl⟩
theorem wC_385 : (.selects R_NF y_NF_bounds y_NF_bounds : Cond) ∈ wC := List.mem_filter.mpr ⟨List.mem_of_getElem? (i := 385) (by decide +kernel), rfl⟩
set_option maxRecDepth 100000 in
theorem wC_386 : (.code y_NF_bounds b_NF_bounds 5 (some .int) : Cond) ∈ wC := List.mem_filter.mpr ⟨List.mem_of_getElem? (i := 386) rfl, rfl⟩
theorem wC_387 : (.methodLink R_NF 70 y_NF_areBounds : Cond) ∈ wC := List.mem_filter.mpr ⟨List.mem_of_getElem? (i := 387) (by decide +kernel), rfl⟩
theorem wC_388 : (.static y_NF_areBounds : Cond) ∈ wC := List.mem_filter.mpr ⟨List.mem_of_getElem? (i := 388) (by decide +kernel), rfl⟩
set_option maxRecDepth 100000 in
theorem wC_389 : (.code y_NF_areBounds b_NF_areBounds 2 (some .boolean) : Cond) ∈ wC := List.mem_filter.mpr ⟨List.mem_of_getElem? (i := 389) rfl, rfl⟩
theorem wC_391 : (.methodLink R_NF 75 y_ST_lay : Cond) ∈ wC := List.mem_filter.mpr ⟨List.mem_of_getElem? (i := 391) (by decide +kernel), rfl⟩
theorem wC_392 : (.instanceMethod y_ST_lay : Cond) ∈ wC := List.mem_filter.mpr ⟨List.mem_of_getElem? (i := 392) (by decide +kernel), rfl⟩
theorem wC_393 : (.selects R_ST y_ST_lay y_ST_lay : Cond) ∈ wC := List.mem_filter.mpr ⟨List.mem_of_getElem? (i := 393) (by decide +kernel), rfl⟩
set_option maxRecDepth 100000 in
theorem wC_394 : (.code y_ST_lay b_ST_lay 5 none : Cond) ∈ wC := List.mem_filter.mpr ⟨List.mem_of_getElem? (i := 394) rfl, rfl⟩
theorem wC_395 : (.methodLink R_ST 31 y_AR_fillD : Cond) ∈ wC := List.mem_filter.mpr ⟨List.mem_of_getElem? (i := 395) (by decide +kernel), rfl⟩
theorem wC_396 : (.static y_AR_fillD : Cond) ∈ wC := List.mem_filter.mpr ⟨List.mem_of_getElem? (i := 396) (by decide +kernel), rfl⟩
set_option maxRecDepth 100000 in
theorem wC_397 : (.code y_AR_fillD b_AR_fillD 5 none : Cond) ∈ wC := List.mem_filter.mpr ⟨List.mem_of_getElem? (i := 397) rfl, rfl⟩
theorem wC_398 : (.methodLink R_NF 78 y_ST_size : Cond) ∈ wC := List.mem_filter.mpr ⟨List.mem_of_getElem? (i := 398) (by decide +kernel), rfl⟩
theorem wC_399 : (.instanceMethod y_ST_size : Cond) ∈ wC := List.mem_filter.mpr ⟨List.mem_of_getElem? (i := 399) (by decide +kernel), rfl⟩
theorem wC_400 : (.selects R_ST y_ST_size y_ST_size : Cond) ∈ wC := List.mem_filter.mpr ⟨List.mem_of_getElem? (i := 400) (by decide +kernel), rfl⟩
set_option maxRecDepth 100000 in
theorem wC_401 : (.code y_ST_size b_ST_size 1 (some .int) : Cond) ∈ wC := List.mem_filter.mpr ⟨List.mem_of_getElem? (i := 401) rfl, rfl⟩
theorem wC_402 : (.methodLink R_LW 74 y_LW_put : Cond) ∈ wC := List.mem_filter.mpr ⟨List.mem_of_getElem? (i := 402) (by decide +kernel), rfl⟩
theorem wC_403 : (.static y_LW_put : Cond) ∈ wC := List.mem_filter.mpr ⟨List.mem_of_getElem? (i := 403) (by decide +kernel), rfl⟩
set_option maxRecDepth 100000 in
theorem wC_404 : (.codeWith y_LW_put b_LW_put 6 (some .int) [(0, 10, 13, 13)] : Cond) ∈ wC := List.mem_filter.mpr ⟨List.mem_of_getElem? (i := 404) rfl, rfl⟩
theorem wC_405 : (.methodLink R_LW 24 y_NF_put : Cond) ∈ wC := List.mem_filter.mpr ⟨List.mem_of_getElem? (i := 405) (by decide +kernel), rfl⟩
theorem wC_406 : (.instanceMethod y_NF_put : Cond) ∈ wC := List.mem_filter.mpr ⟨List.mem_of_getElem? (i := 406) (by decide +kernel), rfl⟩
theorem wC_407 : (.selects R_NF y_NF_put y_NF_put : Cond) ∈ wC := List.mem_filter.mpr ⟨List.mem_of_getElem? (i := 407) (by decide +kernel), rfl⟩
set_option maxRecDepth 100000 in
theorem wC_408 : (.code y_NF_put b_NF_put 6 (some .double) : Cond) ∈ wC := List.mem_filter.mpr ⟨List.mem_of_getElem? (i := 408) rfl, rfl⟩
theorem wC_409 : (.methodLink R_NF 81 y_NF_isWithinSize : Cond) ∈ wC := List.mem_filter.mpr ⟨List.mem_of_getElem? (i := 409) (by decide +kernel), rfl⟩
theorem wC_410 : (.static y_NF_isWithinSize : Cond) ∈ wC := List.mem_filter.mpr ⟨List.mem_of_getElem? (i := 410) (by decide +kernel), rfl⟩
set_option maxRecDepth 100000 in
theorem wC_411 : (.code y_NF_isWithinSize b_NF_isWithinSize 2 (some .boolean) : Cond) ∈ wC := List.mem_filter.mpr ⟨List.mem_of_getElem? (i := 411) rfl, rfl⟩
theorem wC_412 : (.constantDouble R_NF 183 13965043853221167104 : Cond) ∈ wC := List.mem_filter.mpr ⟨List.mem_of_getElem? (i := 412) (by decide +kernel), rfl⟩
theorem wC_413 : (.constantDouble R_NF 185 4741671816366391296 : Cond) ∈ wC := List.mem_filter.mpr ⟨List.mem_of_getElem? (i := 413) (by decide +kernel), rfl⟩
theorem wC_415 : (.methodLink R_NF 91 y_ST_assign : Cond) ∈ wC := List.mem_filter.mpr ⟨List.mem_of_getElem? (i := 415) (by decide +kernel), rfl⟩
theorem wC_416 : (.instanceMethod y_ST_assign : Cond) ∈ wC := List.mem_filter.mpr ⟨List.mem_of_getElem? (i := 416) (by decide +kernel), rfl⟩
theorem wC_417 : (.selects R_ST y_ST_assign y_ST_assign : Cond) ∈ wC := List.mem_filter.mpr ⟨List.mem_of_getElem? (i := 417) (by decide +kernel), rfl⟩
set_option maxRecDepth 100000 in
theorem wC_418 : (.code y_ST_assign b_ST_assign 4 (some .double) : Cond) ∈ wC := List.mem_filter.mpr ⟨List.mem_of_getElem? (i := 418) rfl, rfl⟩
theorem wC_420 : (.static y_NF_rounded : Cond) ∈ wC := List.mem_filter.mpr ⟨List.mem_of_getElem? (i := 420) (by decide +kernel), rfl⟩
set_option maxRecDepth 100000 in
theorem wC_421 : (.code y_NF_rounded b_NF_rounded 6 (some .long) : Cond) ∈ wC := List.mem_filter.mpr ⟨List.mem_of_getElem? (i := 421) rfl, rfl⟩
theorem wC_422 : (.constantDouble R_NF 187 4602678819172646912 : Cond) ∈ wC := List.mem_filter.mpr ⟨List.mem_of_getElem? (i := 422) (by decide +kernel), rfl⟩
theorem wC_423 : (.methodLink R_LW 78 y_LW_work : Cond) ∈ wC := List.mem_filter.mpr ⟨List.mem_of_getElem? (i := 423) (by decide +kernel), rfl⟩
theorem wC_424 : (.static y_LW_work : Cond) ∈ wC := List.mem_filter.mpr ⟨List.mem_of_getElem? (i := 424) (by decide +kernel), rfl⟩
set_option maxRecDepth 100000 in
theorem wC_425 : (.codeWith y_LW_work b_LW_work 4 (some .int) [(0, 8, 11, 13), (0, 8, 14, 32), (0, 8, 17, 34), (0, 8, 20, 36), (0, 8, 23, 38), (0, 8, 26, 15)] : Cond) ∈ wC := List.mem_filter.mpr ⟨List.mem_of_getElem? (i := 425) rfl, rfl⟩
theorem wC_426 : (.classLink R_LW 32 "java/lang/ArithmeticException" : Cond) ∈ wC := List.mem_filter.mpr ⟨List.mem_of_getElem? (i := 426) (by decide +kernel), rfl⟩
theorem wC_427 : (.classLink R_LW 34 "java/lang/IndexOutOfBoundsException" : Cond) ∈ wC := List.mem_filter.mpr ⟨List.mem_of_getElem? (i := 427) (by decide +kernel), rfl⟩
theorem wC_428 : (.classLink R_LW 36 "java/lang/UnsupportedOperationException" : Cond) ∈ wC := List.mem_filter.mpr ⟨List.mem_of_getElem? (i := 428) (by decide +kernel), rfl⟩
theorem wC_429 : (.classLink R_LW 38 "java/util/NoSuchElementException" : Cond) ∈ wC := List.mem_filter.mpr ⟨List.mem_of_getElem? (i := 429) (by decide +kernel), rfl⟩
theorem wC_430 : (.methodLink R_LW 28 y_NF_work : Cond) ∈ wC := List.mem_filter.mpr ⟨List.mem_of_getElem? (i := 430) (by decide +kernel), rfl⟩
theorem wC_431 : (.instanceMethod y_NF_work : Cond) ∈ wC := List.mem_filter.mpr ⟨List.mem_of_getElem? (i := 431) (by decide +kernel), rfl⟩
theorem wC_432 : (.selects R_NF y_NF_work y_NF_work : Cond) ∈ wC := List.mem_filter.mpr ⟨List.mem_of_getElem? (i := 432) (by decide +kernel), rfl⟩
set_option maxRecDepth 100000 in
theorem wC_433 : (.code y_NF_work b_NF_work 4 (some .double) : Cond) ∈ wC := List.mem_filter.mpr ⟨List.mem_of_getElem? (i := 433) rfl, rfl⟩
theorem wC_435 : (.methodLink R_NF 97 y_WK_start : Cond) ∈ wC := List.mem_filter.mpr ⟨List.mem_of_getElem? (i := 435) (by decide +kernel), rfl⟩
theorem wC_436 : (.instanceMethod y_WK_start : Cond) ∈ wC := List.mem_filter.mpr ⟨List.mem_of_getElem? (i := 436) (by decide +kernel), rfl⟩
theorem wC_437 : (.selects R_WK y_WK_start y_WK_start : Cond) ∈ wC := List.mem_filter.mpr ⟨List.mem_of_getElem? (i := 437) (by decide +kernel), rfl⟩
set_option maxRecDepth 100000 in
theorem wC_438 : (.code y_WK_start b_WK_start 2 (some .double) : Cond) ∈ wC := List.mem_filter.mpr ⟨List.mem_of_getElem? (i := 438) rfl, rfl⟩
theorem wC_439 : (.methodLink R_WK 53 y_WK_value : Cond) ∈ wC := List.mem_filter.mpr ⟨List.mem_of_getElem? (i := 439) (by decide +kernel), rfl⟩
theorem wC_441 : (.instanceMethod y_WK_value : Cond) ∈ wC := List.mem_filter.mpr ⟨List.mem_of_getElem? (i := 441) (by decide +kernel), rfl⟩
set_option maxRecDepth 100000 in
theorem wC_442 : (.code y_WK_value b_WK_value 5 (some .double) : Cond) ∈ wC := List.mem_filter.mpr ⟨List.mem_of_getElem? (i := 442) rfl, rfl⟩
theorem wC_443 : (.methodLink R_WK 66 y_WK_mayBegin : Cond) ∈ wC := List.mem_filter.mpr ⟨List.mem_of_getElem? (i := 443) (by decide +kernel), rfl⟩
theorem wC_445 : (.instanceMethod y_WK_mayBegin : Cond) ∈ wC := List.mem_filter.mpr ⟨List.mem_of_getElem? (i := 445) (by decide +kernel), rfl⟩
set_option maxRecDepth 100000 in
theorem wC_446 : (.code y_WK_mayBegin b_WK_mayBegin 2 (some .boolean) : Cond) ∈ wC := List.mem_filter.mpr ⟨List.mem_of_getElem? (i := 446) rfl, rfl⟩
theorem wC_447 : (.constantDouble R_WK 78 4620693217682128896 : Cond) ∈ wC := List.mem_filter.mpr ⟨List.mem_of_getElem? (i := 447) (by decide +kernel), rfl⟩
theorem wC_448 : (.methodLink R_WK 86 y_WK_choice : Cond) ∈ wC := List.mem_filter.mpr ⟨List.mem_of_getElem? (i := 448) (by decide +kernel), rfl⟩
theorem wC_450 : (.instanceMethod y_WK_choice : Cond) ∈ wC := List.mem_filter.mpr ⟨List.mem_of_getElem? (i := 450) (by decide +kernel), rfl⟩
set_option maxRecDepth 100000 in
theorem wC_451 : (.code y_WK_choice b_WK_choice 6 (some .double) : Cond) ∈ wC := List.mem_filter.mpr ⟨List.mem_of_getElem? (i := 451) rfl, rfl⟩
theorem wC_452 : (.methodLink R_WK 124 y_WK_leaving : Cond) ∈ wC := List.mem_filter.mpr ⟨List.mem_of_getElem? (i := 452) (by decide +kernel), rfl⟩
theorem wC_454 : (.instanceMethod y_WK_leaving : Cond) ∈ wC := List.mem_filter.mpr ⟨List.mem_of_getElem? (i := 454) (by decide +kernel), rfl⟩
set_option maxRecDepth 100000 in
theorem wC_455 : (.code y_WK_leaving b_WK_leaving 1 (some .boolean) : Cond) ∈ wC := List.mem_filter.mpr ⟨List.mem_of_getElem? (i := 455) rfl, rfl⟩
theorem wC_456 : (.methodLink R_WK 89 y_WK_parameter : Cond) ∈ wC := List.mem_filter.mpr ⟨List.mem_of_getElem? (i := 456) (by decide +kernel), rfl⟩
theorem wC_458 : (.instanceMethod y_WK_parameter : Cond) ∈ wC := List.mem_filter.mpr ⟨List.mem_of_getElem? (i := 458) (by decide +kernel), rfl⟩
set_option maxRecDepth 100000 in
theorem wC_459 : (.code y_WK_parameter b_WK_parameter 6 (some .double) : Cond) ∈ wC := List.mem_filter.mpr ⟨List.mem_of_getElem? (i := 459) rfl, rfl⟩
theorem wC_460 : (.methodLink R_WK 163 y_EN_hasParameter : Cond) ∈ wC := List.mem_filter.mpr ⟨List.mem_of_getElem? (i := 460) (by decide +kernel), rfl⟩
theorem wC_461 : (.instanceMethod y_EN_hasParameter : Cond) ∈ wC := List.mem_filter.mpr ⟨List.mem_of_getElem? (i := 461) (by decide +kernel), rfl⟩
theorem wC_462 : (.selects R_EN y_EN_hasParameter y_EN_hasParameter : Cond) ∈ wC := List.mem_filter.mpr ⟨List.mem_of_getElem? (i := 462) (by decide +kernel), rfl⟩
set_option maxRecDepth 100000 in
theorem wC_463 : (.code y_EN_hasParameter b_EN_hasParameter 2 (some .boolean) : Cond) ∈ wC := List.mem_filter.mpr ⟨List.mem_of_getElem? (i := 463) rfl, rfl⟩
theorem wC_464 : (.methodLink R_WK 99 y_WK_fail : Cond) ∈ wC := List.mem_filter.mpr ⟨List.mem_of_getElem? (i := 464) (by decide +kernel), rfl⟩
theorem wC_466 : (.instanceMethod y_WK_fail : Cond) ∈ wC := List.mem_filter.mpr ⟨List.mem_of_getElem? (i := 466) (by decide +kernel), rfl⟩
set_option maxRecDepth 100000 in
theorem wC_467 : (.code y_WK_fail b_WK_fail 2 (some .double) : Cond) ∈ wC := List.mem_filter.mpr ⟨List.mem_of_getElem? (i := 467) rfl, rfl⟩
theorem wC_468 : (.methodLink R_WK 166 y_EN_isByName : Cond) ∈ wC := List.mem_filter.mpr ⟨List.mem_of_getElem? (i := 468) (by decide +kernel), rfl⟩
theorem wC_469 : (.instanceMethod y_EN_isByName : Cond) ∈ wC := List.mem_filter.mpr ⟨List.mem_of_getElem? (i := 469) (by decide +kernel), rfl⟩
theorem wC_470 : (.selects R_EN y_EN_isByName y_EN_isByName : Cond) ∈ wC := List.mem_filter.mpr ⟨List.mem_of_getElem? (i := 470) (by decide +kernel), rfl⟩
set_option maxRecDepth 100000 in
theorem wC_471 : (.code y_EN_isByName b_EN_isByName 2 (some .boolean) : Cond) ∈ wC := List.mem_filter.mpr ⟨List.mem_of_getElem? (i := 471) rfl, rfl⟩
theorem wC_472 : (.methodLink R_WK 172 y_WK_mayEnter : Cond) ∈ wC := List.mem_filter.mpr ⟨List.mem_of_getElem? (i := 472) (by decide +kernel), rfl⟩
theorem wC_474 : (.instanceMethod y_WK_mayEnter : Cond) ∈ wC := List.mem_filter.mpr ⟨List.mem_of_getElem? (i := 474) (by decide +kernel), rfl⟩
set_option maxRecDepth 100000 in
theorem wC_475 : (.code y_WK_mayEnter b_WK_mayEnter 1 (some .boolean) : Cond) ∈ wC := List.mem_filter.mpr ⟨List.mem_of_getElem? (i := 475) rfl, rfl⟩
theorem wC_476 : (.methodLink R_WK 60 Lib.Math.max.name : Cond) ∈ wC := List.mem_filter.mpr ⟨List.mem_of_getElem? (i := 476) (by decide +kernel), rfl⟩
theorem wC_477 : (.static Lib.Math.max.name : Cond) ∈ wC := List.mem_filter.mpr ⟨List.mem_of_getElem? (i := 477) (by decide +kernel), rfl⟩
set_option maxRecDepth 100000 in
theorem wC_478 : (.code Lib.Math.max.name Lib.Math.max.code 2 (some .int) : Cond) ∈ wC := List.mem_filter.mpr ⟨List.mem_of_getElem? (i := 478) rfl, rfl⟩
theorem wC_479 : (.methodLink R_WK 92 y_EN_hasLocals : Cond) ∈ wC := List.mem_filter.mpr ⟨List.mem_of_getElem? (i := 479) (by decide +kernel), rfl⟩
theorem wC_480 : (.instanceMethod y_EN_hasLocals : Cond) ∈ wC := List.mem_filter.mpr ⟨List.mem_of_getElem? (i := 480) (by decide +kernel), rfl⟩
theorem wC_481 : (.selects R_EN y_EN_hasLocals y_EN_hasLocals : Cond) ∈ wC := List.mem_filter.mpr ⟨List.mem_of_getElem? (i := 481) (by decide +kernel), rfl⟩
set_option maxRecDepth 100000 in
theorem wC_482 : (.code y_EN_hasLocals b_EN_hasLocals 1 (some .boolean) : Cond) ∈ wC := List.mem_filter.mpr ⟨List.mem_of_getElem? (i := 482) rfl, rfl⟩
theorem wC_483 : (.methodLink R_WK 103 y_WK_call : Cond) ∈ wC := List.mem_filter.mpr ⟨List.mem_of_getElem? (i := 483) (by decide +kernel), rfl⟩
theorem wC_485 : (.instanceMethod y_WK_call : Cond) ∈ wC := List.mem_filter.mpr ⟨List.mem_of_getElem? (i := 485) (by decide +kernel), rfl⟩
set_option maxRecDepth 100000 in
theorem wC_486 : (.code y_WK_call b_WK_call 12 (some .double) : Cond) ∈ wC := List.mem_filter.mpr ⟨List.mem_of_getElem? (i := 486) rfl, rfl⟩
theorem wC_487 : (.methodLink R_WK 181 y_PR_canBeCalled : Cond) ∈ wC := List.mem_filter.mpr ⟨List.mem_of_getElem? (i := 487) (by decide +kernel), rfl⟩
theorem wC_488 : (.instanceMethod y_PR_canBeCalled : Cond) ∈ wC := List.mem_filter.mpr ⟨List.mem_of_getElem? (i := 488) (by decide +kernel), rfl⟩
theorem wC_489 : (.selects R_PR y_PR_canBeCalled y_PR_canBeCalled : Cond) ∈ wC := List.mem_filter.mpr ⟨List.mem_of_getElem? (i := 489) (by decide +kernel), rfl⟩
set_option maxRecDepth 100000 in
theorem wC_490 : (.code y_PR_canBeCalled b_PR_canBeCalled 3 (some .boolean) : Cond) ∈ wC := List.mem_filter.mpr ⟨List.mem_of_getElem? (i := 490) rfl, rfl⟩
theorem wC_491 : (.methodLink R_WK 184 y_PR_isByValue : Cond) ∈ wC := List.mem_filter.mpr ⟨List.mem_of_getElem? (i := 491) (by decide +kernel), rfl⟩
theorem wC_492 : (.instanceMethod y_PR_isByValue : Cond) ∈ wC := List.mem_filter.mpr ⟨List.mem_of_getElem? (i := 492) (by decide +kernel), rfl⟩
theorem wC_493 : (.selects R_PR y_PR_isByValue y_PR_isByValue : Cond) ∈ wC := List.mem_filter.mpr ⟨List.mem_of_getElem? (i := 493) (by decide +kernel), rfl⟩
set_option maxRecDepth 100000 in
theorem wC_494 : (.code y_PR_isByValue b_PR_isByValue 3 (some .boolean) : Cond) ∈ wC := List.mem_filter.mpr ⟨List.mem_of_getElem? (i := 494) rfl, rfl⟩
theorem wC_495 : (.methodLink R_WK 197 y_EN_begin : Cond) ∈ wC := List.mem_filter.mpr ⟨List.mem_of_getElem? (i := 495) (by decide +kernel), rfl⟩
theorem wC_496 : (.instanceMethod y_EN_begin : Cond) ∈ wC := List.mem_filter.mpr ⟨List.mem_of_getElem? (i := 496) (by decide +kernel), rfl⟩
theorem wC_497 : (.selects R_EN y_EN_begin y_EN_begin : Cond) ∈ wC := List.mem_filter.mpr ⟨List.mem_of_getElem? (i := 497) (by decide +kernel), rfl⟩
set_option maxRecDepth 100000 in
theorem wC_498 : (.code y_EN_begin b_EN_begin 4 none : Cond) ∈ wC := List.mem_filter.mpr ⟨List.mem_of_getElem? (i := 498) rfl, rfl⟩
theorem wC_499 : (.methodLink R_EN 33 y_AR_fillD : Cond) ∈ wC := List.mem_filter.mpr ⟨List.mem_of_getElem? (i := 499) (by decide +kernel), rfl⟩
theorem wC_500 : (.methodLink R_WK 201 y_EN_give : Cond) ∈ wC := List.mem_filter.mpr ⟨List.mem_of_getElem? (i := 500) (by decide +kernel), rfl⟩
theorem wC_501 : (.instanceMethod y_EN_give : Cond) ∈ wC := List.mem_filter.mpr ⟨List.mem_of_getElem? (i := 501) (by decide +kernel), rfl⟩
theorem wC_502 : (.selects R_EN y_EN_give y_EN_give : Cond) ∈ wC := List.mem_filter.mpr ⟨List.mem_of_getElem? (i := 502) (by decide +kernel), rfl⟩
set_option maxRecDepth 100000 in
theorem wC_503 : (.code y_EN_give b_EN_give 5 none : Cond) ∈ wC := List.mem_filter.mpr ⟨List.mem_of_getElem? (i := 503) rfl, rfl⟩
theorem wC_504 : (.methodLink R_WK 106 y_WK_set : Cond) ∈ wC := List.mem_filter.mpr ⟨List.mem_of_getElem? (i := 504) (by decide +kernel), rfl⟩
theorem wC_506 : (.instanceMethod y_WK_set : Cond) ∈ wC := List.mem_filter.mpr ⟨List.mem_of_getElem? (i := 506) (by decide +kernel), rfl⟩
set_option maxRecDepth 100000 in
theorem wC_507 : (.code y_WK_set b_WK_set 7 (some .double) : Cond) ∈ wC := List.mem_filter.mpr ⟨List.mem_of_getElem? (i := 507) rfl, rfl⟩
theorem wC_508 : (.methodLink R_WK 208 y_PR_canBeSet : Cond) ∈ wC := List.mem_filter.mpr ⟨List.mem_of_getElem? (i := 508) (by decide +kernel), rfl⟩
theorem wC_509 : (.instanceMethod y_PR_canBeSet : Cond) ∈ wC := List.mem_filter.mpr ⟨List.mem_of_getElem? (i := 509) (by decide +kernel), rfl⟩
theorem wC_510 : (.selects R_PR y_PR_canBeSet y_PR_canBeSet : Cond) ∈ wC := List.mem_filter.mpr ⟨List.mem_of_getElem? (i := 510) (by decide +kernel), rfl⟩
set_option maxRecDepth 100000 in
theorem wC_511 : (.code y_PR_canBeSet b_PR_canBeSet 3 (some .boolean) : Cond) ∈ wC := List.mem_filter.mpr ⟨List.mem_of_getElem? (i := 511) rfl, rfl⟩
theorem wC_512 : (.methodLink R_WK 211 y_WK_become : Cond) ∈ wC := List.mem_filter.mpr ⟨List.mem_of_getElem? (i := 512) (by decide +kernel), rfl⟩
theorem wC_514 : (.instanceMethod y_WK_become : Cond) ∈ wC := List.mem_filter.mpr ⟨List.mem_of_getElem? (i := 514) (by decide +kernel), rfl⟩
set_option maxRecDepth 100000 in
theorem wC_515 : (.code y_WK_become b_WK_become 11 (some .double) : Cond) ∈ wC := List.mem_filter.mpr ⟨List.mem_of_getElem? (i := 515) rfl, rfl⟩
theorem wC_516 : (.methodLink R_WK 215 y_ST_assign : Cond) ∈ wC := List.mem_filter.mpr ⟨List.mem_of_getElem? (i := 516) (by decide +kernel), rfl⟩
theorem wC_518 : (.methodLink R_WK 219 y_WK_elementBecomes : Cond) ∈ wC := List.mem_filter.mpr ⟨List.mem_of_getElem? (i := 518) (by decide +kernel), rfl⟩
theorem wC_520 : (.instanceMethod y_WK_elementBecomes : Cond) ∈ wC := List.mem_filter.mpr ⟨List.mem_of_getElem? (i := 520) (by decide +kernel), rfl⟩
set_option maxRecDepth 100000 in
theorem wC_521 : (.code y_WK_elementBecomes b_WK_elementBecomes 7 (some .double) : Cond) ∈ wC := List.mem_filter.mpr ⟨List.mem_of_getElem? (i := 521) rfl, rfl⟩
theorem wC_522 : (.methodLink R_WK 145 y_ST_holds : Cond) ∈ wC := List.mem_filter.mpr ⟨List.mem_of_getElem? (i := 522) (by decide +kernel), rfl⟩
theorem wC_523 : (.instanceMethod y_ST_holds : Cond) ∈ wC := List.mem_filter.mpr ⟨List.mem_of_getElem? (i := 523) (by decide +kernel), rfl⟩
theorem wC_524 : (.selects R_ST y_ST_holds y_ST_holds : Cond) ∈ wC := List.mem_filter.mpr ⟨List.mem_of_getElem? (i := 524) (by decide +kernel), rfl⟩
set_option maxRecDepth 100000 in
theorem wC_525 : (.code y_ST_holds b_ST_holds 5 (some .boolean) : Cond) ∈ wC := List.mem_filter.mpr ⟨List.mem_of_getElem? (i := 525) rfl, rfl⟩
theorem wC_526 : (.methodLink R_WK 152 y_ST_place : Cond) ∈ wC := List.mem_filter.mpr ⟨List.mem_of_getElem? (i := 526) (by decide +kernel), rfl⟩
theorem wC_527 : (.instanceMethod y_ST_place : Cond) ∈ wC := List.mem_filter.mpr ⟨List.mem_of_getElem? (i := 527) (by decide +kernel), rfl⟩
theorem wC_528 : (.selects R_ST y_ST_place y_ST_place : Cond) ∈ wC := List.mem_filter.mpr ⟨List.mem_of_getElem? (i := 528) (by decide +kernel), rfl⟩
set_option maxRecDepth 100000 in
theorem wC_529 : (.code y_ST_place b_ST_place 5 (some .int) : Cond) ∈ wC := List.mem_filter.mpr ⟨List.mem_of_getElem? (i := 529) rfl, rfl⟩
theorem wC_530 : (.methodLink R_WK 223 y_WK_localBecomes : Cond) ∈ wC := List.mem_filter.mpr ⟨List.mem_of_getElem? (i := 530) (by decide +kernel), rfl⟩
theorem wC_532 : (.instanceMethod y_WK_localBecomes : Cond) ∈ wC := List.mem_filter.mpr ⟨List.mem_of_getElem? (i := 532) (by decide +kernel), rfl⟩
set_option maxRecDepth 100000 in
theorem wC_533 : (.code y_WK_localBecomes b_WK_localBecomes 5 (some .double) : Cond) ∈ wC := List.mem_filter.mpr ⟨List.mem_of_getElem? (i := 533) rfl, rfl⟩
theorem wC_534 : (.methodLink R_WK 227 y_WK_parameterBecomes : Cond) ∈ wC := List.mem_filter.mpr ⟨List.mem_of_getElem? (i := 534) (by decide +kernel), rfl⟩
theorem wC_536 : (.instanceMethod y_WK_parameterBecomes : Cond) ∈ wC := List.mem_filter.mpr ⟨List.mem_of_getElem? (i := 536) (by decide +kernel), rfl⟩
set_option maxRecDepth 100000 in
theorem wC_537 : (.code y_WK_parameterBecomes b_WK_parameterBecomes 8 (some .double) : Cond) ∈ wC := List.mem_filter.mpr ⟨List.mem_of_getElem? (i := 537) rfl, rfl⟩
theorem wC_538 : (.methodLink R_WK 109 y_WK_sequence : Cond) ∈ wC := List.mem_filter.mpr ⟨List.mem_of_getElem? (i := 538) (by decide +kernel), rfl⟩
theorem wC_540 : (.instanceMethod y_WK_sequence : Cond) ∈ wC := List.mem_filter.mpr ⟨List.mem_of_getElem? (i := 540) (by decide +kernel), rfl⟩
set_option maxRecDepth 100000 in
theorem wC_541 : (.code y_WK_sequence b_WK_sequence 4 (some .double) : Cond) ∈ wC := List.mem_filter.mpr ⟨List.mem_of_getElem? (i := 541) rfl, rfl⟩
theorem wC_542 : (.methodLink R_WK 112 y_WK_loop : Cond) ∈ wC := List.mem_filter.mpr ⟨List.mem_of_getElem? (i := 542) (by decide +kernel), rfl⟩
theorem wC_544 : (.instanceMethod y_WK_loop : Cond) ∈ wC := List.mem_filter.mpr ⟨List.mem_of_getElem? (i := 544) (by decide +kernel), rfl⟩
set_option maxRecDepth 100000 in
theorem wC_545 : (.code y_WK_loop b_WK_loop 7 (some .double) : Cond) ∈ wC := List.mem_filter.mpr ⟨List.mem_of_getElem? (i := 545) rfl, rfl⟩
theorem wC_546 : (.methodLink R_WK 115 y_WK_jump : Cond) ∈ wC := List.mem_filter.mpr ⟨List.mem_of_getElem? (i := 546) (by decide +kernel), rfl⟩
theorem wC_548 : (.instanceMethod y_WK_jump : Cond) ∈ wC := List.mem_filter.mpr ⟨List.mem_of_getElem? (i := 548) (by decide +kernel), rfl⟩
set_option maxRecDepth 100000 in
theorem wC_549 : (.code y_WK_jump b_WK_jump 2 (some .double) : Cond) ∈ wC := List.mem_filter.mpr ⟨List.mem_of_getElem? (i := 549) rfl, rfl⟩
theorem wC_550 : (.methodLink R_WK 118 y_WK_label : Cond) ∈ wC := List.mem_filter.mpr ⟨List.mem_of_getElem? (i := 550) (by decide +kernel), rfl⟩
theorem wC_552 : (.instanceMethod y_WK_label : Cond) ∈ wC := List.mem_filter.mpr ⟨List.mem_of_getElem? (i := 552) (by decide +kernel), rfl⟩
set_option maxRecDepth 100000 in
theorem wC_553 : (.code y_WK_label b_WK_label 7 (some .double) : Cond) ∈ wC := List.mem_filter.mpr ⟨List.mem_of_getElem? (i := 553) rfl, rfl⟩
theorem wC_554 : (.methodLink R_WK 121 y_WK_ofTwo : Cond) ∈ wC := List.mem_filter.mpr ⟨List.mem_of_getElem? (i := 554) (by decide +kernel), rfl⟩
theorem wC_556 : (.instanceMethod y_WK_ofTwo : Cond) ∈ wC := List.mem_filter.mpr ⟨List.mem_of_getElem? (i := 556) (by decide +kernel), rfl⟩
set_option maxRecDepth 100000 in
theorem wC_557 : (.code y_WK_ofTwo b_WK_ofTwo 8 (some .double) : Cond) ∈ wC := List.mem_filter.mpr ⟨List.mem_of_getElem? (i := 557) rfl, rfl⟩
theorem wC_558 : (.methodLink R_WK 134 y_WK_elementAt : Cond) ∈ wC := List.mem_filter.mpr ⟨List.mem_of_getElem? (i := 558) (by decide +kernel), rfl⟩
theorem wC_560 : (.instanceMethod y_WK_elementAt : Cond) ∈ wC := List.mem_filter.mpr ⟨List.mem_of_getElem? (i := 560) (by decide +kernel), rfl⟩
set_option maxRecDepth 100000 in
theorem wC_561 : (.code y_WK_elementAt b_WK_elementAt 5 (some .double) : Cond) ∈ wC := List.mem_filter.mpr ⟨List.mem_of_getElem? (i := 561) rfl, rfl⟩
theorem wC_562 : (.methodLink R_WK 138 y_WK_limited : Cond) ∈ wC := List.mem_filter.mpr ⟨List.mem_of_getElem? (i := 562) (by decide +kernel), rfl⟩
theorem wC_564 : (.instanceMethod y_WK_limited : Cond) ∈ wC := List.mem_filter.mpr ⟨List.mem_of_getElem? (i := 564) (by decide +kernel), rfl⟩
set_option maxRecDepth 100000 in
theorem wC_565 : (.code y_WK_limited b_WK_limited 3 (some .double) : Cond) ∈ wC := List.mem_filter.mpr ⟨List.mem_of_getElem? (i := 565) rfl, rfl⟩
theorem wC_567 : (.methodLink R_WK 142 y_WK_quotient : Cond) ∈ wC := List.mem_filter.mpr ⟨List.mem_of_getElem? (i := 567) (by decide +kernel), rfl⟩
theorem wC_569 : (.instanceMethod y_WK_quotient : Cond) ∈ wC := List.mem_filter.mpr ⟨List.mem_of_getElem? (i := 569) (by decide +kernel), rfl⟩
set_option maxRecDepth 100000 in
theorem wC_570 : (.code y_WK_quotient b_WK_quotient 5 (some .double) : Cond) ∈ wC := List.mem_filter.mpr ⟨List.mem_of_getElem? (i := 570) rfl, rfl⟩
theorem wC_571 : (.methodLink R_NF 104 y_NF_throwFault : Cond) ∈ wC := List.mem_filter.mpr ⟨List.mem_of_getElem? (i := 571) (by decide +kernel), rfl⟩
theorem wC_572 : (.static y_NF_throwFault : Cond) ∈ wC := List.mem_filter.mpr ⟨List.mem_of_getElem? (i := 572) (by decide +kernel), rfl⟩
set_option maxRecDepth 100000 in
theorem wC_573 : (.code y_NF_throwFault b_NF_throwFault 1 none : Cond) ∈ wC := List.mem_filter.mpr ⟨List.mem_of_getElem? (i := 573) rfl, rfl⟩
theorem wC_574 : (.classLink R_NF 158 "java/lang/ArithmeticException" : Cond) ∈ wC := List.mem_filter.mpr ⟨List.mem_of_getElem? (i := 574) (by decide +kernel), rfl⟩
theorem wC_591 : (.classLink R_NF 114 "java/lang/IndexOutOfBoundsException" : Cond) ∈ wC := List.mem_filter.mpr ⟨List.mem_of_getElem? (i := 591) (by decide +kernel), rfl⟩
theorem wC_607 : (.classLink R_NF 167 "java/lang/UnsupportedOperationException" : Cond) ∈ wC := List.mem_filter.mpr ⟨List.mem_of_getElem? (i := 607) (by decide +kernel), rfl⟩
theorem wC_623 : (.classLink R_NF 172 "java/util/NoSuchElementException" : Cond) ∈ wC := List.mem_filter.mpr ⟨List.mem_of_getElem? (i := 623) (by decide +kernel), rfl⟩
theorem wC_642 : (.methodLink R_LW 82 y_LW_variable : Cond) ∈ wC := List.mem_filter.mpr ⟨List.mem_of_getElem? (i := 642) (by decide +kernel), rfl⟩
theorem wC_643 : (.static y_LW_variable : Cond) ∈ wC := List.mem_filter.mpr ⟨List.mem_of_getElem? (i := 643) (by decide +kernel), rfl⟩
set_option maxRecDepth 100000 in
theorem wC_644 : (.codeWith y_LW_variable b_LW_variable 4 (some .int) [(0, 8, 11, 13)] : Cond) ∈ wC := List.mem_filter.mpr ⟨List.mem_of_getElem? (i := 644) rfl, rfl⟩
theorem wC_645 : (.methodLink R_LW 40 y_NF_variable : Cond) ∈ wC := List.mem_filter.mpr ⟨List.mem_of_getElem? (i := 645) (by decide +kernel), rfl⟩
theorem wC_646 : (.instanceMethod y_NF_variable : Cond) ∈ wC := List.mem_filter.mpr ⟨List.mem_of_getElem? (i := 646) (by decide +kernel), rfl⟩
theorem wC_647 : (.selects R_NF y_NF_variable y_NF_variable : Cond) ∈ wC := List.mem_filter.mpr ⟨List.mem_of_getElem? (i := 647) (by decide +kernel), rfl⟩
set_option maxRecDepth 100000 in
theorem wC_648 : (.code y_NF_variable b_NF_variable 2 (some .double) : Cond) ∈ wC := List.mem_filter.mpr ⟨List.mem_of_getElem? (i := 648) rfl, rfl⟩
theorem wC_650 : (.methodLink R_LW 85 y_LW_element : Cond) ∈ wC := List.mem_filter.mpr ⟨List.mem_of_getElem? (i := 650) (by decide +kernel), rfl⟩
theorem wC_651 : (.static y_LW_element : Cond) ∈ wC := List.mem_filter.mpr ⟨List.mem_of_getElem? (i := 651) (by decide +kernel), rfl⟩
set_option maxRecDepth 100000 in
theorem wC_652 : (.codeWith y_LW_element b_LW_element 5 (some .int) [(0, 9, 12, 34)] : Cond) ∈ wC := List.mem_filter.mpr ⟨List.mem_of_getElem? (i := 652) rfl, rfl⟩
theorem wC_653 : (.methodLink R_LW 43 y_NF_element : Cond) ∈ wC := List.mem_filter.mpr ⟨List.mem_of_getElem? (i := 653) (by decide +kernel), rfl⟩
theorem wC_654 : (.instanceMethod y_NF_element : Cond) ∈ wC := List.mem_filter.mpr ⟨List.mem_of_getElem? (i := 654) (by decide +kernel), rfl⟩
theorem wC_655 : (.selects R_NF y_NF_element y_NF_element : Cond) ∈ wC := List.mem_filter.mpr ⟨List.mem_of_getElem? (i := 655) (by decide +kernel), rfl⟩
set_option maxRecDepth 100000 in
theorem wC_656 : (.code y_NF_element b_NF_element 3 (some .double) : Cond) ∈ wC := List.mem_filter.mpr ⟨List.mem_of_getElem? (i := 656) rfl, rfl⟩
theorem wC_657 : (.methodLink R_NF 110 y_ST_holds : Cond) ∈ wC := List.mem_filter.mpr ⟨List.mem_of_getElem? (i := 657) (by decide +kernel), rfl⟩
theorem wC_659 : (.methodLink R_NF 122 y_ST_place : Cond) ∈ wC := List.mem_filter.mpr ⟨List.mem_of_getElem? (i := 659) (by decide +kernel), rfl⟩
theorem wC_660 : (.methodLink R_LW 93 y_LW_node : Cond) ∈ wC := List.mem_filter.mpr ⟨List.mem_of_getElem? (i := 660) (by decide +kernel), rfl⟩
theorem wC_661 : (.static y_LW_node : Cond) ∈ wC := List.mem_filter.mpr ⟨List.mem_of_getElem? (i := 661) (by decide +kernel), rfl⟩
set_option maxRecDepth 100000 in
theorem wC_662 : (.codeWith y_LW_node b_LW_node 5 (some .int) [(0, 10, 13, 13), (0, 10, 17, 34)] : Cond) ∈ wC := List.mem_filter.mpr ⟨List.mem_of_getElem? (i := 662) rfl, rfl⟩
theorem wC_663 : (.methodLink R_LW 47 y_NF_node : Cond) ∈ wC := List.mem_filter.mpr ⟨List.mem_of_getElem? (i := 663) (by decide +kernel), rfl⟩
theorem wC_664 : (.instanceMethod y_NF_node : Cond) ∈ wC := List.mem_filter.mpr ⟨List.mem_of_getElem? (i := 664) (by decide +kernel), rfl⟩
theorem wC_665 : (.selects R_NF y_NF_node y_NF_node : Cond) ∈ wC := List.mem_filter.mpr ⟨List.mem_of_getElem? (i := 665) (by decide +kernel), rfl⟩
set_option maxRecDepth 100000 in
theorem wC_666 : (.code y_NF_node b_NF_node 3 (some .int) : Cond) ∈ wC := List.mem_filter.mpr ⟨List.mem_of_getElem? (i := 666) rfl, rfl⟩
theorem wC_668 : (.methodLink R_LW 101 y_LW_count : Cond) ∈ wC := List.mem_filter.mpr ⟨List.mem_of_getElem? (i := 668) (by decide +kernel), rfl⟩
theorem wC_669 : (.static y_LW_count : Cond) ∈ wC := List.mem_filter.mpr ⟨List.mem_of_getElem? (i := 669) (by decide +kernel), rfl⟩
set_option maxRecDepth 100000 in
theorem wC_670 : (.codeWith y_LW_count b_LW_count 4 (some .int) [(0, 9, 12, 13)] : Cond) ∈ wC := List.mem_filter.mpr ⟨List.mem_of_getElem? (i := 670) rfl, rfl⟩
theorem wC_671 : (.methodLink R_LW 51 y_NF_count : Cond) ∈ wC := List.mem_filter.mpr ⟨List.mem_of_getElem? (i := 671) (by decide +kernel), rfl⟩
theorem wC_672 : (.instanceMethod y_NF_count : Cond) ∈ wC := List.mem_filter.mpr ⟨List.mem_of_getElem? (i := 672) (by decide +kernel), rfl⟩
theorem wC_673 : (.selects R_NF y_NF_count y_NF_count : Cond) ∈ wC := List.mem_filter.mpr ⟨List.mem_of_getElem? (i := 673) (by decide +kernel), rfl⟩
set_option maxRecDepth 100000 in
theorem wC_674 : (.code y_NF_count b_NF_count 2 (some .int) : Cond) ∈ wC := List.mem_filter.mpr ⟨List.mem_of_getElem? (i := 674) rfl, rfl⟩
theorem wC_681 : (.methodLink R_MO 1 Lib.objectInit : Cond) ∈ wC := List.mem_filter.mpr ⟨List.mem_of_getElem? (i := 681) (by decide +kernel), rfl⟩
theorem wC_682 : (.fieldLink R_MO 7 "NameForgeModel" "kind" "[I" : Cond) ∈ wC := List.mem_filter.mpr ⟨List.mem_of_getElem? (i := 682) (by decide +kernel), rfl⟩
theorem wC_683 : (.fieldLink R_MO 13 "NameForgeModel" "first" "[I" : Cond) ∈ wC := List.mem_filter.mpr ⟨List.mem_of_getElem? (i := 683) (by decide +kernel), rfl⟩
theorem wC_684 : (.fieldLink R_MO 16 "NameForgeModel" "second" "[I" : Cond) ∈ wC := List.mem_filter.mpr ⟨List.mem_of_getElem? (i := 684) (by decide +kernel), rfl⟩
theorem wC_685 : (.fieldLink R_MO 19 "NameForgeModel" "third" "[I" : Cond) ∈ wC := List.mem_filter.mpr ⟨List.mem_of_getElem? (i := 685) (by decide +kernel), rfl⟩
theorem wC_686 : (.fieldLink R_MO 22 "NameForgeModel" "body" "[I" : Cond) ∈ wC := List.mem_filter.mpr ⟨List.mem_of_getElem? (i := 686) (by decide +kernel), rfl⟩
theorem wC_687 : (.fieldLink R_MO 25 "NameForgeModel" "takes" "[I" : Cond) ∈ wC := List.mem_filter.mpr ⟨List.mem_of_getElem? (i := 687) (by decide +kernel), rfl⟩
theorem wC_688 : (.fieldLink R_MO 28 "NameForgeModel" "names" "[I" : Cond) ∈ wC := List.mem_filter.mpr ⟨List.mem_of_getElem? (i := 688) (by decide +kernel), rfl⟩
theorem wC_689 : (.fieldLink R_MO 31 "NameForgeModel" "variable" "[D" : Cond) ∈ wC := List.mem_filter.mpr ⟨List.mem_of_getElem? (i := 689) (by decide +kernel), rfl⟩
theorem wC_690 : (.fieldLink R_MO 35 "NameForgeModel" "cell" "[D" : Cond) ∈ wC := List.mem_filter.mpr ⟨List.mem_of_getElem? (i := 690) (by decide +kernel), rfl⟩
theorem wC_691 : (.fieldLink R_MO 105 "NameForgeModel" "many" "I" : Cond) ∈ wC := List.mem_filter.mpr ⟨List.mem_of_getElem? (i := 691) (by decide +kernel), rfl⟩
theorem wC_692 : (.fieldLink R_MO 38 "NameForgeModel" "low" "I" : Cond) ∈ wC := List.mem_filter.mpr ⟨List.mem_of_getElem? (i := 692) (by decide +kernel), rfl⟩
theorem wC_693 : (.fieldLink R_MO 42 "NameForgeModel" "high" "I" : Cond) ∈ wC := List.mem_filter.mpr ⟨List.mem_of_getElem? (i := 693) (by decide +kernel), rfl⟩
theorem wC_694 : (.fieldLink R_MO 45 "NameForgeModel" "low2" "I" : Cond) ∈ wC := List.mem_filter.mpr ⟨List.mem_of_getElem? (i := 694) (by decide +kernel), rfl⟩
theorem wC_695 : (.fieldLink R_MO 48 "NameForgeModel" "high2" "I" : Cond) ∈ wC := List.mem_filter.mpr ⟨List.mem_of_getElem? (i := 695) (by decide +kernel), rfl⟩
theorem wC_696 : (.fieldLink R_MO 96 "NameForgeModel" "thrown" "I" : Cond) ∈ wC := List.mem_filter.mpr ⟨List.mem_of_getElem? (i := 696) (by decide +kernel), rfl⟩
theorem wC_697 : (.fieldLink R_MO 51 "NameForgeModel" "given" "[I" : Cond) ∈ wC := List.mem_filter.mpr ⟨List.mem_of_getElem? (i := 697) (by decide +kernel), rfl⟩
theorem wC_698 : (.fieldLink R_MO 54 "NameForgeModel" "givenIn" "[I" : Cond) ∈ wC := List.mem_filter.mpr ⟨List.mem_of_getElem? (i := 698) (by decide +kernel), rfl⟩
theorem wC_699 : (.fieldLink R_MO 57 "NameForgeModel" "parameters" "[I" : Cond) ∈ wC := List.mem_filter.mpr ⟨List.mem_of_getElem? (i := 699) (by decide +kernel), rfl⟩
theorem wC_700 : (.fieldLink R_MO 60 "NameForgeModel" "byName" "[I" : Cond) ∈ wC := List.mem_filter.mpr ⟨List.mem_of_getElem? (i := 700) (by decide +kernel), rfl⟩
theorem wC_701 : (.fieldLink R_MO 63 "NameForgeModel" "worth" "[D" : Cond) ∈ wC := List.mem_filter.mpr ⟨List.mem_of_getElem? (i := 701) (by decide +kernel), rfl⟩
theorem wC_702 : (.fieldLink R_MO 66 "NameForgeModel" "local" "[D" : Cond) ∈ wC := List.mem_filter.mpr ⟨List.mem_of_getElem? (i := 702) (by decide +kernel), rfl⟩
theorem wC_703 : (.fieldLink R_MO 152 "NameForgeModel" "environments" "I" : Cond) ∈ wC := List.mem_filter.mpr ⟨List.mem_of_getElem? (i := 703) (by decide +kernel), rfl⟩
theorem wC_704 : (.fieldLink R_MO 149 "NameForgeModel" "depth" "I" : Cond) ∈ wC := List.mem_filter.mpr ⟨List.mem_of_getElem? (i := 704) (by decide +kernel), rfl⟩
theorem wC_705 : (.fieldLink R_MO 69 "NameForgeModel" "node" "[I" : Cond) ∈ wC := List.mem_filter.mpr ⟨List.mem_of_getElem? (i := 705) (by decide +kernel), rfl⟩
theorem wC_706 : (.fieldLink R_MO 72 "NameForgeModel" "in" "[I" : Cond) ∈ wC := List.mem_filter.mpr ⟨List.mem_of_getElem? (i := 706) (by decide +kernel), rfl⟩
theorem wC_707 : (.fieldLink R_MO 75 "NameForgeModel" "stage" "[I" : Cond) ∈ wC := List.mem_filter.mpr ⟨List.mem_of_getElem? (i := 707) (by decide +kernel), rfl⟩
theorem wC_708 : (.fieldLink R_MO 78 "NameForgeModel" "depthAt" "[I" : Cond) ∈ wC := List.mem_filter.mpr ⟨List.mem_of_getElem? (i := 708) (by decide +kernel), rfl⟩
theorem wC_709 : (.fieldLink R_MO 81 "NameForgeModel" "environmentsAt" "[I" : Cond) ∈ wC := List.mem_filter.mpr ⟨List.mem_of_getElem? (i := 709) (by decide +kernel), rfl⟩
theorem wC_710 : (.fieldLink R_MO 84 "NameForgeModel" "goal" "[I" : Cond) ∈ wC := List.mem_filter.mpr ⟨List.mem_of_getElem? (i := 710) (by decide +kernel), rfl⟩
theorem wC_711 : (.fieldLink R_MO 87 "NameForgeModel" "goalIn" "[I" : Cond) ∈ wC := List.mem_filter.mpr ⟨List.mem_of_getElem? (i := 711) (by decide +kernel), rfl⟩
theorem wC_712 : (.fieldLink R_MO 90 "NameForgeModel" "one" "[D" : Cond) ∈ wC := List.mem_filter.mpr ⟨List.mem_of_getElem? (i := 712) (by decide +kernel), rfl⟩
theorem wC_713 : (.fieldLink R_MO 93 "NameForgeModel" "two" "[D" : Cond) ∈ wC := List.mem_filter.mpr ⟨List.mem_of_getElem? (i := 713) (by decide +kernel), rfl⟩
theorem wC_714 : (.fieldLink R_MO 146 "NameForgeModel" "top" "I" : Cond) ∈ wC := List.mem_filter.mpr ⟨List.mem_of_getElem? (i := 714) (by decide +kernel), rfl⟩
theorem wC_715 : (.fieldLink R_MO 139 "NameForgeModel" "done" "I" : Cond) ∈ wC := List.mem_filter.mpr ⟨List.mem_of_getElem? (i := 715) (by decide +kernel), rfl⟩
theorem wC_716 : (.fieldLink R_MO 136 "NameForgeModel" "fault" "I" : Cond) ∈ wC := List.mem_filter.mpr ⟨List.mem_of_getElem? (i := 716) (by decide +kernel), rfl⟩
theorem wC_717 : (.fieldLink R_MO 187 "NameForgeModel" "calls" "I" : Cond) ∈ wC := List.mem_filter.mpr ⟨List.mem_of_getElem? (i := 717) (by decide +kernel), rfl⟩
theorem wC_718 : (.fieldLink R_MO 155 "NameForgeModel" "most" "I" : Cond) ∈ wC := List.mem_filter.mpr ⟨List.mem_of_getElem? (i := 718) (by decide +kernel), rfl⟩
theorem wC_719 : (.fieldLink R_MO 199 "NameForgeModel" "jumps" "I" : Cond) ∈ wC := List.mem_filter.mpr ⟨List.mem_of_getElem? (i := 719) (by decide +kernel), rfl⟩
theorem wC_720 : (.fieldLink R_MO 158 "NameForgeModel" "value" "D" : Cond) ∈ wC := List.mem_filter.mpr ⟨List.mem_of_getElem? (i := 720) (by decide +kernel), rfl⟩
theorem wC_800 : (.methodLink R_LW 89 y_MO_thrown : Cond) ∈ wC := List.mem_filter.mpr ⟨List.mem_of_getElem? (i := 800) (by decide +kernel), rfl⟩
theorem wC_801 : (.instanceMethod y_MO_thrown : Cond) ∈ wC := List.mem_filter.mpr ⟨List.mem_of_getElem? (i := 801) (by decide +kernel), rfl⟩
theorem wC_802 : (.selects R_MO y_MO_thrown y_MO_thrown : Cond) ∈ wC := List.mem_filter.mpr ⟨List.mem_of_getElem? (i := 802) (by decide +kernel), rfl⟩
set_option maxRecDepth 100000 in
theorem wC_803 : (.code y_MO_thrown b_MO_thrown 1 (some .int) : Cond) ∈ wC := List.mem_filter.mpr ⟨List.mem_of_getElem? (i := 803) rfl, rfl⟩
theorem wC_804 : (.methodLink R_LW 64 y_MO_make : Cond) ∈ wC := List.mem_filter.mpr ⟨List.mem_of_getElem? (i := 804) (by decide +kernel), rfl⟩
theorem wC_805 : (.instanceMethod y_MO_make : Cond) ∈ wC := List.mem_filter.mpr ⟨List.mem_of_getElem? (i := 805) (by decide +kernel), rfl⟩
theorem wC_806 : (.selects R_MO y_MO_make y_MO_make : Cond) ∈ wC := List.mem_filter.mpr ⟨List.mem_of_getElem? (i := 806) (by decide +kernel), rfl⟩
set_option maxRecDepth 100000 in
theorem wC_807 : (.code y_MO_make b_MO_make 7 (some .int) : Cond) ∈ wC := List.mem_filter.mpr ⟨List.mem_of_getElem? (i := 807) rfl, rfl⟩
theorem wC_808 : (.methodLink R_MO 116 y_MO_fits : Cond) ∈ wC := List.mem_filter.mpr ⟨List.mem_of_getElem? (i := 808) (by decide +kernel), rfl⟩
theorem wC_810 : (.instanceMethod y_MO_fits : Cond) ∈ wC := List.mem_filter.mpr ⟨List.mem_of_getElem? (i := 810) (by decide +kernel), rfl⟩
set_option maxRecDepth 100000 in
theorem wC_811 : (.code y_MO_fits b_MO_fits 5 (some .boolean) : Cond) ∈ wC := List.mem_filter.mpr ⟨List.mem_of_getElem? (i := 811) rfl, rfl⟩
theorem wC_812 : (.methodLink R_MO 108 y_MO_within : Cond) ∈ wC := List.mem_filter.mpr ⟨List.mem_of_getElem? (i := 812) (by decide +kernel), rfl⟩
theorem wC_813 : (.static y_MO_within : Cond) ∈ wC := List.mem_filter.mpr ⟨List.mem_of_getElem? (i := 813) (by decide +kernel), rfl⟩
set_option maxRecDepth 100000 in
theorem wC_814 : (.code y_MO_within b_MO_within 3 (some .boolean) : Cond) ∈ wC := List.mem_filter.mpr ⟨List.mem_of_getElem? (i := 814) rfl, rfl⟩
theorem wC_815 : (.methodLink R_MO 112 y_MO_isNode : Cond) ∈ wC := List.mem_filter.mpr ⟨List.mem_of_getElem? (i := 815) (by decide +kernel), rfl⟩
theorem wC_817 : (.instanceMethod y_MO_isNode : Cond) ∈ wC := List.mem_filter.mpr ⟨List.mem_of_getElem? (i := 817) (by decide +kernel), rfl⟩
set_option maxRecDepth 100000 in
theorem wC_818 : (.code y_MO_isNode b_MO_isNode 2 (some .boolean) : Cond) ∈ wC := List.mem_filter.mpr ⟨List.mem_of_getElem? (i := 818) rfl, rfl⟩
theorem wC_819 : (.methodLink R_MO 120 y_MO_fail : Cond) ∈ wC := List.mem_filter.mpr ⟨List.mem_of_getElem? (i := 819) (by decide +kernel), rfl⟩
theorem wC_821 : (.instanceMethod y_MO_fail : Cond) ∈ wC := List.mem_filter.mpr ⟨List.mem_of_getElem? (i := 821) (by decide +kernel), rfl⟩
set_option maxRecDepth 100000 in
theorem wC_822 : (.code y_MO_fail b_MO_fail 2 (some .int) : Cond) ∈ wC := List.mem_filter.mpr ⟨List.mem_of_getElem? (i := 822) rfl, rfl⟩
theorem wC_823 : (.methodLink R_LW 68 y_MO_procedure : Cond) ∈ wC := List.mem_filter.mpr ⟨List.mem_of_getElem? (i := 823) (by decide +kernel), rfl⟩
theorem wC_824 : (.instanceMethod y_MO_procedure : Cond) ∈ wC := List.mem_filter.mpr ⟨List.mem_of_getElem? (i := 824) (by decide +kernel), rfl⟩
theorem wC_825 : (.selects R_MO y_MO_procedure y_MO_procedure : Cond) ∈ wC := List.mem_filter.mpr ⟨List.mem_of_getElem? (i := 825) (by decide +kernel), rfl⟩
set_option maxRecDepth 100000 in
theorem wC_826 : (.code y_MO_procedure b_MO_procedure 5 none : Cond) ∈ wC := List.mem_filter.mpr ⟨List.mem_of_getElem? (i := 826) rfl, rfl⟩
theorem wC_827 : (.methodLink R_LW 71 y_MO_bounds : Cond) ∈ wC := List.mem_filter.mpr ⟨List.mem_of_getElem? (i := 827) (by decide +kernel), rfl⟩
theorem wC_828 : (.instanceMethod y_MO_bounds : Cond) ∈ wC := List.mem_filter.mpr ⟨List.mem_of_getElem? (i := 828) (by decide +kernel), rfl⟩
theorem wC_829 : (.selects R_MO y_MO_bounds y_MO_bounds : Cond) ∈ wC := List.mem_filter.mpr ⟨List.mem_of_getElem? (i := 829) (by decide +kernel), rfl⟩
set_option maxRecDepth 100000 in
theorem wC_830 : (.code y_MO_bounds b_MO_bounds 6 (some .int) : Cond) ∈ wC := List.mem_filter.mpr ⟨List.mem_of_getElem? (i := 830) rfl, rfl⟩
theorem wC_831 : (.methodLink R_MO 124 y_MO_isRange : Cond) ∈ wC := List.mem_filter.mpr ⟨List.mem_of_getElem? (i := 831) (by decide +kernel), rfl⟩
theorem wC_832 : (.static y_MO_isRange : Cond) ∈ wC := List.mem_filter.mpr ⟨List.mem_of_getElem? (i := 832) (by decide +kernel), rfl⟩
set_option maxRecDepth 100000 in
theorem wC_833 : (.code y_MO_isRange b_MO_isRange 2 (some .boolean) : Cond) ∈ wC := List.mem_filter.mpr ⟨List.mem_of_getElem? (i := 833) rfl, rfl⟩
theorem wC_834 : (.methodLink R_LW 77 y_MO_put : Cond) ∈ wC := List.mem_filter.mpr ⟨List.mem_of_getElem? (i := 834) (by decide +kernel), rfl⟩
theorem wC_835 : (.instanceMethod y_MO_put : Cond) ∈ wC := List.mem_filter.mpr ⟨List.mem_of_getElem? (i := 835) (by decide +kernel), rfl⟩
theorem wC_836 : (.selects R_MO y_MO_put y_MO_put : Cond) ∈ wC := List.mem_filter.mpr ⟨List.mem_of_getElem? (i := 836) (by decide +kernel), rfl⟩
set_option maxRecDepth 100000 in
theorem wC_837 : (.code y_MO_put b_MO_put 6 (some .double) : Cond) ∈ wC := List.mem_filter.mpr ⟨List.mem_of_getElem? (i := 837) rfl, rfl⟩
theorem wC_838 : (.methodLink R_MO 128 y_MO_isGood : Cond) ∈ wC := List.mem_filter.mpr ⟨List.mem_of_getElem? (i := 838) (by decide +kernel), rfl⟩
theorem wC_839 : (.static y_MO_isGood : Cond) ∈ wC := List.mem_filter.mpr ⟨List.mem_of_getElem? (i := 839) (by decide +kernel), rfl⟩
set_option maxRecDepth 100000 in
theorem wC_840 : (.code y_MO_isGood b_MO_isGood 2 (some .boolean) : Cond) ∈ wC := List.mem_filter.mpr ⟨List.mem_of_getElem? (i := 840) rfl, rfl⟩
theorem wC_841 : (.constantDouble R_MO 101 4741671816366391296 : Cond) ∈ wC := List.mem_filter.mpr ⟨List.mem_of_getElem? (i := 841) (by decide +kernel), rfl⟩
theorem wC_842 : (.constantDouble R_MO 103 13965043853221167104 : Cond) ∈ wC := List.mem_filter.mpr ⟨List.mem_of_getElem? (i := 842) (by decide +kernel), rfl⟩
theorem wC_843 : (.methodLink R_MO 132 y_MO_round : Cond) ∈ wC := List.mem_filter.mpr ⟨List.mem_of_getElem? (i := 843) (by decide +kernel), rfl⟩
theorem wC_844 : (.static y_MO_round : Cond) ∈ wC := List.mem_filter.mpr ⟨List.mem_of_getElem? (i := 844) (by decide +kernel), rfl⟩
set_option maxRecDepth 100000 in
theorem wC_845 : (.code y_MO_round b_MO_round 6 (some .double) : Cond) ∈ wC := List.mem_filter.mpr ⟨List.mem_of_getElem? (i := 845) rfl, rfl⟩
theorem wC_846 : (.constantDouble R_MO 99 4602678819172646912 : Cond) ∈ wC := List.mem_filter.mpr ⟨List.mem_of_getElem? (i := 846) (by decide +kernel), rfl⟩
theorem wC_847 : (.methodLink R_LW 81 y_MO_work : Cond) ∈ wC := List.mem_filter.mpr ⟨List.mem_of_getElem? (i := 847) (by decide +kernel), rfl⟩
theorem wC_848 : (.instanceMethod y_MO_work : Cond) ∈ wC := List.mem_filter.mpr ⟨List.mem_of_getElem? (i := 848) (by decide +kernel), rfl⟩
theorem wC_849 : (.selects R_MO y_MO_work y_MO_work : Cond) ∈ wC := List.mem_filter.mpr ⟨List.mem_of_getElem? (i := 849) (by decide +kernel), rfl⟩
set_option maxRecDepth 100000 in
theorem wC_850 : (.code y_MO_work b_MO_work 3 (some .double) : Cond) ∈ wC := List.mem_filter.mpr ⟨List.mem_of_getElem? (i := 850) rfl, rfl⟩
theorem wC_851 : (.methodLink R_MO 166 y_MO_enter : Cond) ∈ wC := List.mem_filter.mpr ⟨List.mem_of_getElem? (i := 851) (by decide +kernel), rfl⟩
theorem wC_853 : (.instanceMethod y_MO_enter : Cond) ∈ wC := List.mem_filter.mpr ⟨List.mem_of_getElem? (i := 853) (by decide +kernel), rfl⟩
set_option maxRecDepth 100000 in
theorem wC_854 : (.code y_MO_enter b_MO_enter 3 none : Cond) ∈ wC := List.mem_filter.mpr ⟨List.mem_of_getElem? (i := 854) rfl, rfl⟩
theorem wC_855 : (.methodLink R_MO 142 y_MO_wrong : Cond) ∈ wC := List.mem_filter.mpr ⟨List.mem_of_getElem? (i := 855) (by decide +kernel), rfl⟩
theorem wC_857 : (.instanceMethod y_MO_wrong : Cond) ∈ wC := List.mem_filter.mpr ⟨List.mem_of_getElem? (i := 857) (by decide +kernel), rfl⟩
set_option maxRecDepth 100000 in
theorem wC_858 : (.code y_MO_wrong b_MO_wrong 2 none : Cond) ∈ wC := List.mem_filter.mpr ⟨List.mem_of_getElem? (i := 858) rfl, rfl⟩
theorem wC_859 : (.methodLink R_MO 222 y_MO_step : Cond) ∈ wC := List.mem_filter.mpr ⟨List.mem_of_getElem? (i := 859) (by decide +kernel), rfl⟩
theorem wC_861 : (.instanceMethod y_MO_step : Cond) ∈ wC := List.mem_filter.mpr ⟨List.mem_of_getElem? (i := 861) (by decide +kernel), rfl⟩
set_option maxRecDepth 100000 in
theorem wC_862 : (.code y_MO_step b_MO_step 6 none : Cond) ∈ wC := List.mem_filter.mpr ⟨List.mem_of_getElem? (i := 862) rfl, rfl⟩
theorem wC_863 : (.constantDouble R_MO 202 4620693217682128896 : Cond) ∈ wC := List.mem_filter.mpr ⟨List.mem_of_getElem? (i := 863) (by decide +kernel), rfl⟩
theorem wC_864 : (.methodLink R_MO 162 y_MO_end : Cond) ∈ wC := List.mem_filter.mpr ⟨List.mem_of_getElem? (i := 864) (by decide +kernel), rfl⟩
theorem wC_866 : (.instanceMethod y_MO_end : Cond) ∈ wC := List.mem_filter.mpr ⟨List.mem_of_getElem? (i := 866) (by decide +kernel), rfl⟩
set_option maxRecDepth 100000 in
theorem wC_867 : (.code y_MO_end b_MO_end 3 none : Cond) ∈ wC := List.mem_filter.mpr ⟨List.mem_of_getElem? (i := 867) rfl, rfl⟩
theorem wC_868 : (.methodLink R_MO 204 y_MO_parameter : Cond) ∈ wC := List.mem_filter.mpr ⟨List.mem_of_getElem? (i := 868) (by decide +kernel), rfl⟩
theorem wC_870 : (.instanceMethod y_MO_parameter : Cond) ∈ wC := List.mem_filter.mpr ⟨List.mem_of_getElem? (i := 870) (by decide +kernel), rfl⟩
set_option maxRecDepth 100000 in
theorem wC_871 : (.code y_MO_parameter b_MO_parameter 4 none : Cond) ∈ wC := List.mem_filter.mpr ⟨List.mem_of_getElem? (i := 871) rfl, rfl⟩
theorem wC_872 : (.methodLink R_MO 178 y_MO_isThere : Cond) ∈ wC := List.mem_filter.mpr ⟨List.mem_of_getElem? (i := 872) (by decide +kernel), rfl⟩
theorem wC_874 : (.instanceMethod y_MO_isThere : Cond) ∈ wC := List.mem_filter.mpr ⟨List.mem_of_getElem? (i := 874) (by decide +kernel), rfl⟩
set_option maxRecDepth 100000 in
theorem wC_875 : (.code y_MO_isThere b_MO_isThere 3 (some .boolean) : Cond) ∈ wC := List.mem_filter.mpr ⟨List.mem_of_getElem? (i := 875) rfl, rfl⟩
theorem wC_876 : (.methodLink R_MO 181 y_MO_isName : Cond) ∈ wC := List.mem_filter.mpr ⟨List.mem_of_getElem? (i := 876) (by decide +kernel), rfl⟩
theorem wC_878 : (.instanceMethod y_MO_isName : Cond) ∈ wC := List.mem_filter.mpr ⟨List.mem_of_getElem? (i := 878) (by decide +kernel), rfl⟩
set_option maxRecDepth 100000 in
theorem wC_879 : (.code y_MO_isName b_MO_isName 3 (some .boolean) : Cond) ∈ wC := List.mem_filter.mpr ⟨List.mem_of_getElem? (i := 879) rfl, rfl⟩
theorem wC_880 : (.methodLink R_MO 184 y_MO_deeper : Cond) ∈ wC := List.mem_filter.mpr ⟨List.mem_of_getElem? (i := 880) (by decide +kernel), rfl⟩
theorem wC_882 : (.instanceMethod y_MO_deeper : Cond) ∈ wC := List.mem_filter.mpr ⟨List.mem_of_getElem? (i := 882) (by decide +kernel), rfl⟩
set_option maxRecDepth 100000 in
theorem wC_883 : (.code y_MO_deeper b_MO_deeper 1 none : Cond) ∈ wC := List.mem_filter.mpr ⟨List.mem_of_getElem? (i := 883) rfl, rfl⟩
theorem wC_884 : (.methodLink R_MO 207 y_MO_call : Cond) ∈ wC := List.mem_filter.mpr ⟨List.mem_of_getElem? (i := 884) (by decide +kernel), rfl⟩
theorem wC_886 : (.instanceMethod y_MO_call : Cond) ∈ wC := List.mem_filter.mpr ⟨List.mem_of_getElem? (i := 886) (by decide +kernel), rfl⟩
set_option maxRecDepth 100000 in
theorem wC_887 : (.code y_MO_call b_MO_call 7 none : Cond) ∈ wC := List.mem_filter.mpr ⟨List.mem_of_getElem? (i := 887) rfl, rfl⟩
theorem wC_888 : (.methodLink R_MO 210 y_MO_set : Cond) ∈ wC := List.mem_filter.mpr ⟨List.mem_of_getElem? (i := 888) (by decide +kernel), rfl⟩
theorem wC_890 : (.instanceMethod y_MO_set : Cond) ∈ wC := List.mem_filter.mpr ⟨List.mem_of_getElem? (i := 890) (by decide +kernel), rfl⟩
set_option maxRecDepth 100000 in
theorem wC_891 : (.code y_MO_set b_MO_set 4 none : Cond) ∈ wC := List.mem_filter.mpr ⟨List.mem_of_getElem? (i := 891) rfl, rfl⟩
theorem wC_892 : (.methodLink R_MO 190 y_MO_isGoal : Cond) ∈ wC := List.mem_filter.mpr ⟨List.mem_of_getElem? (i := 892) (by decide +kernel), rfl⟩
theorem wC_893 : (.static y_MO_isGoal : Cond) ∈ wC := List.mem_filter.mpr ⟨List.mem_of_getElem? (i := 893) (by decide +kernel), rfl⟩
set_option maxRecDepth 100000 in
theorem wC_894 : (.code y_MO_isGoal b_MO_isGoal 1 (some .boolean) : Cond) ∈ wC := List.mem_filter.mpr ⟨List.mem_of_getElem? (i := 894) rfl, rfl⟩
theorem wC_895 : (.methodLink R_MO 193 y_MO_follow : Cond) ∈ wC := List.mem_filter.mpr ⟨List.mem_of_getElem? (i := 895) (by decide +kernel), rfl⟩
theorem wC_897 : (.instanceMethod y_MO_follow : Cond) ∈ wC := List.mem_filter.mpr ⟨List.mem_of_getElem? (i := 897) (by decide +kernel), rfl⟩
set_option maxRecDepth 100000 in
theorem wC_898 : (.code y_MO_follow b_MO_follow 4 none : Cond) ∈ wC := List.mem_filter.mpr ⟨List.mem_of_getElem? (i := 898) rfl, rfl⟩
theorem wC_899 : (.methodLink R_MO 196 y_MO_become : Cond) ∈ wC := List.mem_filter.mpr ⟨List.mem_of_getElem? (i := 899) (by decide +kernel), rfl⟩
theorem wC_901 : (.instanceMethod y_MO_become : Cond) ∈ wC := List.mem_filter.mpr ⟨List.mem_of_getElem? (i := 901) (by decide +kernel), rfl⟩
set_option maxRecDepth 100000 in
theorem wC_902 : (.code y_MO_become b_MO_become 7 none : Cond) ∈ wC := List.mem_filter.mpr ⟨List.mem_of_getElem? (i := 902) rfl, rfl⟩
theorem wC_903 : (.methodLink R_MO 174 y_MO_place : Cond) ∈ wC := List.mem_filter.mpr ⟨List.mem_of_getElem? (i := 903) (by decide +kernel), rfl⟩
theorem wC_905 : (.instanceMethod y_MO_place : Cond) ∈ wC := List.mem_filter.mpr ⟨List.mem_of_getElem? (i := 905) (by decide +kernel), rfl⟩
set_option maxRecDepth 100000 in
theorem wC_906 : (.code y_MO_place b_MO_place 5 (some .int) : Cond) ∈ wC := List.mem_filter.mpr ⟨List.mem_of_getElem? (i := 906) rfl, rfl⟩
theorem wC_907 : (.methodLink R_MO 213 y_MO_repeat : Cond) ∈ wC := List.mem_filter.mpr ⟨List.mem_of_getElem? (i := 907) (by decide +kernel), rfl⟩
theorem wC_909 : (.instanceMethod y_MO_repeat : Cond) ∈ wC := List.mem_filter.mpr ⟨List.mem_of_getElem? (i := 909) (by decide +kernel), rfl⟩
set_option maxRecDepth 100000 in
theorem wC_910 : (.code y_MO_repeat b_MO_repeat 3 none : Cond) ∈ wC := List.mem_filter.mpr ⟨List.mem_of_getElem? (i := 910) rfl, rfl⟩
theorem wC_911 : (.methodLink R_MO 216 y_MO_jump : Cond) ∈ wC := List.mem_filter.mpr ⟨List.mem_of_getElem? (i := 911) (by decide +kernel), rfl⟩
theorem wC_913 : (.instanceMethod y_MO_jump : Cond) ∈ wC := List.mem_filter.mpr ⟨List.mem_of_getElem? (i := 913) (by decide +kernel), rfl⟩
set_option maxRecDepth 100000 in
theorem wC_914 : (.code y_MO_jump b_MO_jump 3 none : Cond) ∈ wC := List.mem_filter.mpr ⟨List.mem_of_getElem? (i := 914) rfl, rfl⟩
theorem wC_915 : (.methodLink R_MO 219 y_MO_pair : Cond) ∈ wC := List.mem_filter.mpr ⟨List.mem_of_getElem? (i := 915) (by decide +kernel), rfl⟩
theorem wC_917 : (.instanceMethod y_MO_pair : Cond) ∈ wC := List.mem_filter.mpr ⟨List.mem_of_getElem? (i := 917) (by decide +kernel), rfl⟩
set_option maxRecDepth 100000 in
theorem wC_918 : (.code y_MO_pair b_MO_pair 5 none : Cond) ∈ wC := List.mem_filter.mpr ⟨List.mem_of_getElem? (i := 918) rfl, rfl⟩
theorem wC_919 : (.methodLink R_MO 170 y_MO_sum : Cond) ∈ wC := List.mem_filter.mpr ⟨List.mem_of_getElem? (i := 919) (by decide +kernel), rfl⟩
theorem wC_921 : (.instanceMethod y_MO_sum : Cond) ∈ wC := List.mem_filter.mpr ⟨List.mem_of_getElem? (i := 921) (by decide +kernel), rfl⟩
set_option maxRecDepth 100000 in
theorem wC_922 : (.code y_MO_sum b_MO_sum 12 none : Cond) ∈ wC := List.mem_filter.mpr ⟨List.mem_of_getElem? (i := 922) rfl, rfl⟩
theorem wC_923 : (.methodLink R_LW 84 y_MO_variable : Cond) ∈ wC := List.mem_filter.mpr ⟨List.mem_of_getElem? (i := 923) (by decide +kernel), rfl⟩
theorem wC_924 : (.instanceMethod y_MO_variable : Cond) ∈ wC := List.mem_filter.mpr ⟨List.mem_of_getElem? (i := 924) (by decide +kernel), rfl⟩
theorem wC_925 : (.selects R_MO y_MO_variable y_MO_variable : Cond) ∈ wC := List.mem_filter.mpr ⟨List.mem_of_getElem? (i := 925) (by decide +kernel), rfl⟩
set_option maxRecDepth 100000 in
theorem wC_926 : (.code y_MO_variable b_MO_variable 2 (some .double) : Cond) ∈ wC := List.mem_filter.mpr ⟨List.mem_of_getElem? (i := 926) rfl, rfl⟩
theorem wC_927 : (.methodLink R_LW 88 y_MO_element : Cond) ∈ wC := List.mem_filter.mpr ⟨List.mem_of_getElem? (i := 927) (by decide +kernel), rfl⟩
theorem wC_928 : (.instanceMethod y_MO_element : Cond) ∈ wC := List.mem_filter.mpr ⟨List.mem_of_getElem? (i := 928) (by decide +kernel), rfl⟩
theorem wC_929 : (.selects R_MO y_MO_element y_MO_element : Cond) ∈ wC := List.mem_filter.mpr ⟨List.mem_of_getElem? (i := 929) (by decide +kernel), rfl⟩
set_option maxRecDepth 100000 in
theorem wC_930 : (.code y_MO_element b_MO_element 4 (some .double) : Cond) ∈ wC := List.mem_filter.mpr ⟨List.mem_of_getElem? (i := 930) rfl, rfl⟩
theorem wC_931 : (.methodLink R_LW 96 y_MO_node : Cond) ∈ wC := List.mem_filter.mpr ⟨List.mem_of_getElem? (i := 931) (by decide +kernel), rfl⟩
theorem wC_932 : (.instanceMethod y_MO_node : Cond) ∈ wC := List.mem_filter.mpr ⟨List.mem_of_getElem? (i := 932) (by decide +kernel), rfl⟩
theorem wC_933 : (.selects R_MO y_MO_node y_MO_node : Cond) ∈ wC := List.mem_filter.mpr ⟨List.mem_of_getElem? (i := 933) (by decide +kernel), rfl⟩
set_option maxRecDepth 100000 in
theorem wC_934 : (.code y_MO_node b_MO_node 4 (some .int) : Cond) ∈ wC := List.mem_filter.mpr ⟨List.mem_of_getElem? (i := 934) rfl, rfl⟩
theorem wC_935 : (.methodLink R_LW 100 y_MO_clear : Cond) ∈ wC := List.mem_filter.mpr ⟨List.mem_of_getElem? (i := 935) (by decide +kernel), rfl⟩
theorem wC_936 : (.instanceMethod y_MO_clear : Cond) ∈ wC := List.mem_filter.mpr ⟨List.mem_of_getElem? (i := 936) (by decide +kernel), rfl⟩
theorem wC_937 : (.selects R_MO y_MO_clear y_MO_clear : Cond) ∈ wC := List.mem_filter.mpr ⟨List.mem_of_getElem? (i := 937) (by decide +kernel), rfl⟩
set_option maxRecDepth 100000 in
theorem wC_938 : (.code y_MO_clear b_MO_clear 3 (some .int) : Cond) ∈ wC := List.mem_filter.mpr ⟨List.mem_of_getElem? (i := 938) rfl, rfl⟩
theorem wC_939 : (.methodLink R_LW 104 y_MO_count : Cond) ∈ wC := List.mem_filter.mpr ⟨List.mem_of_getElem? (i := 939) (by decide +kernel), rfl⟩
theorem wC_940 : (.instanceMethod y_MO_count : Cond) ∈ wC := List.mem_filter.mpr ⟨List.mem_of_getElem? (i := 940) (by decide +kernel), rfl⟩
theorem wC_941 : (.selects R_MO y_MO_count y_MO_count : Cond) ∈ wC := List.mem_filter.mpr ⟨List.mem_of_getElem? (i := 941) (by decide +kernel), rfl⟩
set_option maxRecDepth 100000 in
theorem wC_942 : (.code y_MO_count b_MO_count 2 (some .int) : Cond) ∈ wC := List.mem_filter.mpr ⟨List.mem_of_getElem? (i := 942) rfl, rfl⟩
theorem wC_943 : (.constantDouble R_LW 72 4593671619917905920 : Cond) ∈ wC := List.mem_filter.mpr ⟨List.mem_of_getElem? (i := 943) (by decide +kernel), rfl⟩
def wN : List Cond := [.methodLinkNest R_NF 18 y_ST_init "NameForge", .methodLinkNest R_WK 11 y_EN_init "NameForge", .methodLinkNest R_PR 43 y_NF_isBelow "NameForge", .castable "java/lang/IllegalArgumentException" "java/lang/IllegalArgumentException", .declares ⟨"java/lang/RuntimeException", "<init>", "(Ljava/lang/String;)V"⟩, .declares ⟨"java/lang/Exception", "<init>", "(Ljava/lang/String;)V"⟩, .declares ⟨"java/lang/Throwable", "<init>", "(Ljava/lang/String;)V"⟩, .castable "java/lang/IllegalStateException" "java/lang/IllegalStateException", .methodLinkNest R_ST 37 y_NF_rounded "NameForge", .methodLinkNest R_WK 130 y_NF_rounded "NameForge", .methodLinkNest R_WK 156 y_NF_isWithinSize "NameForge", .castable "java/lang/ArithmeticException" "java/lang/ArithmeticException", .castable "java/lang/IndexOutOfBoundsException" "java/lang/IndexOutOfBoundsException", .castable "java/lang/UnsupportedOperationException" "java/lang/UnsupportedOperationException", .castable "java/util/NoSuchElementException" "java/util/NoSuchElementException"]
theorem wN_118 : (.methodLinkNest R_NF 18 y_ST_init "NameForge" : Cond) ∈ wN := List.mem_of_getElem? (i := 0) rfl
theorem wN_154 : (.methodLinkNest R_WK 11 y_EN_init "NameForge" : Cond) ∈ wN := List.mem_of_getElem? (i := 1) rfl
theorem wN_258 : (.methodLinkNest R_PR 43 y_NF_isBelow "NameForge" : Cond) ∈ wN := List.mem_of_getElem? (i := 2) rfl
theorem wN_277 : (.castable "java/lang/IllegalArgumentException" "java/lang/IllegalArgumentException" : Cond) ∈ wN := List.mem_of_getElem? (i := 3) rfl
theorem wN_279 : (.declares ⟨"java/lang/RuntimeException", "<init>", "(Ljava/lang/String;)V"⟩ : Cond) ∈ wN := List.mem_of_getElem? (i := 4) rfl
theorem wN_281 : (.declares ⟨"java/lang/Exception", "<init>", "(Ljava/lang/String;)V"⟩ : Cond) ∈ wN := List.mem_of_getElem? (i := 5) rfl
theorem wN_283 : (.declares ⟨"java/lang/Throwable", "<init>", "(Ljava/lang/String;)V"⟩ : Cond) ∈ wN := List.mem_of_getElem? (i := 6) rfl
theorem wN_348 : (.castable "java/lang/IllegalStateException" "java/lang/IllegalStateException" : Cond) ∈ wN := List.mem_of_getElem? (i := 7) rfl
theorem wN_419 : (.methodLinkNest R_ST 37 y_NF_rounded "NameForge" : Cond) ∈ wN := List.mem_of_getElem? (i := 8) rfl
theorem wN_517 : (.methodLinkNest R_WK 130 y_NF_rounded "NameForge" : Cond) ∈ wN := List.mem_of_getElem? (i := 9) rfl
theorem wN_566 : (.methodLinkNest R_WK 156 y_NF_isWithinSize "NameForge" : Cond) ∈ wN := List.mem_of_getElem? (i := 10) rfl
theorem wN_576 : (.castable "java/lang/ArithmeticException" "java/lang/ArithmeticException" : Cond) ∈ wN := List.mem_of_getElem? (i := 11) rfl
theorem wN_593 : (.castable "java/lang/IndexOutOfBoundsException" "java/lang/IndexOutOfBoundsException" : Cond) ∈ wN := List.mem_of_getElem? (i := 12) rfl
theorem wN_609 : (.castable "java/lang/UnsupportedOperationException" "java/lang/UnsupportedOperationException" : Cond) ∈ wN := List.mem_of_getElem? (i := 13) rfl
theorem wN_625 : (.castable "java/util/NoSuchElementException" "java/util/NoSuchElementException" : Cond) ∈ wN := List.mem_of_getElem? (i := 14) rfl
/-- the nest mates' links -/
def NW (U : State) : Prop := ∀ w ∈ wN, va_Nw w U
theorem wN_form : ∀ w ∈ wN, (∃ (a : String) (i : Nat) (x : MethodName) (h : String), w = .methodLinkNest a i x h) ∨ (∃ x : MethodName, w = .declares x) ∨ ∃ a b : String, w = .castable a b := by
  intro w hw
  simp only [wN, List.mem_cons, List.not_mem_nil, or_false] at hw
  rcases hw with rfl | rfl | rfl | rfl | rfl | rfl | rfl | rfl | rfl | rfl | rfl | rfl | rfl | rfl | rfl <;> first | exact Or.inl ⟨_, _, _, _, rfl⟩ | exact Or.inr (Or.inl ⟨_, rfl⟩) | exact Or.inr (Or.inr ⟨_, _, rfl⟩)
theorem wN_on : ∀ w ∈ wN, w.onTables = true := by
  intro w hw
  rcases wN_form w hw with ⟨a, i, x, y, rfl⟩ | ⟨x, rfl⟩ | ⟨a, b, rfl⟩ <;> rfl
theorem NW.warm {s U : State} (h : NW s) (hW : s.WarmedH U.vm) : NW U := by
  intro w hw
  rcases wN_form w hw with ⟨a, i, x, y, rfl⟩ | ⟨x, rfl⟩ | ⟨a, b, rfl⟩
  · exact va_Nw.warmM hW (h _ hw)
  · exact va_Nw.warmD hW (h _ hw)
  · exact va_Nw.warmC hW (h _ hw)
theorem NW.same {u U : State} (h : NW u) (e : u.vm = U.vm) : NW U := by
  intro w hw
  exact va_Nw.same (wN_on w hw) e (h _ hw)
/-- the class's world holds the state σ -/
abbrev cP (D : va_G) (cs : CI) (ad : Nat → Nat) (σ : CS) (U : State) : Prop := va_P D clA (wd ad (cont ad cs σ) 51) U.heap ∧ va_K D clA (tyC cs) U ∧ NW U
theorem cP_blind {D : va_G} {cs : CI} {ad : Nat → Nat} {σ : CS} {av : List Value} : FrameBlind (va_Pc av (cP D cs ad σ)) :=
  fun a U g mk h => ⟨h.1, h.2.1, va_K.moved (u := U) (U := U.calling g mk a) (Vm.Alike.refl U.vm) h.2.2.1, h.2.2.2.same rfl⟩
theorem good_C {c0 c1 : Cond} (h : c1 ∈ wC) : GoodIn (c0 :: wC) (c1 :: wC) := by
  intro w hw
  have hm : w ∈ wC := by
    rcases List.mem_cons.mp hw with rfl | h1
    · exact h
    · exact h1
  exact ⟨List.mem_cons_of_mem _ hm, wC_good hm⟩
theorem good_V {c0 : Cond} {own C : String} {idx : Nat} {y : MethodName} {c1 : Cond} (h1 : .methodLink own idx y ∈ wC) (h2 : .instanceMethod y ∈ wC) (h3 : .selects C y y ∈ wC) (h4 : .initialized C ∈ wC) (h5 : c1 ∈ wC) : GoodIn (c0 :: wC) (wsV own idx C y (c1 :: wC)) := by
  intro w hw
  have hm : w ∈ wC := by
    simp only [wsV, List.cons_append, List.nil_append, List.mem_cons] at hw
    rcases hw with rfl | rfl | rfl | rfl | rfl | h
    · exact h1
    · exact h2
    · exact h3
    · exact h4
    · exact h5
    · exact h
  exact ⟨List.mem_cons_of_mem _ hm, wC_good hm⟩
theorem good_S {c0 : Cond} {own : String} {idx : Nat} {y : MethodName} {c1 : Cond} (h1 : .methodLink own idx y ∈ wC) (h2 : .static y ∈ wC) (h4 : .initialized y.cls ∈ wC) (h5 : c1 ∈ wC) : GoodIn (c0 :: wC) (va_wsS own idx y (c1 :: wC)) := by
  intro w hw
  have hm : w ∈ wC := by
    simp only [va_wsS, List.cons_append, List.nil_append, List.mem_cons] at hw
    rcases hw with rfl | rfl | rfl | rfl | h
    · exact h1
    · exact h2
    · exact h4
    · exact h5
    · exact h
  exact ⟨List.mem_cons_of_mem _ hm, wC_good hm⟩
