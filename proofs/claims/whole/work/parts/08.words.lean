theorem wq_4_106 : Cond.fieldLink "java/lang/String" 38 "java/lang/String" "COMPACT_STRINGS" "Z" ∈ wg_T := wg_T_of (wg_t4 (List.mem_of_getElem? (i := 106) rfl)) rfl
theorem wq_9_179 : Cond.fieldLink "java/lang/String" 15 "java/lang/String" "coder" "B" ∈ wg_T := wg_T_of (wg_t9 (List.mem_of_getElem? (i := 179) rfl)) rfl
theorem wq_4_122 : Cond.fieldLink "java/lang/String" 1053 "jdk/internal/util/Preconditions" "SIOOBE_FORMATTER" "Ljava/util/function/BiFunction;" ∈ wg_T := wg_T_of (wg_t4 (List.mem_of_getElem? (i := 122) rfl)) rfl
theorem wq_4_124 : Cond.methodLink "java/lang/String" 1059 yJ3_checkIndex_8e157 ∈ wg_T := wg_T_of (wg_t4 (List.mem_of_getElem? (i := 124) rfl)) rfl
theorem wq_4_125 : Cond.static yJ3_checkIndex_8e157 ∈ wg_T := wg_T_of (wg_t4 (List.mem_of_getElem? (i := 125) rfl)) rfl
theorem wq_1_20 : Cond.initialized "jdk/internal/util/Preconditions" ∈ wg_T := wg_T_of (wg_t1 (List.mem_of_getElem? (i := 20) rfl)) rfl
theorem wq_4_126 : Cond.code yJ3_checkIndex_8e157 prog_22_method_11_code 3 (Option.some Jvm.ClassFile.FieldType.int) ∈ wg_T := wg_T_of (wg_t4 (List.mem_of_getElem? (i := 126) rfl)) rfl
theorem wq_4_119 : Cond.methodLink "java/lang/StringLatin1" 9 yJ0_checkIndex_df160 ∈ wg_T := wg_T_of (wg_t4 (List.mem_of_getElem? (i := 119) rfl)) rfl
theorem wq_4_120 : Cond.static yJ0_checkIndex_df160 ∈ wg_T := wg_T_of (wg_t4 (List.mem_of_getElem? (i := 120) rfl)) rfl
theorem wq_1_18 : Cond.initialized "java/lang/String" ∈ wg_T := wg_T_of (wg_t1 (List.mem_of_getElem? (i := 18) rfl)) rfl
theorem wq_4_121 : Cond.code yJ0_checkIndex_df160 prog_17_method_155_code 2 (Option.none : Option Jvm.ClassFile.FieldType) ∈ wg_T := wg_T_of (wg_t4 (List.mem_of_getElem? (i := 121) rfl)) rfl
theorem wq_9_178 : Cond.fieldLink "java/lang/String" 9 "java/lang/String" "value" "[B" ∈ wg_T := wg_T_of (wg_t9 (List.mem_of_getElem? (i := 178) rfl)) rfl
theorem wq_4_102 : Cond.methodLink "java/lang/String" 335 yJ0_coder_7d493 ∈ wg_T := wg_T_of (wg_t4 (List.mem_of_getElem? (i := 102) rfl)) rfl
theorem wq_4_103 : Cond.instanceMethod yJ0_coder_7d493 ∈ wg_T := wg_T_of (wg_t4 (List.mem_of_getElem? (i := 103) rfl)) rfl
theorem wq_4_104 : Cond.selects "java/lang/String" yJ0_coder_7d493 yJ0_coder_7d493 ∈ wg_T := wg_T_of (wg_t4 (List.mem_of_getElem? (i := 104) rfl)) rfl
theorem wq_4_105 : Cond.code yJ0_coder_7d493 prog_17_method_152_code 1 (Option.some Jvm.ClassFile.FieldType.byte) ∈ wg_T := wg_T_of (wg_t4 (List.mem_of_getElem? (i := 105) rfl)) rfl
theorem wq_4_112 : Cond.methodLink "java/lang/String" 492 yJ0_isLatin1_aae02 ∈ wg_T := wg_T_of (wg_t4 (List.mem_of_getElem? (i := 112) rfl)) rfl
theorem wq_4_113 : Cond.instanceMethod yJ0_isLatin1_aae02 ∈ wg_T := wg_T_of (wg_t4 (List.mem_of_getElem? (i := 113) rfl)) rfl
theorem wq_4_114 : Cond.selects "java/lang/String" yJ0_isLatin1_aae02 yJ0_isLatin1_aae02 ∈ wg_T := wg_T_of (wg_t4 (List.mem_of_getElem? (i := 114) rfl)) rfl
theorem wq_4_115 : Cond.code yJ0_isLatin1_aae02 prog_17_method_154_code 1 (Option.some Jvm.ClassFile.FieldType.boolean) ∈ wg_T := wg_T_of (wg_t4 (List.mem_of_getElem? (i := 115) rfl)) rfl
theorem wq_4_116 : Cond.methodLink "java/lang/String" 495 yJ1_charAt_3b067 ∈ wg_T := wg_T_of (wg_t4 (List.mem_of_getElem? (i := 116) rfl)) rfl
theorem wq_4_117 : Cond.static yJ1_charAt_3b067 ∈ wg_T := wg_T_of (wg_t4 (List.mem_of_getElem? (i := 117) rfl)) rfl
theorem wq_1_19 : Cond.initialized "java/lang/StringLatin1" ∈ wg_T := wg_T_of (wg_t1 (List.mem_of_getElem? (i := 19) rfl)) rfl
theorem wq_4_118 : Cond.code yJ1_charAt_3b067 prog_18_method_2_code 2 (Option.some Jvm.ClassFile.FieldType.char) ∈ wg_T := wg_T_of (wg_t4 (List.mem_of_getElem? (i := 118) rfl)) rfl
theorem wq_3_36 : Cond.methodLink "WornWigsLaw" 13 yX11_state ∈ wg_T := wg_T_of (wg_t3 (List.mem_of_getElem? (i := 36) rfl)) rfl
theorem wq_3_37 : Cond.instanceMethod yX11_state ∈ wg_T := wg_T_of (wg_t3 (List.mem_of_getElem? (i := 37) rfl)) rfl
theorem wq_3_38 : Cond.selects "WornWigs" yX11_state yX11_state ∈ wg_T := wg_T_of (wg_t3 (List.mem_of_getElem? (i := 38) rfl)) rfl
theorem wq_1_1 : Cond.initialized "WornWigs" ∈ wg_T := wg_T_of (wg_t1 (List.mem_of_getElem? (i := 1) rfl)) rfl
theorem wq_3_39 : Cond.code yX11_state prog_1_method_2_code 3 (Option.some Jvm.ClassFile.FieldType.int) ∈ wg_T := wg_T_of (wg_t3 (List.mem_of_getElem? (i := 39) rfl)) rfl
theorem wq_7_74 : Cond.methodLink "WornWigsLaw" 17 yX12_state ∈ wg_T := wg_T_of (wg_t7 (List.mem_of_getElem? (i := 74) rfl)) rfl
theorem wq_7_75 : Cond.instanceMethod yX12_state ∈ wg_T := wg_T_of (wg_t7 (List.mem_of_getElem? (i := 75) rfl)) rfl
theorem wq_7_76 : Cond.selects "WornWigsModel" yX12_state yX12_state ∈ wg_T := wg_T_of (wg_t7 (List.mem_of_getElem? (i := 76) rfl)) rfl
theorem wq_1_14 : Cond.initialized "WornWigsModel" ∈ wg_T := wg_T_of (wg_t1 (List.mem_of_getElem? (i := 14) rfl)) rfl
theorem wq_7_77 : Cond.code yX12_state prog_14_method_14_code 3 (Option.some Jvm.ClassFile.FieldType.int) ∈ wg_T := wg_T_of (wg_t7 (List.mem_of_getElem? (i := 77) rfl)) rfl
theorem wq_3_44 : Cond.methodLink "WornWigsLaw" 18 yX11_wig ∈ wg_T := wg_T_of (wg_t3 (List.mem_of_getElem? (i := 44) rfl)) rfl
theorem wq_3_45 : Cond.instanceMethod yX11_wig ∈ wg_T := wg_T_of (wg_t3 (List.mem_of_getElem? (i := 45) rfl)) rfl
theorem wq_3_46 : Cond.selects "WornWigs" yX11_wig yX11_wig ∈ wg_T := wg_T_of (wg_t3 (List.mem_of_getElem? (i := 46) rfl)) rfl
theorem wq_3_47 : Cond.code yX11_wig prog_1_method_3_code 4 (Option.some Jvm.ClassFile.FieldType.int) ∈ wg_T := wg_T_of (wg_t3 (List.mem_of_getElem? (i := 47) rfl)) rfl
theorem wq_7_78 : Cond.methodLink "WornWigsLaw" 22 yX12_wig ∈ wg_T := wg_T_of (wg_t7 (List.mem_of_getElem? (i := 78) rfl)) rfl
theorem wq_7_79 : Cond.instanceMethod yX12_wig ∈ wg_T := wg_T_of (wg_t7 (List.mem_of_getElem? (i := 79) rfl)) rfl
theorem wq_7_80 : Cond.selects "WornWigsModel" yX12_wig yX12_wig ∈ wg_T := wg_T_of (wg_t7 (List.mem_of_getElem? (i := 80) rfl)) rfl
theorem wq_7_81 : Cond.code yX12_wig prog_14_method_27_code 3 (Option.some Jvm.ClassFile.FieldType.int) ∈ wg_T := wg_T_of (wg_t7 (List.mem_of_getElem? (i := 81) rfl)) rfl
theorem wq_3_55 : Cond.methodLink "WornWigsLaw" 23 yX11_judge ∈ wg_T := wg_T_of (wg_t3 (List.mem_of_getElem? (i := 55) rfl)) rfl
theorem wq_3_56 : Cond.instanceMethod yX11_judge ∈ wg_T := wg_T_of (wg_t3 (List.mem_of_getElem? (i := 56) rfl)) rfl
theorem wq_3_57 : Cond.selects "WornWigs" yX11_judge yX11_judge ∈ wg_T := wg_T_of (wg_t3 (List.mem_of_getElem? (i := 57) rfl)) rfl
theorem wq_3_58 : Cond.code yX11_judge prog_1_method_4_code 4 (Option.some Jvm.ClassFile.FieldType.int) ∈ wg_T := wg_T_of (wg_t3 (List.mem_of_getElem? (i := 58) rfl)) rfl
theorem wq_7_86 : Cond.methodLink "WornWigsLaw" 26 yX12_judge ∈ wg_T := wg_T_of (wg_t7 (List.mem_of_getElem? (i := 86) rfl)) rfl
theorem wq_7_87 : Cond.instanceMethod yX12_judge ∈ wg_T := wg_T_of (wg_t7 (List.mem_of_getElem? (i := 87) rfl)) rfl
theorem wq_7_88 : Cond.selects "WornWigsModel" yX12_judge yX12_judge ∈ wg_T := wg_T_of (wg_t7 (List.mem_of_getElem? (i := 88) rfl)) rfl
theorem wq_7_89 : Cond.code yX12_judge prog_14_method_28_code 3 (Option.some Jvm.ClassFile.FieldType.int) ∈ wg_T := wg_T_of (wg_t7 (List.mem_of_getElem? (i := 89) rfl)) rfl
theorem wq_3_63 : Cond.methodLink "WornWigsLaw" 27 yX11_trial ∈ wg_T := wg_T_of (wg_t3 (List.mem_of_getElem? (i := 63) rfl)) rfl
theorem wq_3_64 : Cond.instanceMethod yX11_trial ∈ wg_T := wg_T_of (wg_t3 (List.mem_of_getElem? (i := 64) rfl)) rfl
theorem wq_3_65 : Cond.selects "WornWigs" yX11_trial yX11_trial ∈ wg_T := wg_T_of (wg_t3 (List.mem_of_getElem? (i := 65) rfl)) rfl
theorem wq_3_66 : Cond.code yX11_trial prog_1_method_5_code 4 (Option.some Jvm.ClassFile.FieldType.int) ∈ wg_T := wg_T_of (wg_t3 (List.mem_of_getElem? (i := 66) rfl)) rfl
theorem wq_7_90 : Cond.methodLink "WornWigsLaw" 30 yX12_trial ∈ wg_T := wg_T_of (wg_t7 (List.mem_of_getElem? (i := 90) rfl)) rfl
theorem wq_7_91 : Cond.instanceMethod yX12_trial ∈ wg_T := wg_T_of (wg_t7 (List.mem_of_getElem? (i := 91) rfl)) rfl
theorem wq_7_92 : Cond.selects "WornWigsModel" yX12_trial yX12_trial ∈ wg_T := wg_T_of (wg_t7 (List.mem_of_getElem? (i := 92) rfl)) rfl
theorem wq_7_93 : Cond.code yX12_trial prog_14_method_29_code 3 (Option.some Jvm.ClassFile.FieldType.int) ∈ wg_T := wg_T_of (wg_t7 (List.mem_of_getElem? (i := 93) rfl)) rfl
theorem wq_3_71 : Cond.methodLink "WornWigsLaw" 31 yX11_rule ∈ wg_T := wg_T_of (wg_t3 (List.mem_of_getElem? (i := 71) rfl)) rfl
theorem wq_3_72 : Cond.instanceMethod yX11_rule ∈ wg_T := wg_T_of (wg_t3 (List.mem_of_getElem? (i := 72) rfl)) rfl
theorem wq_3_73 : Cond.selects "WornWigs" yX11_rule yX11_rule ∈ wg_T := wg_T_of (wg_t3 (List.mem_of_getElem? (i := 73) rfl)) rfl
theorem wq_3_74 : Cond.code yX11_rule prog_1_method_6_code 6 (Option.some Jvm.ClassFile.FieldType.int) ∈ wg_T := wg_T_of (wg_t3 (List.mem_of_getElem? (i := 74) rfl)) rfl
theorem wq_7_94 : Cond.methodLink "WornWigsLaw" 35 yX12_rule ∈ wg_T := wg_T_of (wg_t7 (List.mem_of_getElem? (i := 94) rfl)) rfl
theorem wq_7_95 : Cond.instanceMethod yX12_rule ∈ wg_T := wg_T_of (wg_t7 (List.mem_of_getElem? (i := 95) rfl)) rfl
theorem wq_7_96 : Cond.selects "WornWigsModel" yX12_rule yX12_rule ∈ wg_T := wg_T_of (wg_t7 (List.mem_of_getElem? (i := 96) rfl)) rfl
theorem wq_7_97 : Cond.code yX12_rule prog_14_method_30_code 5 (Option.some Jvm.ClassFile.FieldType.int) ∈ wg_T := wg_T_of (wg_t7 (List.mem_of_getElem? (i := 97) rfl)) rfl
theorem wq_3_100 : Cond.methodLink "WornWigsLaw" 36 yX11_set ∈ wg_T := wg_T_of (wg_t3 (List.mem_of_getElem? (i := 100) rfl)) rfl
theorem wq_3_101 : Cond.instanceMethod yX11_set ∈ wg_T := wg_T_of (wg_t3 (List.mem_of_getElem? (i := 101) rfl)) rfl
theorem wq_3_102 : Cond.selects "WornWigs" yX11_set yX11_set ∈ wg_T := wg_T_of (wg_t3 (List.mem_of_getElem? (i := 102) rfl)) rfl
theorem wq_3_103 : Cond.code yX11_set prog_1_method_7_code 5 (Option.some Jvm.ClassFile.FieldType.boolean) ∈ wg_T := wg_T_of (wg_t3 (List.mem_of_getElem? (i := 103) rfl)) rfl
theorem wq_7_122 : Cond.methodLink "WornWigsLaw" 40 yX12_set ∈ wg_T := wg_T_of (wg_t7 (List.mem_of_getElem? (i := 122) rfl)) rfl
theorem wq_7_123 : Cond.instanceMethod yX12_set ∈ wg_T := wg_T_of (wg_t7 (List.mem_of_getElem? (i := 123) rfl)) rfl
theorem wq_7_124 : Cond.selects "WornWigsModel" yX12_set yX12_set ∈ wg_T := wg_T_of (wg_t7 (List.mem_of_getElem? (i := 124) rfl)) rfl
theorem wq_7_125 : Cond.code yX12_set prog_14_method_32_code 4 (Option.some Jvm.ClassFile.FieldType.boolean) ∈ wg_T := wg_T_of (wg_t7 (List.mem_of_getElem? (i := 125) rfl)) rfl
theorem wq_3_116 : Cond.methodLink "WornWigsLaw" 41 yX11_tries ∈ wg_T := wg_T_of (wg_t3 (List.mem_of_getElem? (i := 116) rfl)) rfl
theorem wq_3_117 : Cond.instanceMethod yX11_tries ∈ wg_T := wg_T_of (wg_t3 (List.mem_of_getElem? (i := 117) rfl)) rfl
theorem wq_3_118 : Cond.selects "WornWigs" yX11_tries yX11_tries ∈ wg_T := wg_T_of (wg_t3 (List.mem_of_getElem? (i := 118) rfl)) rfl
theorem wq_3_119 : Cond.code yX11_tries prog_1_method_9_code 3 (Option.some Jvm.ClassFile.FieldType.int) ∈ wg_T := wg_T_of (wg_t3 (List.mem_of_getElem? (i := 119) rfl)) rfl
theorem wq_8_54 : Cond.methodLink "WornWigsLaw" 44 yX12_tries ∈ wg_T := wg_T_of (wg_t8 (List.mem_of_getElem? (i := 54) rfl)) rfl
theorem wq_8_55 : Cond.instanceMethod yX12_tries ∈ wg_T := wg_T_of (wg_t8 (List.mem_of_getElem? (i := 55) rfl)) rfl
theorem wq_8_56 : Cond.selects "WornWigsModel" yX12_tries yX12_tries ∈ wg_T := wg_T_of (wg_t8 (List.mem_of_getElem? (i := 56) rfl)) rfl
theorem wq_8_57 : Cond.code yX12_tries prog_14_method_85_code 3 (Option.some Jvm.ClassFile.FieldType.int) ∈ wg_T := wg_T_of (wg_t8 (List.mem_of_getElem? (i := 57) rfl)) rfl
theorem wq_3_223 : Cond.methodLink "WornWigsLaw" 45 yX11_act ∈ wg_T := wg_T_of (wg_t3 (List.mem_of_getElem? (i := 223) rfl)) rfl
theorem wq_3_224 : Cond.instanceMethod yX11_act ∈ wg_T := wg_T_of (wg_t3 (List.mem_of_getElem? (i := 224) rfl)) rfl
theorem wq_3_225 : Cond.selects "WornWigs" yX11_act yX11_act ∈ wg_T := wg_T_of (wg_t3 (List.mem_of_getElem? (i := 225) rfl)) rfl
theorem wq_3_226 : Cond.code yX11_act prog_1_method_10_code 4 (Option.some Jvm.ClassFile.FieldType.boolean) ∈ wg_T := wg_T_of (wg_t3 (List.mem_of_getElem? (i := 226) rfl)) rfl
theorem wq_8_126 : Cond.methodLink "WornWigsLaw" 48 yX12_act ∈ wg_T := wg_T_of (wg_t8 (List.mem_of_getElem? (i := 126) rfl)) rfl
theorem wq_8_127 : Cond.instanceMethod yX12_act ∈ wg_T := wg_T_of (wg_t8 (List.mem_of_getElem? (i := 127) rfl)) rfl
theorem wq_8_128 : Cond.selects "WornWigsModel" yX12_act yX12_act ∈ wg_T := wg_T_of (wg_t8 (List.mem_of_getElem? (i := 128) rfl)) rfl
theorem wq_8_129 : Cond.code yX12_act prog_14_method_93_code 4 (Option.some Jvm.ClassFile.FieldType.boolean) ∈ wg_T := wg_T_of (wg_t8 (List.mem_of_getElem? (i := 129) rfl)) rfl
theorem wq_4_22 : Cond.methodLink "WornWigsLaw" 49 yX11_years ∈ wg_T := wg_T_of (wg_t4 (List.mem_of_getElem? (i := 22) rfl)) rfl
theorem wq_4_23 : Cond.instanceMethod yX11_years ∈ wg_T := wg_T_of (wg_t4 (List.mem_of_getElem? (i := 23) rfl)) rfl
theorem wq_4_24 : Cond.selects "WornWigs" yX11_years yX11_years ∈ wg_T := wg_T_of (wg_t4 (List.mem_of_getElem? (i := 24) rfl)) rfl
theorem wq_4_25 : Cond.code yX11_years prog_1_method_11_code 4 (Option.some Jvm.ClassFile.FieldType.int) ∈ wg_T := wg_T_of (wg_t4 (List.mem_of_getElem? (i := 25) rfl)) rfl
theorem wq_8_166 : Cond.methodLink "WornWigsLaw" 52 yX12_years ∈ wg_T := wg_T_of (wg_t8 (List.mem_of_getElem? (i := 166) rfl)) rfl
theorem wq_8_167 : Cond.instanceMethod yX12_years ∈ wg_T := wg_T_of (wg_t8 (List.mem_of_getElem? (i := 167) rfl)) rfl
theorem wq_8_168 : Cond.selects "WornWigsModel" yX12_years yX12_years ∈ wg_T := wg_T_of (wg_t8 (List.mem_of_getElem? (i := 168) rfl)) rfl
theorem wq_8_169 : Cond.code yX12_years prog_14_method_99_code 4 (Option.some Jvm.ClassFile.FieldType.int) ∈ wg_T := wg_T_of (wg_t8 (List.mem_of_getElem? (i := 169) rfl)) rfl
theorem wq_4_65 : Cond.methodLink "WornWigsLaw" 53 yX11_feed ∈ wg_T := wg_T_of (wg_t4 (List.mem_of_getElem? (i := 65) rfl)) rfl
theorem wq_4_66 : Cond.instanceMethod yX11_feed ∈ wg_T := wg_T_of (wg_t4 (List.mem_of_getElem? (i := 66) rfl)) rfl
theorem wq_4_67 : Cond.selects "WornWigs" yX11_feed yX11_feed ∈ wg_T := wg_T_of (wg_t4 (List.mem_of_getElem? (i := 67) rfl)) rfl
theorem wq_4_68 : Cond.code yX11_feed prog_1_method_12_code 6 (Option.some Jvm.ClassFile.FieldType.int) ∈ wg_T := wg_T_of (wg_t4 (List.mem_of_getElem? (i := 68) rfl)) rfl
theorem wq_7_138 : Cond.methodLink "WornWigsLaw" 57 yX12_feed ∈ wg_T := wg_T_of (wg_t7 (List.mem_of_getElem? (i := 138) rfl)) rfl
theorem wq_7_139 : Cond.instanceMethod yX12_feed ∈ wg_T := wg_T_of (wg_t7 (List.mem_of_getElem? (i := 139) rfl)) rfl
theorem wq_7_140 : Cond.selects "WornWigsModel" yX12_feed yX12_feed ∈ wg_T := wg_T_of (wg_t7 (List.mem_of_getElem? (i := 140) rfl)) rfl
theorem wq_7_141 : Cond.code yX12_feed prog_14_method_34_code 6 (Option.some Jvm.ClassFile.FieldType.int) ∈ wg_T := wg_T_of (wg_t7 (List.mem_of_getElem? (i := 141) rfl)) rfl
theorem wq_4_77 : Cond.methodLink "WornWigsLaw" 58 yX11_end ∈ wg_T := wg_T_of (wg_t4 (List.mem_of_getElem? (i := 77) rfl)) rfl
theorem wq_4_78 : Cond.instanceMethod yX11_end ∈ wg_T := wg_T_of (wg_t4 (List.mem_of_getElem? (i := 78) rfl)) rfl
theorem wq_4_79 : Cond.selects "WornWigs" yX11_end yX11_end ∈ wg_T := wg_T_of (wg_t4 (List.mem_of_getElem? (i := 79) rfl)) rfl
theorem wq_4_80 : Cond.code yX11_end prog_1_method_13_code 2 (Option.some Jvm.ClassFile.FieldType.boolean) ∈ wg_T := wg_T_of (wg_t4 (List.mem_of_getElem? (i := 80) rfl)) rfl
theorem wq_7_146 : Cond.methodLink "WornWigsLaw" 62 yX12_end ∈ wg_T := wg_T_of (wg_t7 (List.mem_of_getElem? (i := 146) rfl)) rfl
theorem wq_7_147 : Cond.instanceMethod yX12_end ∈ wg_T := wg_T_of (wg_t7 (List.mem_of_getElem? (i := 147) rfl)) rfl
theorem wq_7_148 : Cond.selects "WornWigsModel" yX12_end yX12_end ∈ wg_T := wg_T_of (wg_t7 (List.mem_of_getElem? (i := 148) rfl)) rfl
theorem wq_7_149 : Cond.code yX12_end prog_14_method_35_code 2 (Option.some Jvm.ClassFile.FieldType.boolean) ∈ wg_T := wg_T_of (wg_t7 (List.mem_of_getElem? (i := 149) rfl)) rfl
theorem wq_4_81 : Cond.methodLink "WornWigsLaw" 63 yX11_text ∈ wg_T := wg_T_of (wg_t4 (List.mem_of_getElem? (i := 81) rfl)) rfl
theorem wq_4_82 : Cond.instanceMethod yX11_text ∈ wg_T := wg_T_of (wg_t4 (List.mem_of_getElem? (i := 82) rfl)) rfl
theorem wq_4_83 : Cond.selects "WornWigs" yX11_text yX11_text ∈ wg_T := wg_T_of (wg_t4 (List.mem_of_getElem? (i := 83) rfl)) rfl
theorem wq_4_84 : Cond.code yX11_text prog_1_method_14_code 2 (Option.some Jvm.ClassFile.FieldType.int) ∈ wg_T := wg_T_of (wg_t4 (List.mem_of_getElem? (i := 84) rfl)) rfl
theorem wq_7_150 : Cond.methodLink "WornWigsLaw" 66 yX12_text ∈ wg_T := wg_T_of (wg_t7 (List.mem_of_getElem? (i := 150) rfl)) rfl
theorem wq_7_151 : Cond.instanceMethod yX12_text ∈ wg_T := wg_T_of (wg_t7 (List.mem_of_getElem? (i := 151) rfl)) rfl
theorem wq_7_152 : Cond.selects "WornWigsModel" yX12_text yX12_text ∈ wg_T := wg_T_of (wg_t7 (List.mem_of_getElem? (i := 152) rfl)) rfl
theorem wq_7_153 : Cond.code yX12_text prog_14_method_70_code 3 (Option.some Jvm.ClassFile.FieldType.int) ∈ wg_T := wg_T_of (wg_t7 (List.mem_of_getElem? (i := 153) rfl)) rfl
theorem wq_5_32 : Cond.methodLink "WornWigsLaw" 67 yX11_fault ∈ wg_T := wg_T_of (wg_t5 (List.mem_of_getElem? (i := 32) rfl)) rfl
theorem wq_5_33 : Cond.instanceMethod yX11_fault ∈ wg_T := wg_T_of (wg_t5 (List.mem_of_getElem? (i := 33) rfl)) rfl
theorem wq_5_34 : Cond.selects "WornWigs" yX11_fault yX11_fault ∈ wg_T := wg_T_of (wg_t5 (List.mem_of_getElem? (i := 34) rfl)) rfl
theorem wq_5_35 : Cond.code yX11_fault prog_1_method_15_code 2 (Option.some Jvm.ClassFile.FieldType.int) ∈ wg_T := wg_T_of (wg_t5 (List.mem_of_getElem? (i := 35) rfl)) rfl
theorem wq_8_50 : Cond.methodLink "WornWigsLaw" 70 yX12_fault ∈ wg_T := wg_T_of (wg_t8 (List.mem_of_getElem? (i := 50) rfl)) rfl
theorem wq_8_51 : Cond.instanceMethod yX12_fault ∈ wg_T := wg_T_of (wg_t8 (List.mem_of_getElem? (i := 51) rfl)) rfl
theorem wq_8_52 : Cond.selects "WornWigsModel" yX12_fault yX12_fault ∈ wg_T := wg_T_of (wg_t8 (List.mem_of_getElem? (i := 52) rfl)) rfl
theorem wq_8_53 : Cond.code yX12_fault prog_14_method_71_code 2 (Option.some Jvm.ClassFile.FieldType.int) ∈ wg_T := wg_T_of (wg_t8 (List.mem_of_getElem? (i := 53) rfl)) rfl
theorem wq_5_36 : Cond.methodLink "WornWigsLaw" 71 yX11_of ∈ wg_T := wg_T_of (wg_t5 (List.mem_of_getElem? (i := 36) rfl)) rfl
theorem wq_5_37 : Cond.instanceMethod yX11_of ∈ wg_T := wg_T_of (wg_t5 (List.mem_of_getElem? (i := 37) rfl)) rfl
theorem wq_5_38 : Cond.selects "WornWigs" yX11_of yX11_of ∈ wg_T := wg_T_of (wg_t5 (List.mem_of_getElem? (i := 38) rfl)) rfl
theorem wq_5_39 : Cond.code yX11_of prog_1_method_16_code 4 (Option.some Jvm.ClassFile.FieldType.int) ∈ wg_T := wg_T_of (wg_t5 (List.mem_of_getElem? (i := 39) rfl)) rfl
theorem wq_8_204 : Cond.methodLink "WornWigsLaw" 74 yX12_of ∈ wg_T := wg_T_of (wg_t8 (List.mem_of_getElem? (i := 204) rfl)) rfl
theorem wq_8_205 : Cond.instanceMethod yX12_of ∈ wg_T := wg_T_of (wg_t8 (List.mem_of_getElem? (i := 205) rfl)) rfl
theorem wq_8_206 : Cond.selects "WornWigsModel" yX12_of yX12_of ∈ wg_T := wg_T_of (wg_t8 (List.mem_of_getElem? (i := 206) rfl)) rfl
theorem wq_8_207 : Cond.code yX12_of prog_14_method_100_code 3 (Option.some Jvm.ClassFile.FieldType.int) ∈ wg_T := wg_T_of (wg_t8 (List.mem_of_getElem? (i := 207) rfl)) rfl
theorem wq_5_42 : Cond.methodLink "WornWigsLaw" 75 yX11_ruleOf ∈ wg_T := wg_T_of (wg_t5 (List.mem_of_getElem? (i := 42) rfl)) rfl
theorem wq_5_43 : Cond.instanceMethod yX11_ruleOf ∈ wg_T := wg_T_of (wg_t5 (List.mem_of_getElem? (i := 43) rfl)) rfl
theorem wq_5_44 : Cond.selects "WornWigs" yX11_ruleOf yX11_ruleOf ∈ wg_T := wg_T_of (wg_t5 (List.mem_of_getElem? (i := 44) rfl)) rfl
theorem wq_5_45 : Cond.code yX11_ruleOf prog_1_method_17_code 7 (Option.some Jvm.ClassFile.FieldType.int) ∈ wg_T := wg_T_of (wg_t5 (List.mem_of_getElem? (i := 45) rfl)) rfl
theorem wq_8_208 : Cond.methodLink "WornWigsLaw" 79 yX12_ruleOf ∈ wg_T := wg_T_of (wg_t8 (List.mem_of_getElem? (i := 208) rfl)) rfl
theorem wq_8_209 : Cond.instanceMethod yX12_ruleOf ∈ wg_T := wg_T_of (wg_t8 (List.mem_of_getElem? (i := 209) rfl)) rfl
theorem wq_8_210 : Cond.selects "WornWigsModel" yX12_ruleOf yX12_ruleOf ∈ wg_T := wg_T_of (wg_t8 (List.mem_of_getElem? (i := 210) rfl)) rfl
theorem wq_8_211 : Cond.code yX12_ruleOf prog_14_method_101_code 4 (Option.some Jvm.ClassFile.FieldType.int) ∈ wg_T := wg_T_of (wg_t8 (List.mem_of_getElem? (i := 211) rfl)) rfl
theorem wq_5_52 : Cond.methodLink "WornWigsLaw" 80 yX11_who ∈ wg_T := wg_T_of (wg_t5 (List.mem_of_getElem? (i := 52) rfl)) rfl
theorem wq_5_53 : Cond.instanceMethod yX11_who ∈ wg_T := wg_T_of (wg_t5 (List.mem_of_getElem? (i := 53) rfl)) rfl
theorem wq_5_54 : Cond.selects "WornWigs" yX11_who yX11_who ∈ wg_T := wg_T_of (wg_t5 (List.mem_of_getElem? (i := 54) rfl)) rfl
theorem wq_5_55 : Cond.code yX11_who prog_1_method_18_code 4 (Option.some Jvm.ClassFile.FieldType.int) ∈ wg_T := wg_T_of (wg_t5 (List.mem_of_getElem? (i := 55) rfl)) rfl
theorem wq_8_212 : Cond.methodLink "WornWigsLaw" 83 yX12_who ∈ wg_T := wg_T_of (wg_t8 (List.mem_of_getElem? (i := 212) rfl)) rfl
theorem wq_8_213 : Cond.instanceMethod yX12_who ∈ wg_T := wg_T_of (wg_t8 (List.mem_of_getElem? (i := 213) rfl)) rfl
theorem wq_8_214 : Cond.selects "WornWigsModel" yX12_who yX12_who ∈ wg_T := wg_T_of (wg_t8 (List.mem_of_getElem? (i := 214) rfl)) rfl
theorem wq_8_215 : Cond.code yX12_who prog_14_method_102_code 3 (Option.some Jvm.ClassFile.FieldType.int) ∈ wg_T := wg_T_of (wg_t8 (List.mem_of_getElem? (i := 215) rfl)) rfl
theorem wq_5_57 : Cond.methodLink "WornWigsLaw" 84 yX11_trialOf ∈ wg_T := wg_T_of (wg_t5 (List.mem_of_getElem? (i := 57) rfl)) rfl
theorem wq_5_58 : Cond.instanceMethod yX11_trialOf ∈ wg_T := wg_T_of (wg_t5 (List.mem_of_getElem? (i := 58) rfl)) rfl
theorem wq_5_59 : Cond.selects "WornWigs" yX11_trialOf yX11_trialOf ∈ wg_T := wg_T_of (wg_t5 (List.mem_of_getElem? (i := 59) rfl)) rfl
theorem wq_5_60 : Cond.code yX11_trialOf prog_1_method_19_code 4 (Option.some Jvm.ClassFile.FieldType.int) ∈ wg_T := wg_T_of (wg_t5 (List.mem_of_getElem? (i := 60) rfl)) rfl
theorem wq_8_216 : Cond.methodLink "WornWigsLaw" 87 yX12_trialOf ∈ wg_T := wg_T_of (wg_t8 (List.mem_of_getElem? (i := 216) rfl)) rfl
theorem wq_8_217 : Cond.instanceMethod yX12_trialOf ∈ wg_T := wg_T_of (wg_t8 (List.mem_of_getElem? (i := 217) rfl)) rfl
theorem wq_8_218 : Cond.selects "WornWigsModel" yX12_trialOf yX12_trialOf ∈ wg_T := wg_T_of (wg_t8 (List.mem_of_getElem? (i := 218) rfl)) rfl
theorem wq_8_219 : Cond.code yX12_trialOf prog_14_method_103_code 3 (Option.some Jvm.ClassFile.FieldType.int) ∈ wg_T := wg_T_of (wg_t8 (List.mem_of_getElem? (i := 219) rfl)) rfl
theorem wq_5_62 : Cond.methodLink "WornWigsLaw" 88 yX11_book ∈ wg_T := wg_T_of (wg_t5 (List.mem_of_getElem? (i := 62) rfl)) rfl
theorem wq_5_63 : Cond.instanceMethod yX11_book ∈ wg_T := wg_T_of (wg_t5 (List.mem_of_getElem? (i := 63) rfl)) rfl
theorem wq_5_64 : Cond.selects "WornWigs" yX11_book yX11_book ∈ wg_T := wg_T_of (wg_t5 (List.mem_of_getElem? (i := 64) rfl)) rfl
theorem wq_5_65 : Cond.code yX11_book prog_1_method_20_code 3 (Option.some Jvm.ClassFile.FieldType.int) ∈ wg_T := wg_T_of (wg_t5 (List.mem_of_getElem? (i := 65) rfl)) rfl
theorem wq_8_221 : Cond.methodLink "WornWigsLaw" 91 yX12_book ∈ wg_T := wg_T_of (wg_t8 (List.mem_of_getElem? (i := 221) rfl)) rfl
theorem wq_8_222 : Cond.instanceMethod yX12_book ∈ wg_T := wg_T_of (wg_t8 (List.mem_of_getElem? (i := 222) rfl)) rfl
theorem wq_8_223 : Cond.selects "WornWigsModel" yX12_book yX12_book ∈ wg_T := wg_T_of (wg_t8 (List.mem_of_getElem? (i := 223) rfl)) rfl
theorem wq_8_224 : Cond.code yX12_book prog_14_method_104_code 3 (Option.some Jvm.ClassFile.FieldType.int) ∈ wg_T := wg_T_of (wg_t8 (List.mem_of_getElem? (i := 224) rfl)) rfl
theorem wq_5_66 : Cond.methodLink "WornWigsLaw" 92 yX11_goes ∈ wg_T := wg_T_of (wg_t5 (List.mem_of_getElem? (i := 66) rfl)) rfl
theorem wq_5_67 : Cond.instanceMethod yX11_goes ∈ wg_T := wg_T_of (wg_t5 (List.mem_of_getElem? (i := 67) rfl)) rfl
theorem wq_5_68 : Cond.selects "WornWigs" yX11_goes yX11_goes ∈ wg_T := wg_T_of (wg_t5 (List.mem_of_getElem? (i := 68) rfl)) rfl
theorem wq_5_69 : Cond.code yX11_goes prog_1_method_21_code 4 (Option.some Jvm.ClassFile.FieldType.int) ∈ wg_T := wg_T_of (wg_t5 (List.mem_of_getElem? (i := 69) rfl)) rfl
theorem wq_8_225 : Cond.methodLink "WornWigsLaw" 95 yX12_goes ∈ wg_T := wg_T_of (wg_t8 (List.mem_of_getElem? (i := 225) rfl)) rfl
theorem wq_8_226 : Cond.instanceMethod yX12_goes ∈ wg_T := wg_T_of (wg_t8 (List.mem_of_getElem? (i := 226) rfl)) rfl
theorem wq_8_227 : Cond.selects "WornWigsModel" yX12_goes yX12_goes ∈ wg_T := wg_T_of (wg_t8 (List.mem_of_getElem? (i := 227) rfl)) rfl
theorem wq_8_228 : Cond.code yX12_goes prog_14_method_106_code 7 (Option.some Jvm.ClassFile.FieldType.int) ∈ wg_T := wg_T_of (wg_t8 (List.mem_of_getElem? (i := 228) rfl)) rfl
theorem wq_5_100 : Cond.methodLink "WornWigsLaw" 96 yX11_would ∈ wg_T := wg_T_of (wg_t5 (List.mem_of_getElem? (i := 100) rfl)) rfl
theorem wq_5_101 : Cond.instanceMethod yX11_would ∈ wg_T := wg_T_of (wg_t5 (List.mem_of_getElem? (i := 101) rfl)) rfl
theorem wq_5_102 : Cond.selects "WornWigs" yX11_would yX11_would ∈ wg_T := wg_T_of (wg_t5 (List.mem_of_getElem? (i := 102) rfl)) rfl
theorem wq_5_103 : Cond.code yX11_would prog_1_method_22_code 3 (Option.some Jvm.ClassFile.FieldType.int) ∈ wg_T := wg_T_of (wg_t5 (List.mem_of_getElem? (i := 103) rfl)) rfl
theorem wq_9_5 : Cond.methodLink "WornWigsLaw" 99 yX12_would ∈ wg_T := wg_T_of (wg_t9 (List.mem_of_getElem? (i := 5) rfl)) rfl
theorem wq_9_6 : Cond.instanceMethod yX12_would ∈ wg_T := wg_T_of (wg_t9 (List.mem_of_getElem? (i := 6) rfl)) rfl
theorem wq_9_7 : Cond.selects "WornWigsModel" yX12_would yX12_would ∈ wg_T := wg_T_of (wg_t9 (List.mem_of_getElem? (i := 7) rfl)) rfl
theorem wq_9_8 : Cond.code yX12_would prog_14_method_107_code 3 (Option.some Jvm.ClassFile.FieldType.int) ∈ wg_T := wg_T_of (wg_t9 (List.mem_of_getElem? (i := 8) rfl)) rfl
theorem wq_5_106 : Cond.methodLink "WornWigsLaw" 100 yX11_forum ∈ wg_T := wg_T_of (wg_t5 (List.mem_of_getElem? (i := 106) rfl)) rfl
theorem wq_5_107 : Cond.instanceMethod yX11_forum ∈ wg_T := wg_T_of (wg_t5 (List.mem_of_getElem? (i := 107) rfl)) rfl
theorem wq_5_108 : Cond.selects "WornWigs" yX11_forum yX11_forum ∈ wg_T := wg_T_of (wg_t5 (List.mem_of_getElem? (i := 108) rfl)) rfl
theorem wq_5_109 : Cond.code yX11_forum prog_1_method_23_code 3 (Option.some Jvm.ClassFile.FieldType.int) ∈ wg_T := wg_T_of (wg_t5 (List.mem_of_getElem? (i := 109) rfl)) rfl
theorem wq_9_9 : Cond.methodLink "WornWigsLaw" 103 yX12_forum ∈ wg_T := wg_T_of (wg_t9 (List.mem_of_getElem? (i := 9) rfl)) rfl
theorem wq_9_10 : Cond.instanceMethod yX12_forum ∈ wg_T := wg_T_of (wg_t9 (List.mem_of_getElem? (i := 10) rfl)) rfl
theorem wq_9_11 : Cond.selects "WornWigsModel" yX12_forum yX12_forum ∈ wg_T := wg_T_of (wg_t9 (List.mem_of_getElem? (i := 11) rfl)) rfl
theorem wq_9_12 : Cond.code yX12_forum prog_14_method_108_code 5 (Option.some Jvm.ClassFile.FieldType.int) ∈ wg_T := wg_T_of (wg_t9 (List.mem_of_getElem? (i := 12) rfl)) rfl
theorem wq_5_116 : Cond.methodLink "WornWigsLaw" 104 yX11_combs ∈ wg_T := wg_T_of (wg_t5 (List.mem_of_getElem? (i := 116) rfl)) rfl
theorem wq_5_117 : Cond.instanceMethod yX11_combs ∈ wg_T := wg_T_of (wg_t5 (List.mem_of_getElem? (i := 117) rfl)) rfl
theorem wq_5_118 : Cond.selects "WornWigs" yX11_combs yX11_combs ∈ wg_T := wg_T_of (wg_t5 (List.mem_of_getElem? (i := 118) rfl)) rfl
theorem wq_5_119 : Cond.code yX11_combs prog_1_method_24_code 4 (Option.some Jvm.ClassFile.FieldType.int) ∈ wg_T := wg_T_of (wg_t5 (List.mem_of_getElem? (i := 119) rfl)) rfl
theorem wq_9_13 : Cond.methodLink "WornWigsLaw" 107 yX12_combs ∈ wg_T := wg_T_of (wg_t9 (List.mem_of_getElem? (i := 13) rfl)) rfl
theorem wq_9_14 : Cond.instanceMethod yX12_combs ∈ wg_T := wg_T_of (wg_t9 (List.mem_of_getElem? (i := 14) rfl)) rfl
theorem wq_9_15 : Cond.selects "WornWigsModel" yX12_combs yX12_combs ∈ wg_T := wg_T_of (wg_t9 (List.mem_of_getElem? (i := 15) rfl)) rfl
theorem wq_9_16 : Cond.code yX12_combs prog_14_method_110_code 5 (Option.some Jvm.ClassFile.FieldType.int) ∈ wg_T := wg_T_of (wg_t9 (List.mem_of_getElem? (i := 16) rfl)) rfl
theorem wq_5_125 : Cond.methodLink "WornWigsLaw" 108 yX11_alike ∈ wg_T := wg_T_of (wg_t5 (List.mem_of_getElem? (i := 125) rfl)) rfl
theorem wq_5_126 : Cond.instanceMethod yX11_alike ∈ wg_T := wg_T_of (wg_t5 (List.mem_of_getElem? (i := 126) rfl)) rfl
theorem wq_5_127 : Cond.selects "WornWigs" yX11_alike yX11_alike ∈ wg_T := wg_T_of (wg_t5 (List.mem_of_getElem? (i := 127) rfl)) rfl
theorem wq_5_128 : Cond.code yX11_alike prog_1_method_25_code 4 (Option.some Jvm.ClassFile.FieldType.int) ∈ wg_T := wg_T_of (wg_t5 (List.mem_of_getElem? (i := 128) rfl)) rfl
theorem wq_9_25 : Cond.methodLink "WornWigsLaw" 111 yX12_alike ∈ wg_T := wg_T_of (wg_t9 (List.mem_of_getElem? (i := 25) rfl)) rfl
theorem wq_9_26 : Cond.instanceMethod yX12_alike ∈ wg_T := wg_T_of (wg_t9 (List.mem_of_getElem? (i := 26) rfl)) rfl
theorem wq_9_27 : Cond.selects "WornWigsModel" yX12_alike yX12_alike ∈ wg_T := wg_T_of (wg_t9 (List.mem_of_getElem? (i := 27) rfl)) rfl
theorem wq_9_28 : Cond.code yX12_alike prog_14_method_113_code 5 (Option.some Jvm.ClassFile.FieldType.int) ∈ wg_T := wg_T_of (wg_t9 (List.mem_of_getElem? (i := 28) rfl)) rfl
theorem wq_5_145 : Cond.methodLink "WornWigsLaw" 112 yX11_heir ∈ wg_T := wg_T_of (wg_t5 (List.mem_of_getElem? (i := 145) rfl)) rfl
theorem wq_5_146 : Cond.instanceMethod yX11_heir ∈ wg_T := wg_T_of (wg_t5 (List.mem_of_getElem? (i := 146) rfl)) rfl
theorem wq_5_147 : Cond.selects "WornWigs" yX11_heir yX11_heir ∈ wg_T := wg_T_of (wg_t5 (List.mem_of_getElem? (i := 147) rfl)) rfl
theorem wq_5_148 : Cond.code yX11_heir prog_1_method_26_code 3 (Option.some Jvm.ClassFile.FieldType.int) ∈ wg_T := wg_T_of (wg_t5 (List.mem_of_getElem? (i := 148) rfl)) rfl
theorem wq_9_37 : Cond.methodLink "WornWigsLaw" 115 yX12_heir ∈ wg_T := wg_T_of (wg_t9 (List.mem_of_getElem? (i := 37) rfl)) rfl
theorem wq_9_38 : Cond.instanceMethod yX12_heir ∈ wg_T := wg_T_of (wg_t9 (List.mem_of_getElem? (i := 38) rfl)) rfl
theorem wq_9_39 : Cond.selects "WornWigsModel" yX12_heir yX12_heir ∈ wg_T := wg_T_of (wg_t9 (List.mem_of_getElem? (i := 39) rfl)) rfl
theorem wq_9_40 : Cond.code yX12_heir prog_14_method_114_code 4 (Option.some Jvm.ClassFile.FieldType.int) ∈ wg_T := wg_T_of (wg_t9 (List.mem_of_getElem? (i := 40) rfl)) rfl
theorem wq_5_155 : Cond.methodLink "WornWigsLaw" 116 yX11_kin ∈ wg_T := wg_T_of (wg_t5 (List.mem_of_getElem? (i := 155) rfl)) rfl
theorem wq_5_156 : Cond.instanceMethod yX11_kin ∈ wg_T := wg_T_of (wg_t5 (List.mem_of_getElem? (i := 156) rfl)) rfl
theorem wq_5_157 : Cond.selects "WornWigs" yX11_kin yX11_kin ∈ wg_T := wg_T_of (wg_t5 (List.mem_of_getElem? (i := 157) rfl)) rfl
theorem wq_5_158 : Cond.code yX11_kin prog_1_method_27_code 4 (Option.some Jvm.ClassFile.FieldType.int) ∈ wg_T := wg_T_of (wg_t5 (List.mem_of_getElem? (i := 158) rfl)) rfl
theorem wq_9_41 : Cond.methodLink "WornWigsLaw" 119 yX12_kin ∈ wg_T := wg_T_of (wg_t9 (List.mem_of_getElem? (i := 41) rfl)) rfl
theorem wq_9_42 : Cond.instanceMethod yX12_kin ∈ wg_T := wg_T_of (wg_t9 (List.mem_of_getElem? (i := 42) rfl)) rfl
theorem wq_9_43 : Cond.selects "WornWigsModel" yX12_kin yX12_kin ∈ wg_T := wg_T_of (wg_t9 (List.mem_of_getElem? (i := 43) rfl)) rfl
theorem wq_9_44 : Cond.code yX12_kin prog_14_method_119_code 3 (Option.some Jvm.ClassFile.FieldType.int) ∈ wg_T := wg_T_of (wg_t9 (List.mem_of_getElem? (i := 44) rfl)) rfl
theorem wq_5_175 : Cond.methodLink "WornWigsLaw" 120 yX11_saves ∈ wg_T := wg_T_of (wg_t5 (List.mem_of_getElem? (i := 175) rfl)) rfl
theorem wq_5_176 : Cond.instanceMethod yX11_saves ∈ wg_T := wg_T_of (wg_t5 (List.mem_of_getElem? (i := 176) rfl)) rfl
theorem wq_5_177 : Cond.selects "WornWigs" yX11_saves yX11_saves ∈ wg_T := wg_T_of (wg_t5 (List.mem_of_getElem? (i := 177) rfl)) rfl
theorem wq_5_178 : Cond.code yX11_saves prog_1_method_28_code 4 (Option.some Jvm.ClassFile.FieldType.int) ∈ wg_T := wg_T_of (wg_t5 (List.mem_of_getElem? (i := 178) rfl)) rfl
theorem wq_9_61 : Cond.methodLink "WornWigsLaw" 123 yX12_saves ∈ wg_T := wg_T_of (wg_t9 (List.mem_of_getElem? (i := 61) rfl)) rfl
theorem wq_9_62 : Cond.instanceMethod yX12_saves ∈ wg_T := wg_T_of (wg_t9 (List.mem_of_getElem? (i := 62) rfl)) rfl
theorem wq_9_63 : Cond.selects "WornWigsModel" yX12_saves yX12_saves ∈ wg_T := wg_T_of (wg_t9 (List.mem_of_getElem? (i := 63) rfl)) rfl
theorem wq_9_64 : Cond.code yX12_saves prog_14_method_122_code 5 (Option.some Jvm.ClassFile.FieldType.int) ∈ wg_T := wg_T_of (wg_t9 (List.mem_of_getElem? (i := 64) rfl)) rfl
theorem wq_5_189 : Cond.methodLink "WornWigsLaw" 124 yX11_panels ∈ wg_T := wg_T_of (wg_t5 (List.mem_of_getElem? (i := 189) rfl)) rfl
theorem wq_5_190 : Cond.instanceMethod yX11_panels ∈ wg_T := wg_T_of (wg_t5 (List.mem_of_getElem? (i := 190) rfl)) rfl
theorem wq_5_191 : Cond.selects "WornWigs" yX11_panels yX11_panels ∈ wg_T := wg_T_of (wg_t5 (List.mem_of_getElem? (i := 191) rfl)) rfl
theorem wq_5_192 : Cond.code yX11_panels prog_1_method_29_code 3 (Option.some Jvm.ClassFile.FieldType.int) ∈ wg_T := wg_T_of (wg_t5 (List.mem_of_getElem? (i := 192) rfl)) rfl
theorem wq_9_73 : Cond.methodLink "WornWigsLaw" 127 yX12_panels ∈ wg_T := wg_T_of (wg_t9 (List.mem_of_getElem? (i := 73) rfl)) rfl
theorem wq_9_74 : Cond.instanceMethod yX12_panels ∈ wg_T := wg_T_of (wg_t9 (List.mem_of_getElem? (i := 74) rfl)) rfl
theorem wq_9_75 : Cond.selects "WornWigsModel" yX12_panels yX12_panels ∈ wg_T := wg_T_of (wg_t9 (List.mem_of_getElem? (i := 75) rfl)) rfl
theorem wq_9_76 : Cond.code yX12_panels prog_14_method_124_code 7 (Option.some Jvm.ClassFile.FieldType.int) ∈ wg_T := wg_T_of (wg_t9 (List.mem_of_getElem? (i := 76) rfl)) rfl
theorem wq_5_205 : Cond.methodLink "WornWigsLaw" 128 yX11_trait ∈ wg_T := wg_T_of (wg_t5 (List.mem_of_getElem? (i := 205) rfl)) rfl
theorem wq_5_206 : Cond.instanceMethod yX11_trait ∈ wg_T := wg_T_of (wg_t5 (List.mem_of_getElem? (i := 206) rfl)) rfl
theorem wq_5_207 : Cond.selects "WornWigs" yX11_trait yX11_trait ∈ wg_T := wg_T_of (wg_t5 (List.mem_of_getElem? (i := 207) rfl)) rfl
theorem wq_5_208 : Cond.code yX11_trait prog_1_method_30_code 4 (Option.some Jvm.ClassFile.FieldType.int) ∈ wg_T := wg_T_of (wg_t5 (List.mem_of_getElem? (i := 208) rfl)) rfl
theorem wq_9_81 : Cond.methodLink "WornWigsLaw" 132 yX12_trait ∈ wg_T := wg_T_of (wg_t9 (List.mem_of_getElem? (i := 81) rfl)) rfl
theorem wq_9_82 : Cond.instanceMethod yX12_trait ∈ wg_T := wg_T_of (wg_t9 (List.mem_of_getElem? (i := 82) rfl)) rfl
theorem wq_9_83 : Cond.selects "WornWigsModel" yX12_trait yX12_trait ∈ wg_T := wg_T_of (wg_t9 (List.mem_of_getElem? (i := 83) rfl)) rfl
theorem wq_9_84 : Cond.code yX12_trait prog_14_method_125_code 4 (Option.some Jvm.ClassFile.FieldType.int) ∈ wg_T := wg_T_of (wg_t9 (List.mem_of_getElem? (i := 84) rfl)) rfl
theorem wq_5_214 : Cond.methodLink "WornWigsLaw" 133 yX11_whose ∈ wg_T := wg_T_of (wg_t5 (List.mem_of_getElem? (i := 214) rfl)) rfl
theorem wq_5_215 : Cond.instanceMethod yX11_whose ∈ wg_T := wg_T_of (wg_t5 (List.mem_of_getElem? (i := 215) rfl)) rfl
theorem wq_5_216 : Cond.selects "WornWigs" yX11_whose yX11_whose ∈ wg_T := wg_T_of (wg_t5 (List.mem_of_getElem? (i := 216) rfl)) rfl
theorem wq_5_217 : Cond.code yX11_whose prog_1_method_31_code 2 (Option.some Jvm.ClassFile.FieldType.int) ∈ wg_T := wg_T_of (wg_t5 (List.mem_of_getElem? (i := 217) rfl)) rfl
theorem wq_9_85 : Cond.methodLink "WornWigsLaw" 136 yX12_whose ∈ wg_T := wg_T_of (wg_t9 (List.mem_of_getElem? (i := 85) rfl)) rfl
theorem wq_9_86 : Cond.instanceMethod yX12_whose ∈ wg_T := wg_T_of (wg_t9 (List.mem_of_getElem? (i := 86) rfl)) rfl
theorem wq_9_87 : Cond.selects "WornWigsModel" yX12_whose yX12_whose ∈ wg_T := wg_T_of (wg_t9 (List.mem_of_getElem? (i := 87) rfl)) rfl
theorem wq_9_88 : Cond.code yX12_whose prog_14_method_128_code 9 (Option.some Jvm.ClassFile.FieldType.int) ∈ wg_T := wg_T_of (wg_t9 (List.mem_of_getElem? (i := 88) rfl)) rfl
theorem wq_6_2 : Cond.methodLink "WornWigsLaw" 137 yX11_cite ∈ wg_T := wg_T_of (wg_t6 (List.mem_of_getElem? (i := 2) rfl)) rfl
theorem wq_6_3 : Cond.instanceMethod yX11_cite ∈ wg_T := wg_T_of (wg_t6 (List.mem_of_getElem? (i := 3) rfl)) rfl
theorem wq_6_4 : Cond.selects "WornWigs" yX11_cite yX11_cite ∈ wg_T := wg_T_of (wg_t6 (List.mem_of_getElem? (i := 4) rfl)) rfl
theorem wq_6_5 : Cond.code yX11_cite prog_1_method_32_code 3 (Option.some Jvm.ClassFile.FieldType.int) ∈ wg_T := wg_T_of (wg_t6 (List.mem_of_getElem? (i := 5) rfl)) rfl
theorem wq_9_98 : Cond.methodLink "WornWigsLaw" 140 yX12_cite ∈ wg_T := wg_T_of (wg_t9 (List.mem_of_getElem? (i := 98) rfl)) rfl
theorem wq_9_99 : Cond.instanceMethod yX12_cite ∈ wg_T := wg_T_of (wg_t9 (List.mem_of_getElem? (i := 99) rfl)) rfl
theorem wq_9_100 : Cond.selects "WornWigsModel" yX12_cite yX12_cite ∈ wg_T := wg_T_of (wg_t9 (List.mem_of_getElem? (i := 100) rfl)) rfl
theorem wq_9_101 : Cond.code yX12_cite prog_14_method_129_code 4 (Option.some Jvm.ClassFile.FieldType.int) ∈ wg_T := wg_T_of (wg_t9 (List.mem_of_getElem? (i := 101) rfl)) rfl
theorem wq_6_10 : Cond.methodLink "WornWigsLaw" 141 yX11_chain ∈ wg_T := wg_T_of (wg_t6 (List.mem_of_getElem? (i := 10) rfl)) rfl
theorem wq_6_11 : Cond.instanceMethod yX11_chain ∈ wg_T := wg_T_of (wg_t6 (List.mem_of_getElem? (i := 11) rfl)) rfl
theorem wq_6_12 : Cond.selects "WornWigs" yX11_chain yX11_chain ∈ wg_T := wg_T_of (wg_t6 (List.mem_of_getElem? (i := 12) rfl)) rfl
theorem wq_6_13 : Cond.code yX11_chain prog_1_method_33_code 2 (Option.some Jvm.ClassFile.FieldType.int) ∈ wg_T := wg_T_of (wg_t6 (List.mem_of_getElem? (i := 13) rfl)) rfl
theorem wq_9_102 : Cond.methodLink "WornWigsLaw" 144 yX12_chain ∈ wg_T := wg_T_of (wg_t9 (List.mem_of_getElem? (i := 102) rfl)) rfl
theorem wq_9_103 : Cond.instanceMethod yX12_chain ∈ wg_T := wg_T_of (wg_t9 (List.mem_of_getElem? (i := 103) rfl)) rfl
theorem wq_9_104 : Cond.selects "WornWigsModel" yX12_chain yX12_chain ∈ wg_T := wg_T_of (wg_t9 (List.mem_of_getElem? (i := 104) rfl)) rfl
theorem wq_9_105 : Cond.code yX12_chain prog_14_method_132_code 4 (Option.some Jvm.ClassFile.FieldType.int) ∈ wg_T := wg_T_of (wg_t9 (List.mem_of_getElem? (i := 105) rfl)) rfl
theorem wq_6_23 : Cond.methodLink "WornWigsLaw" 145 yX11_parcel ∈ wg_T := wg_T_of (wg_t6 (List.mem_of_getElem? (i := 23) rfl)) rfl
theorem wq_6_24 : Cond.instanceMethod yX11_parcel ∈ wg_T := wg_T_of (wg_t6 (List.mem_of_getElem? (i := 24) rfl)) rfl
theorem wq_6_25 : Cond.selects "WornWigs" yX11_parcel yX11_parcel ∈ wg_T := wg_T_of (wg_t6 (List.mem_of_getElem? (i := 25) rfl)) rfl
theorem wq_6_26 : Cond.code yX11_parcel prog_1_method_34_code 4 (Option.some Jvm.ClassFile.FieldType.boolean) ∈ wg_T := wg_T_of (wg_t6 (List.mem_of_getElem? (i := 26) rfl)) rfl
theorem wq_9_114 : Cond.methodLink "WornWigsLaw" 148 yX12_parcel ∈ wg_T := wg_T_of (wg_t9 (List.mem_of_getElem? (i := 114) rfl)) rfl
theorem wq_9_115 : Cond.instanceMethod yX12_parcel ∈ wg_T := wg_T_of (wg_t9 (List.mem_of_getElem? (i := 115) rfl)) rfl
theorem wq_9_116 : Cond.selects "WornWigsModel" yX12_parcel yX12_parcel ∈ wg_T := wg_T_of (wg_t9 (List.mem_of_getElem? (i := 116) rfl)) rfl
theorem wq_9_117 : Cond.code yX12_parcel prog_14_method_133_code 4 (Option.some Jvm.ClassFile.FieldType.boolean) ∈ wg_T := wg_T_of (wg_t9 (List.mem_of_getElem? (i := 117) rfl)) rfl
theorem wq_6_27 : Cond.methodLink "WornWigsLaw" 149 yX11_cut ∈ wg_T := wg_T_of (wg_t6 (List.mem_of_getElem? (i := 27) rfl)) rfl
theorem wq_6_28 : Cond.instanceMethod yX11_cut ∈ wg_T := wg_T_of (wg_t6 (List.mem_of_getElem? (i := 28) rfl)) rfl
theorem wq_6_29 : Cond.selects "WornWigs" yX11_cut yX11_cut ∈ wg_T := wg_T_of (wg_t6 (List.mem_of_getElem? (i := 29) rfl)) rfl
theorem wq_6_30 : Cond.code yX11_cut prog_1_method_35_code 2 (Option.some Jvm.ClassFile.FieldType.int) ∈ wg_T := wg_T_of (wg_t6 (List.mem_of_getElem? (i := 30) rfl)) rfl
theorem wq_9_118 : Cond.methodLink "WornWigsLaw" 152 yX12_cut ∈ wg_T := wg_T_of (wg_t9 (List.mem_of_getElem? (i := 118) rfl)) rfl
theorem wq_9_119 : Cond.instanceMethod yX12_cut ∈ wg_T := wg_T_of (wg_t9 (List.mem_of_getElem? (i := 119) rfl)) rfl
theorem wq_9_120 : Cond.selects "WornWigsModel" yX12_cut yX12_cut ∈ wg_T := wg_T_of (wg_t9 (List.mem_of_getElem? (i := 120) rfl)) rfl
theorem wq_9_121 : Cond.code yX12_cut prog_14_method_136_code 4 (Option.some Jvm.ClassFile.FieldType.int) ∈ wg_T := wg_T_of (wg_t9 (List.mem_of_getElem? (i := 121) rfl)) rfl
theorem wq_6_50 : Cond.methodLink "WornWigsLaw" 153 yX11_hard ∈ wg_T := wg_T_of (wg_t6 (List.mem_of_getElem? (i := 50) rfl)) rfl
theorem wq_6_51 : Cond.instanceMethod yX11_hard ∈ wg_T := wg_T_of (wg_t6 (List.mem_of_getElem? (i := 51) rfl)) rfl
theorem wq_6_52 : Cond.selects "WornWigs" yX11_hard yX11_hard ∈ wg_T := wg_T_of (wg_t6 (List.mem_of_getElem? (i := 52) rfl)) rfl
theorem wq_6_53 : Cond.code yX11_hard prog_1_method_36_code 3 (Option.some Jvm.ClassFile.FieldType.int) ∈ wg_T := wg_T_of (wg_t6 (List.mem_of_getElem? (i := 53) rfl)) rfl
theorem wq_9_130 : Cond.methodLink "WornWigsLaw" 156 yX12_hard ∈ wg_T := wg_T_of (wg_t9 (List.mem_of_getElem? (i := 130) rfl)) rfl
theorem wq_9_131 : Cond.instanceMethod yX12_hard ∈ wg_T := wg_T_of (wg_t9 (List.mem_of_getElem? (i := 131) rfl)) rfl
theorem wq_9_132 : Cond.selects "WornWigsModel" yX12_hard yX12_hard ∈ wg_T := wg_T_of (wg_t9 (List.mem_of_getElem? (i := 132) rfl)) rfl
theorem wq_9_133 : Cond.code yX12_hard prog_14_method_137_code 3 (Option.some Jvm.ClassFile.FieldType.int) ∈ wg_T := wg_T_of (wg_t9 (List.mem_of_getElem? (i := 133) rfl)) rfl
theorem wq_6_58 : Cond.methodLink "WornWigsLaw" 157 yX11_hears ∈ wg_T := wg_T_of (wg_t6 (List.mem_of_getElem? (i := 58) rfl)) rfl
theorem wq_6_59 : Cond.instanceMethod yX11_hears ∈ wg_T := wg_T_of (wg_t6 (List.mem_of_getElem? (i := 59) rfl)) rfl
theorem wq_6_60 : Cond.selects "WornWigs" yX11_hears yX11_hears ∈ wg_T := wg_T_of (wg_t6 (List.mem_of_getElem? (i := 60) rfl)) rfl
theorem wq_6_61 : Cond.code yX11_hears prog_1_method_37_code 2 (Option.some Jvm.ClassFile.FieldType.int) ∈ wg_T := wg_T_of (wg_t6 (List.mem_of_getElem? (i := 61) rfl)) rfl
theorem wq_9_134 : Cond.methodLink "WornWigsLaw" 160 yX12_hears ∈ wg_T := wg_T_of (wg_t9 (List.mem_of_getElem? (i := 134) rfl)) rfl
theorem wq_9_135 : Cond.instanceMethod yX12_hears ∈ wg_T := wg_T_of (wg_t9 (List.mem_of_getElem? (i := 135) rfl)) rfl
theorem wq_9_136 : Cond.selects "WornWigsModel" yX12_hears yX12_hears ∈ wg_T := wg_T_of (wg_t9 (List.mem_of_getElem? (i := 136) rfl)) rfl
theorem wq_9_137 : Cond.code yX12_hears prog_14_method_140_code 5 (Option.some Jvm.ClassFile.FieldType.int) ∈ wg_T := wg_T_of (wg_t9 (List.mem_of_getElem? (i := 137) rfl)) rfl
theorem wq_6_79 : Cond.methodLink "WornWigsLaw" 161 yX11_game ∈ wg_T := wg_T_of (wg_t6 (List.mem_of_getElem? (i := 79) rfl)) rfl
theorem wq_6_80 : Cond.instanceMethod yX11_game ∈ wg_T := wg_T_of (wg_t6 (List.mem_of_getElem? (i := 80) rfl)) rfl
theorem wq_6_81 : Cond.selects "WornWigs" yX11_game yX11_game ∈ wg_T := wg_T_of (wg_t6 (List.mem_of_getElem? (i := 81) rfl)) rfl
theorem wq_6_82 : Cond.code yX11_game prog_1_method_38_code 2 (Option.some Jvm.ClassFile.FieldType.int) ∈ wg_T := wg_T_of (wg_t6 (List.mem_of_getElem? (i := 82) rfl)) rfl
theorem wq_9_146 : Cond.methodLink "WornWigsLaw" 164 yX12_game ∈ wg_T := wg_T_of (wg_t9 (List.mem_of_getElem? (i := 146) rfl)) rfl
theorem wq_9_147 : Cond.instanceMethod yX12_game ∈ wg_T := wg_T_of (wg_t9 (List.mem_of_getElem? (i := 147) rfl)) rfl
theorem wq_9_148 : Cond.selects "WornWigsModel" yX12_game yX12_game ∈ wg_T := wg_T_of (wg_t9 (List.mem_of_getElem? (i := 148) rfl)) rfl
theorem wq_9_149 : Cond.code yX12_game prog_14_method_141_code 5 (Option.some Jvm.ClassFile.FieldType.int) ∈ wg_T := wg_T_of (wg_t9 (List.mem_of_getElem? (i := 149) rfl)) rfl
theorem wq_6_87 : Cond.methodLink "WornWigsLaw" 165 yX11_undo ∈ wg_T := wg_T_of (wg_t6 (List.mem_of_getElem? (i := 87) rfl)) rfl
theorem wq_6_88 : Cond.instanceMethod yX11_undo ∈ wg_T := wg_T_of (wg_t6 (List.mem_of_getElem? (i := 88) rfl)) rfl
theorem wq_6_89 : Cond.selects "WornWigs" yX11_undo yX11_undo ∈ wg_T := wg_T_of (wg_t6 (List.mem_of_getElem? (i := 89) rfl)) rfl
theorem wq_6_90 : Cond.code yX11_undo prog_1_method_39_code 1 (Option.some Jvm.ClassFile.FieldType.boolean) ∈ wg_T := wg_T_of (wg_t6 (List.mem_of_getElem? (i := 90) rfl)) rfl
theorem wq_7_70 : Cond.methodLink "WornWigsLaw" 169 yX12_undo ∈ wg_T := wg_T_of (wg_t7 (List.mem_of_getElem? (i := 70) rfl)) rfl
theorem wq_7_71 : Cond.instanceMethod yX12_undo ∈ wg_T := wg_T_of (wg_t7 (List.mem_of_getElem? (i := 71) rfl)) rfl
theorem wq_7_72 : Cond.selects "WornWigsModel" yX12_undo yX12_undo ∈ wg_T := wg_T_of (wg_t7 (List.mem_of_getElem? (i := 72) rfl)) rfl
theorem wq_7_73 : Cond.code yX12_undo prog_14_method_11_code 2 (Option.some Jvm.ClassFile.FieldType.boolean) ∈ wg_T := wg_T_of (wg_t7 (List.mem_of_getElem? (i := 73) rfl)) rfl
theorem wq_6_95 : Cond.methodLink "WornWigsLaw" 170 yX11_image ∈ wg_T := wg_T_of (wg_t6 (List.mem_of_getElem? (i := 95) rfl)) rfl
theorem wq_6_96 : Cond.instanceMethod yX11_image ∈ wg_T := wg_T_of (wg_t6 (List.mem_of_getElem? (i := 96) rfl)) rfl
theorem wq_6_97 : Cond.selects "WornWigs" yX11_image yX11_image ∈ wg_T := wg_T_of (wg_t6 (List.mem_of_getElem? (i := 97) rfl)) rfl
theorem wq_6_98 : Cond.code yX11_image prog_1_method_40_code 2 (Option.some Jvm.ClassFile.FieldType.boolean) ∈ wg_T := wg_T_of (wg_t6 (List.mem_of_getElem? (i := 98) rfl)) rfl
theorem wq_9_150 : Cond.methodLink "WornWigsLaw" 174 yX12_image ∈ wg_T := wg_T_of (wg_t9 (List.mem_of_getElem? (i := 150) rfl)) rfl
theorem wq_9_151 : Cond.instanceMethod yX12_image ∈ wg_T := wg_T_of (wg_t9 (List.mem_of_getElem? (i := 151) rfl)) rfl
theorem wq_9_152 : Cond.selects "WornWigsModel" yX12_image yX12_image ∈ wg_T := wg_T_of (wg_t9 (List.mem_of_getElem? (i := 152) rfl)) rfl
theorem wq_9_153 : Cond.code yX12_image prog_14_method_146_code 3 (Option.some Jvm.ClassFile.FieldType.boolean) ∈ wg_T := wg_T_of (wg_t9 (List.mem_of_getElem? (i := 153) rfl)) rfl
theorem wq_6_111 : Cond.methodLink "WornWigsLaw" 175 yX11_look ∈ wg_T := wg_T_of (wg_t6 (List.mem_of_getElem? (i := 111) rfl)) rfl
theorem wq_6_112 : Cond.instanceMethod yX11_look ∈ wg_T := wg_T_of (wg_t6 (List.mem_of_getElem? (i := 112) rfl)) rfl
theorem wq_6_113 : Cond.selects "WornWigs" yX11_look yX11_look ∈ wg_T := wg_T_of (wg_t6 (List.mem_of_getElem? (i := 113) rfl)) rfl
theorem wq_6_114 : Cond.code yX11_look prog_1_method_41_code 3 (Option.some Jvm.ClassFile.FieldType.int) ∈ wg_T := wg_T_of (wg_t6 (List.mem_of_getElem? (i := 114) rfl)) rfl
theorem wq_9_170 : Cond.methodLink "WornWigsLaw" 178 yX12_look ∈ wg_T := wg_T_of (wg_t9 (List.mem_of_getElem? (i := 170) rfl)) rfl
theorem wq_9_171 : Cond.instanceMethod yX12_look ∈ wg_T := wg_T_of (wg_t9 (List.mem_of_getElem? (i := 171) rfl)) rfl
theorem wq_9_172 : Cond.selects "WornWigsModel" yX12_look yX12_look ∈ wg_T := wg_T_of (wg_t9 (List.mem_of_getElem? (i := 172) rfl)) rfl
theorem wq_9_173 : Cond.code yX12_look prog_14_method_148_code 2 (Option.some Jvm.ClassFile.FieldType.int) ∈ wg_T := wg_T_of (wg_t9 (List.mem_of_getElem? (i := 173) rfl)) rfl
theorem wq_1_7 : Cond.initialized "java/lang/Math" ∈ wg_T := wg_T_of (wg_t1 (List.mem_of_getElem? (i := 7) rfl)) rfl
theorem wq_3_99 : Cond.code yJ9_min_7cf53 prog_16_method_69_code 2 (Option.some Jvm.ClassFile.FieldType.int) ∈ wg_T := wg_T_of (wg_t3 (List.mem_of_getElem? (i := 99) rfl)) rfl
theorem wq_3_145 : Cond.methodLink "WornWigs" 399 yJ9_min_7cf53 ∈ wg_T := wg_T_of (wg_t3 (List.mem_of_getElem? (i := 145) rfl)) rfl
theorem wq_3_98 : Cond.static yJ9_min_7cf53 ∈ wg_T := wg_T_of (wg_t3 (List.mem_of_getElem? (i := 98) rfl)) rfl
theorem wq_3_146 : Cond.methodLink "WornWigs" 407 ⟨"java/lang/System", "arraycopy", "(Ljava/lang/Object;ILjava/lang/Object;II)V"⟩ ∈ wg_T := wg_T_of (wg_t3 (List.mem_of_getElem? (i := 146) rfl)) rfl
theorem wq_3_148 : Cond.native ⟨"java/lang/System", "arraycopy", "(Ljava/lang/Object;ILjava/lang/Object;II)V"⟩ ∈ wg_T := wg_T_of (wg_t3 (List.mem_of_getElem? (i := 148) rfl)) rfl
theorem wq_3_147 : Cond.static ⟨"java/lang/System", "arraycopy", "(Ljava/lang/Object;ILjava/lang/Object;II)V"⟩ ∈ wg_T := wg_T_of (wg_t3 (List.mem_of_getElem? (i := 147) rfl)) rfl
theorem wq_1_16 : Cond.initialized "java/lang/System" ∈ wg_T := wg_T_of (wg_t1 (List.mem_of_getElem? (i := 16) rfl)) rfl
theorem wq_1_48 : Cond.fieldLink "WornWigs$Wigs" 9 "WornWigs$Wigs" "colour" "[I" ∈ wg_T := wg_T_of (wg_t1 (List.mem_of_getElem? (i := 48) rfl)) rfl
theorem wq_3_144 : Cond.code yX11_copyRow prog_1_method_44_code 2 (Option.none : Option Jvm.ClassFile.FieldType) ∈ wg_T := wg_T_of (wg_t3 (List.mem_of_getElem? (i := 144) rfl)) rfl
theorem wq_3_143 : Cond.static yX11_copyRow ∈ wg_T := wg_T_of (wg_t3 (List.mem_of_getElem? (i := 143) rfl)) rfl
theorem wq_1_52 : Cond.fieldLink "WornWigs$Wigs" 15 "WornWigs$Wigs" "hair" "[I" ∈ wg_T := wg_T_of (wg_t1 (List.mem_of_getElem? (i := 52) rfl)) rfl
theorem wq_1_56 : Cond.fieldLink "WornWigs$Wigs" 18 "WornWigs$Wigs" "itch" "[I" ∈ wg_T := wg_T_of (wg_t1 (List.mem_of_getElem? (i := 56) rfl)) rfl
theorem wq_1_59 : Cond.fieldLink "WornWigs$Wigs" 21 "WornWigs$Wigs" "lent" "[I" ∈ wg_T := wg_T_of (wg_t1 (List.mem_of_getElem? (i := 59) rfl)) rfl
theorem wq_1_63 : Cond.fieldLink "WornWigs$Wigs" 24 "WornWigs$Wigs" "rules" "[I" ∈ wg_T := wg_T_of (wg_t1 (List.mem_of_getElem? (i := 63) rfl)) rfl
theorem wq_1_67 : Cond.fieldLink "WornWigs$Wigs" 27 "WornWigs$Wigs" "cause" "[I" ∈ wg_T := wg_T_of (wg_t1 (List.mem_of_getElem? (i := 67) rfl)) rfl
theorem wq_1_70 : Cond.fieldLink "WornWigs$Wigs" 30 "WornWigs$Wigs" "ruling" "[I" ∈ wg_T := wg_T_of (wg_t1 (List.mem_of_getElem? (i := 70) rfl)) rfl
theorem wq_1_73 : Cond.fieldLink "WornWigs$Wigs" 33 "WornWigs$Wigs" "weight" "[I" ∈ wg_T := wg_T_of (wg_t1 (List.mem_of_getElem? (i := 73) rfl)) rfl
theorem wq_1_76 : Cond.fieldLink "WornWigs$Wigs" 40 "WornWigs$Wigs" "count" "I" ∈ wg_T := wg_T_of (wg_t1 (List.mem_of_getElem? (i := 76) rfl)) rfl
theorem wq_1_108 : Cond.fieldLink "WornWigs$Judges" 9 "WornWigs$Judges" "age" "[I" ∈ wg_T := wg_T_of (wg_t1 (List.mem_of_getElem? (i := 108) rfl)) rfl
theorem wq_1_111 : Cond.fieldLink "WornWigs$Judges" 15 "WornWigs$Judges" "mind" "[I" ∈ wg_T := wg_T_of (wg_t1 (List.mem_of_getElem? (i := 111) rfl)) rfl
theorem wq_1_114 : Cond.fieldLink "WornWigs$Judges" 18 "WornWigs$Judges" "worn" "[I" ∈ wg_T := wg_T_of (wg_t1 (List.mem_of_getElem? (i := 114) rfl)) rfl
theorem wq_1_117 : Cond.fieldLink "WornWigs$Judges" 21 "WornWigs$Judges" "dead" "[I" ∈ wg_T := wg_T_of (wg_t1 (List.mem_of_getElem? (i := 117) rfl)) rfl
theorem wq_1_120 : Cond.fieldLink "WornWigs$Judges" 24 "WornWigs$Judges" "tried" "[I" ∈ wg_T := wg_T_of (wg_t1 (List.mem_of_getElem? (i := 120) rfl)) rfl
theorem wq_1_124 : Cond.fieldLink "WornWigs$Judges" 31 "WornWigs$Judges" "count" "I" ∈ wg_T := wg_T_of (wg_t1 (List.mem_of_getElem? (i := 124) rfl)) rfl
theorem wq_1_141 : Cond.fieldLink "WornWigs$Bench" 12 "WornWigs$Bench" "wigs" "LWornWigs$Wigs;" ∈ wg_T := wg_T_of (wg_t1 (List.mem_of_getElem? (i := 141) rfl)) rfl
theorem wq_1_4 : Cond.initialized "WornWigs$Wigs" ∈ wg_T := wg_T_of (wg_t1 (List.mem_of_getElem? (i := 4) rfl)) rfl
theorem wq_3_141 : Cond.code yX9_copyFrom prog_11_method_2_code 2 (Option.none : Option Jvm.ClassFile.FieldType) ∈ wg_T := wg_T_of (wg_t3 (List.mem_of_getElem? (i := 141) rfl)) rfl
theorem wq_3_138 : Cond.methodLink "WornWigs$Bench" 38 yX9_copyFrom ∈ wg_T := wg_T_of (wg_t3 (List.mem_of_getElem? (i := 138) rfl)) rfl
theorem wq_3_139 : Cond.instanceMethod yX9_copyFrom ∈ wg_T := wg_T_of (wg_t3 (List.mem_of_getElem? (i := 139) rfl)) rfl
theorem wq_3_140 : Cond.selects "WornWigs$Wigs" yX9_copyFrom yX9_copyFrom ∈ wg_T := wg_T_of (wg_t3 (List.mem_of_getElem? (i := 140) rfl)) rfl
theorem wq_1_146 : Cond.fieldLink "WornWigs$Bench" 21 "WornWigs$Bench" "judges" "LWornWigs$Judges;" ∈ wg_T := wg_T_of (wg_t1 (List.mem_of_getElem? (i := 146) rfl)) rfl
theorem wq_1_5 : Cond.initialized "WornWigs$Judges" ∈ wg_T := wg_T_of (wg_t1 (List.mem_of_getElem? (i := 5) rfl)) rfl
theorem wq_3_152 : Cond.code yX2_copyFrom prog_4_method_2_code 2 (Option.none : Option Jvm.ClassFile.FieldType) ∈ wg_T := wg_T_of (wg_t3 (List.mem_of_getElem? (i := 152) rfl)) rfl
theorem wq_3_149 : Cond.methodLink "WornWigs$Bench" 42 yX2_copyFrom ∈ wg_T := wg_T_of (wg_t3 (List.mem_of_getElem? (i := 149) rfl)) rfl
theorem wq_3_150 : Cond.instanceMethod yX2_copyFrom ∈ wg_T := wg_T_of (wg_t3 (List.mem_of_getElem? (i := 150) rfl)) rfl
theorem wq_3_151 : Cond.selects "WornWigs$Judges" yX2_copyFrom yX2_copyFrom ∈ wg_T := wg_T_of (wg_t3 (List.mem_of_getElem? (i := 151) rfl)) rfl
theorem wq_1_151 : Cond.fieldLink "WornWigs$Bench" 25 "WornWigs$Bench" "cause" "[I" ∈ wg_T := wg_T_of (wg_t1 (List.mem_of_getElem? (i := 151) rfl)) rfl
theorem wq_1_154 : Cond.fieldLink "WornWigs$Bench" 29 "WornWigs$Bench" "merit" "[I" ∈ wg_T := wg_T_of (wg_t1 (List.mem_of_getElem? (i := 154) rfl)) rfl
theorem wq_1_157 : Cond.fieldLink "WornWigs$Bench" 32 "WornWigs$Bench" "verdict" "[I" ∈ wg_T := wg_T_of (wg_t1 (List.mem_of_getElem? (i := 157) rfl)) rfl
theorem wq_1_160 : Cond.fieldLink "WornWigs$Bench" 35 "WornWigs$Bench" "by" "[I" ∈ wg_T := wg_T_of (wg_t1 (List.mem_of_getElem? (i := 160) rfl)) rfl
theorem wq_1_163 : Cond.fieldLink "WornWigs$Bench" 49 "WornWigs$Bench" "cases" "I" ∈ wg_T := wg_T_of (wg_t1 (List.mem_of_getElem? (i := 163) rfl)) rfl
theorem wq_1_166 : Cond.fieldLink "WornWigs$Bench" 53 "WornWigs$Bench" "year" "I" ∈ wg_T := wg_T_of (wg_t1 (List.mem_of_getElem? (i := 166) rfl)) rfl
theorem wq_1_170 : Cond.fieldLink "WornWigs$Bench" 56 "WornWigs$Bench" "draws" "I" ∈ wg_T := wg_T_of (wg_t1 (List.mem_of_getElem? (i := 170) rfl)) rfl
theorem wq_1_171 : Cond.fieldLink "WornWigs$Bench" 59 "WornWigs$Bench" "bookLines" "I" ∈ wg_T := wg_T_of (wg_t1 (List.mem_of_getElem? (i := 171) rfl)) rfl
theorem wq_3_94 : Cond.constant "java/lang/Integer" 265 (1431655765) ∈ wg_T := wg_T_of (wg_t3 (List.mem_of_getElem? (i := 94) rfl)) rfl
theorem wq_3_95 : Cond.constant "java/lang/Integer" 266 (858993459) ∈ wg_T := wg_T_of (wg_t3 (List.mem_of_getElem? (i := 95) rfl)) rfl
theorem wq_3_96 : Cond.constant "java/lang/Integer" 267 (252645135) ∈ wg_T := wg_T_of (wg_t3 (List.mem_of_getElem? (i := 96) rfl)) rfl
theorem wq_1_78 : Cond.fieldLink "WornWigs$Bench" 75 "WornWigs$Wigs" "count" "I" ∈ wg_T := wg_T_of (wg_t1 (List.mem_of_getElem? (i := 78) rfl)) rfl
theorem wq_1_65 : Cond.fieldLink "WornWigs$Bench" 84 "WornWigs$Wigs" "rules" "[I" ∈ wg_T := wg_T_of (wg_t1 (List.mem_of_getElem? (i := 65) rfl)) rfl
theorem wq_5_82 : Cond.code yX2_deadSet prog_4_method_8_code 3 (Option.some Jvm.ClassFile.FieldType.int) ∈ wg_T := wg_T_of (wg_t5 (List.mem_of_getElem? (i := 82) rfl)) rfl
theorem wq_5_79 : Cond.methodLink "WornWigs$Bench" 62 yX2_deadSet ∈ wg_T := wg_T_of (wg_t5 (List.mem_of_getElem? (i := 79) rfl)) rfl
theorem wq_5_80 : Cond.instanceMethod yX2_deadSet ∈ wg_T := wg_T_of (wg_t5 (List.mem_of_getElem? (i := 80) rfl)) rfl
theorem wq_5_81 : Cond.selects "WornWigs$Judges" yX2_deadSet yX2_deadSet ∈ wg_T := wg_T_of (wg_t5 (List.mem_of_getElem? (i := 81) rfl)) rfl
theorem wq_1_15 : Cond.initialized "java/lang/Integer" ∈ wg_T := wg_T_of (wg_t1 (List.mem_of_getElem? (i := 15) rfl)) rfl
theorem wq_3_93 : Cond.code yJ6_bitCount_0f7a4 prog_15_method_49_code 1 (Option.some Jvm.ClassFile.FieldType.int) ∈ wg_T := wg_T_of (wg_t3 (List.mem_of_getElem? (i := 93) rfl)) rfl
theorem wq_5_83 : Cond.methodLink "WornWigs$Bench" 66 yJ6_bitCount_0f7a4 ∈ wg_T := wg_T_of (wg_t5 (List.mem_of_getElem? (i := 83) rfl)) rfl
theorem wq_3_92 : Cond.static yJ6_bitCount_0f7a4 ∈ wg_T := wg_T_of (wg_t3 (List.mem_of_getElem? (i := 92) rfl)) rfl
theorem wq_1_3 : Cond.initialized "WornWigs$Bench" ∈ wg_T := wg_T_of (wg_t1 (List.mem_of_getElem? (i := 3) rfl)) rfl
theorem wq_5_87 : Cond.code yX0_allRules prog_2_method_7_code 3 (Option.some Jvm.ClassFile.FieldType.int) ∈ wg_T := wg_T_of (wg_t5 (List.mem_of_getElem? (i := 87) rfl)) rfl
theorem wq_5_84 : Cond.methodLink "WornWigs$Bench" 72 yX0_allRules ∈ wg_T := wg_T_of (wg_t5 (List.mem_of_getElem? (i := 84) rfl)) rfl
theorem wq_5_86 : Cond.instanceMethod yX0_allRules ∈ wg_T := wg_T_of (wg_t5 (List.mem_of_getElem? (i := 86) rfl)) rfl
theorem wq_p3_6 : Cond.selects "WornWigs$Bench" yX0_allRules yX0_allRules ∈ wg_T := wg_T_of (wg_sel (q := (⟨"WornWigs$Bench", "allRules", "()I"⟩, _)) (List.mem_append_right _ (List.mem_append_right _ (List.mem_append_left _ (List.mem_of_getElem? (i := 6) rfl))))) rfl
theorem wq_5_91 : Cond.code yX9_hairOf prog_11_method_19_code 4 (Option.some Jvm.ClassFile.FieldType.int) ∈ wg_T := wg_T_of (wg_t5 (List.mem_of_getElem? (i := 91) rfl)) rfl
theorem wq_5_88 : Cond.methodLink "WornWigs$Bench" 78 yX9_hairOf ∈ wg_T := wg_T_of (wg_t5 (List.mem_of_getElem? (i := 88) rfl)) rfl
theorem wq_5_89 : Cond.instanceMethod yX9_hairOf ∈ wg_T := wg_T_of (wg_t5 (List.mem_of_getElem? (i := 89) rfl)) rfl
theorem wq_5_90 : Cond.selects "WornWigs$Wigs" yX9_hairOf yX9_hairOf ∈ wg_T := wg_T_of (wg_t5 (List.mem_of_getElem? (i := 90) rfl)) rfl
theorem wq_5_95 : Cond.code yX0_verdictsAbove prog_2_method_8_code 3 (Option.some Jvm.ClassFile.FieldType.int) ∈ wg_T := wg_T_of (wg_t5 (List.mem_of_getElem? (i := 95) rfl)) rfl
theorem wq_5_92 : Cond.methodLink "WornWigs$Bench" 81 yX0_verdictsAbove ∈ wg_T := wg_T_of (wg_t5 (List.mem_of_getElem? (i := 92) rfl)) rfl
theorem wq_5_94 : Cond.instanceMethod yX0_verdictsAbove ∈ wg_T := wg_T_of (wg_t5 (List.mem_of_getElem? (i := 94) rfl)) rfl
theorem wq_p3_7 : Cond.selects "WornWigs$Bench" yX0_verdictsAbove yX0_verdictsAbove ∈ wg_T := wg_T_of (wg_sel (q := (⟨"WornWigs$Bench", "verdictsAbove", "()I"⟩, _)) (List.mem_append_right _ (List.mem_append_right _ (List.mem_append_left _ (List.mem_of_getElem? (i := 7) rfl))))) rfl
theorem wq_4_47 : Cond.constant "WornWigs$Bench" 87 (1664525) ∈ wg_T := wg_T_of (wg_t4 (List.mem_of_getElem? (i := 47) rfl)) rfl
theorem wq_4_48 : Cond.constant "WornWigs$Bench" 88 (1013904223) ∈ wg_T := wg_T_of (wg_t4 (List.mem_of_getElem? (i := 48) rfl)) rfl
theorem wq_2_224 : Cond.fieldLink "WornWigs$Court" 12 "WornWigs$Court" "aside" "LWornWigs$Bench;" ∈ wg_T := wg_T_of (wg_t2 (List.mem_of_getElem? (i := 224) rfl)) rfl
theorem wq_2_220 : Cond.fieldLink "WornWigs$Court" 27 "WornWigs$Court" "bench" "LWornWigs$Bench;" ∈ wg_T := wg_T_of (wg_t2 (List.mem_of_getElem? (i := 220) rfl)) rfl
theorem wq_3_137 : Cond.code yX0_copyFrom prog_2_method_2_code 2 (Option.none : Option Jvm.ClassFile.FieldType) ∈ wg_T := wg_T_of (wg_t3 (List.mem_of_getElem? (i := 137) rfl)) rfl
theorem wq_5_74 : Cond.methodLink "WornWigs$Court" 43 yX0_copyFrom ∈ wg_T := wg_T_of (wg_t5 (List.mem_of_getElem? (i := 74) rfl)) rfl
theorem wq_3_135 : Cond.instanceMethod yX0_copyFrom ∈ wg_T := wg_T_of (wg_t3 (List.mem_of_getElem? (i := 135) rfl)) rfl
theorem wq_3_136 : Cond.selects "WornWigs$Bench" yX0_copyFrom yX0_copyFrom ∈ wg_T := wg_T_of (wg_t3 (List.mem_of_getElem? (i := 136) rfl)) rfl
theorem wq_2_225 : Cond.fieldLink "WornWigs$Court" 47 "WornWigs$Court" "inThought" "Z" ∈ wg_T := wg_T_of (wg_t2 (List.mem_of_getElem? (i := 225) rfl)) rfl
theorem wq_1_218 : Cond.fieldLink "WornWigs$Lines" 34 "WornWigs$Lines" "count" "I" ∈ wg_T := wg_T_of (wg_t1 (List.mem_of_getElem? (i := 218) rfl)) rfl
theorem wq_1_204 : Cond.fieldLink "WornWigs$Lines" 13 "WornWigs$Lines" "year" "[I" ∈ wg_T := wg_T_of (wg_t1 (List.mem_of_getElem? (i := 204) rfl)) rfl
theorem wq_1_207 : Cond.fieldLink "WornWigs$Lines" 19 "WornWigs$Lines" "what" "[I" ∈ wg_T := wg_T_of (wg_t1 (List.mem_of_getElem? (i := 207) rfl)) rfl
theorem wq_1_210 : Cond.fieldLink "WornWigs$Lines" 22 "WornWigs$Lines" "first" "[I" ∈ wg_T := wg_T_of (wg_t1 (List.mem_of_getElem? (i := 210) rfl)) rfl
theorem wq_1_214 : Cond.fieldLink "WornWigs$Lines" 25 "WornWigs$Lines" "second" "[I" ∈ wg_T := wg_T_of (wg_t1 (List.mem_of_getElem? (i := 214) rfl)) rfl
theorem wq_2_219 : Cond.fieldLink "WornWigs$Court" 18 "WornWigs$Court" "world" "LWornWigs$World;" ∈ wg_T := wg_T_of (wg_t2 (List.mem_of_getElem? (i := 219) rfl)) rfl
theorem wq_2_92 : Cond.fieldLink "WornWigs$Court" 51 "WornWigs$World" "pages" "LWornWigs$Lines;" ∈ wg_T := wg_T_of (wg_t2 (List.mem_of_getElem? (i := 92) rfl)) rfl
theorem wq_1_172 : Cond.fieldLink "WornWigs$Court" 55 "WornWigs$Bench" "bookLines" "I" ∈ wg_T := wg_T_of (wg_t1 (List.mem_of_getElem? (i := 172) rfl)) rfl
theorem wq_1_219 : Cond.fieldLink "WornWigs$Court" 59 "WornWigs$Lines" "count" "I" ∈ wg_T := wg_T_of (wg_t1 (List.mem_of_getElem? (i := 219) rfl)) rfl
theorem wq_1_167 : Cond.fieldLink "WornWigs$Court" 64 "WornWigs$Bench" "year" "I" ∈ wg_T := wg_T_of (wg_t1 (List.mem_of_getElem? (i := 167) rfl)) rfl
theorem wq_1_6 : Cond.initialized "WornWigs$Lines" ∈ wg_T := wg_T_of (wg_t1 (List.mem_of_getElem? (i := 6) rfl)) rfl
theorem wq_3_222 : Cond.code yX4_add prog_6_method_3_code 5 (Option.none : Option Jvm.ClassFile.FieldType) ∈ wg_T := wg_T_of (wg_t3 (List.mem_of_getElem? (i := 222) rfl)) rfl
theorem wq_3_219 : Cond.methodLink "WornWigs$Court" 67 yX4_add ∈ wg_T := wg_T_of (wg_t3 (List.mem_of_getElem? (i := 219) rfl)) rfl
theorem wq_3_220 : Cond.instanceMethod yX4_add ∈ wg_T := wg_T_of (wg_t3 (List.mem_of_getElem? (i := 220) rfl)) rfl
theorem wq_3_221 : Cond.selects "WornWigs$Lines" yX4_add yX4_add ∈ wg_T := wg_T_of (wg_t3 (List.mem_of_getElem? (i := 221) rfl)) rfl
theorem wq_2_223 : Cond.fieldLink "WornWigs$Court" 42 "WornWigs$Court" "law" "LWornWigs$Law;" ∈ wg_T := wg_T_of (wg_t2 (List.mem_of_getElem? (i := 223) rfl)) rfl
theorem wq_2_14 : Cond.fieldLink "WornWigs$Court" 71 "WornWigs$Law" "facts" "[I" ∈ wg_T := wg_T_of (wg_t2 (List.mem_of_getElem? (i := 14) rfl)) rfl
theorem wq_1_17 : Cond.initialized "java/util/Arrays" ∈ wg_T := wg_T_of (wg_t1 (List.mem_of_getElem? (i := 17) rfl)) rfl
theorem wq_3_175 : Cond.code yJ7_fill_53178 prog_21_method_103_code 4 (Option.none : Option Jvm.ClassFile.FieldType) ∈ wg_T := wg_T_of (wg_t3 (List.mem_of_getElem? (i := 175) rfl)) rfl
theorem wq_3_173 : Cond.methodLink "WornWigs$Court" 77 yJ7_fill_53178 ∈ wg_T := wg_T_of (wg_t3 (List.mem_of_getElem? (i := 173) rfl)) rfl
theorem wq_3_174 : Cond.static yJ7_fill_53178 ∈ wg_T := wg_T_of (wg_t3 (List.mem_of_getElem? (i := 174) rfl)) rfl
theorem wq_2_222 : Cond.fieldLink "WornWigs$Court" 37 "WornWigs$Court" "judges" "LWornWigs$Judges;" ∈ wg_T := wg_T_of (wg_t2 (List.mem_of_getElem? (i := 222) rfl)) rfl
theorem wq_1_109 : Cond.fieldLink "WornWigs$Court" 83 "WornWigs$Judges" "age" "[I" ∈ wg_T := wg_T_of (wg_t1 (List.mem_of_getElem? (i := 109) rfl)) rfl
theorem wq_1_112 : Cond.fieldLink "WornWigs$Court" 88 "WornWigs$Judges" "mind" "[I" ∈ wg_T := wg_T_of (wg_t1 (List.mem_of_getElem? (i := 112) rfl)) rfl
theorem wq_1_121 : Cond.fieldLink "WornWigs$Court" 91 "WornWigs$Judges" "tried" "[I" ∈ wg_T := wg_T_of (wg_t1 (List.mem_of_getElem? (i := 121) rfl)) rfl
theorem wq_2_221 : Cond.fieldLink "WornWigs$Court" 32 "WornWigs$Court" "wigs" "LWornWigs$Wigs;" ∈ wg_T := wg_T_of (wg_t2 (List.mem_of_getElem? (i := 221) rfl)) rfl
theorem wq_1_49 : Cond.fieldLink "WornWigs$Court" 94 "WornWigs$Wigs" "colour" "[I" ∈ wg_T := wg_T_of (wg_t1 (List.mem_of_getElem? (i := 49) rfl)) rfl
theorem wq_1_53 : Cond.fieldLink "WornWigs$Court" 99 "WornWigs$Wigs" "hair" "[I" ∈ wg_T := wg_T_of (wg_t1 (List.mem_of_getElem? (i := 53) rfl)) rfl
theorem wq_1_57 : Cond.fieldLink "WornWigs$Court" 102 "WornWigs$Wigs" "itch" "[I" ∈ wg_T := wg_T_of (wg_t1 (List.mem_of_getElem? (i := 57) rfl)) rfl
theorem wq_1_60 : Cond.fieldLink "WornWigs$Court" 105 "WornWigs$Wigs" "lent" "[I" ∈ wg_T := wg_T_of (wg_t1 (List.mem_of_getElem? (i := 60) rfl)) rfl
theorem wq_2_15 : Cond.fieldLink "WornWigs$Law" 30 "WornWigs$Law" "stack" "[I" ∈ wg_T := wg_T_of (wg_t2 (List.mem_of_getElem? (i := 15) rfl)) rfl
theorem wq_2_13 : Cond.fieldLink "WornWigs$Law" 27 "WornWigs$Law" "facts" "[I" ∈ wg_T := wg_T_of (wg_t2 (List.mem_of_getElem? (i := 13) rfl)) rfl
theorem wq_2_1 : Cond.fieldLink "WornWigs$Law" 15 "WornWigs$Law" "value" "[I" ∈ wg_T := wg_T_of (wg_t2 (List.mem_of_getElem? (i := 1) rfl)) rfl
theorem wq_2_0 : Cond.fieldLink "WornWigs$Law" 9 "WornWigs$Law" "sign" "[I" ∈ wg_T := wg_T_of (wg_t2 (List.mem_of_getElem? (i := 0) rfl)) rfl
theorem wq_1_8 : Cond.initialized "WornWigs$Law" ∈ wg_T := wg_T_of (wg_t1 (List.mem_of_getElem? (i := 8) rfl)) rfl
theorem wq_3_194 : Cond.code yX3_joined prog_5_method_7_code 3 (Option.some Jvm.ClassFile.FieldType.int) ∈ wg_T := wg_T_of (wg_t3 (List.mem_of_getElem? (i := 194) rfl)) rfl
theorem wq_3_192 : Cond.methodLink "WornWigs$Law" 48 yX3_joined ∈ wg_T := wg_T_of (wg_t3 (List.mem_of_getElem? (i := 192) rfl)) rfl
theorem wq_3_193 : Cond.static yX3_joined ∈ wg_T := wg_T_of (wg_t3 (List.mem_of_getElem? (i := 193) rfl)) rfl
theorem wq_2_8 : Cond.fieldLink "WornWigs$Law" 24 "WornWigs$Law" "whenEnd" "[I" ∈ wg_T := wg_T_of (wg_t2 (List.mem_of_getElem? (i := 8) rfl)) rfl
theorem wq_2_6 : Cond.fieldLink "WornWigs$Law" 21 "WornWigs$Law" "sumEnd" "[I" ∈ wg_T := wg_T_of (wg_t2 (List.mem_of_getElem? (i := 6) rfl)) rfl
theorem wq_3_191 : Cond.code yX3_run prog_5_method_6_code 6 (Option.some Jvm.ClassFile.FieldType.int) ∈ wg_T := wg_T_of (wg_t3 (List.mem_of_getElem? (i := 191) rfl)) rfl
theorem wq_3_188 : Cond.methodLink "WornWigs$Law" 44 yX3_run ∈ wg_T := wg_T_of (wg_t3 (List.mem_of_getElem? (i := 188) rfl)) rfl
theorem wq_3_190 : Cond.instanceMethod yX3_run ∈ wg_T := wg_T_of (wg_t3 (List.mem_of_getElem? (i := 190) rfl)) rfl
theorem wq_p1_6 : Cond.selects "WornWigs$Law" yX3_run yX3_run ∈ wg_T := wg_T_of (wg_sel (q := (⟨"WornWigs$Law", "run", "(II)I"⟩, _)) (List.mem_append_left _ (List.mem_of_getElem? (i := 6) rfl))) rfl
theorem wq_2_10 : Cond.fieldLink "WornWigs$Law" 41 "WornWigs$Law" "lines" "I" ∈ wg_T := wg_T_of (wg_t2 (List.mem_of_getElem? (i := 10) rfl)) rfl
theorem wq_2_4 : Cond.fieldLink "WornWigs$Law" 18 "WornWigs$Law" "word" "[I" ∈ wg_T := wg_T_of (wg_t2 (List.mem_of_getElem? (i := 4) rfl)) rfl
theorem wq_1_203 : Cond.code yJ9_max_7cf53 prog_16_method_65_code 2 (Option.some Jvm.ClassFile.FieldType.int) ∈ wg_T := wg_T_of (wg_t1 (List.mem_of_getElem? (i := 203) rfl)) rfl
theorem wq_3_198 : Cond.methodLink "WornWigs" 404 yJ9_max_7cf53 ∈ wg_T := wg_T_of (wg_t3 (List.mem_of_getElem? (i := 198) rfl)) rfl
theorem wq_1_202 : Cond.static yJ9_max_7cf53 ∈ wg_T := wg_T_of (wg_t1 (List.mem_of_getElem? (i := 202) rfl)) rfl
theorem wq_1_12 : Cond.initialized "WornWigs$Court" ∈ wg_T := wg_T_of (wg_t1 (List.mem_of_getElem? (i := 12) rfl)) rfl
theorem wq_3_172 : Cond.code yX1_askNobody prog_3_method_5_code 1 (Option.none : Option Jvm.ClassFile.FieldType) ∈ wg_T := wg_T_of (wg_t3 (List.mem_of_getElem? (i := 172) rfl)) rfl
theorem wq_3_169 : Cond.methodLink "WornWigs$Court" 108 yX1_askNobody ∈ wg_T := wg_T_of (wg_t3 (List.mem_of_getElem? (i := 169) rfl)) rfl
theorem wq_3_171 : Cond.instanceMethod yX1_askNobody ∈ wg_T := wg_T_of (wg_t3 (List.mem_of_getElem? (i := 171) rfl)) rfl
theorem wq_p1_3 : Cond.selects "WornWigs$Court" yX1_askNobody yX1_askNobody ∈ wg_T := wg_T_of (wg_sel (q := (⟨"WornWigs$Court", "askNobody", "()V"⟩, _)) (List.mem_append_left _ (List.mem_of_getElem? (i := 3) rfl))) rfl
theorem wq_3_179 : Cond.code yX1_askJudge prog_3_method_6_code 2 (Option.none : Option Jvm.ClassFile.FieldType) ∈ wg_T := wg_T_of (wg_t3 (List.mem_of_getElem? (i := 179) rfl)) rfl
theorem wq_3_176 : Cond.methodLink "WornWigs$Court" 111 yX1_askJudge ∈ wg_T := wg_T_of (wg_t3 (List.mem_of_getElem? (i := 176) rfl)) rfl
theorem wq_3_178 : Cond.instanceMethod yX1_askJudge ∈ wg_T := wg_T_of (wg_t3 (List.mem_of_getElem? (i := 178) rfl)) rfl
theorem wq_p1_4 : Cond.selects "WornWigs$Court" yX1_askJudge yX1_askJudge ∈ wg_T := wg_T_of (wg_sel (q := (⟨"WornWigs$Court", "askJudge", "(I)V"⟩, _)) (List.mem_append_left _ (List.mem_of_getElem? (i := 4) rfl))) rfl
theorem wq_3_183 : Cond.code yX1_askWig prog_3_method_7_code 2 (Option.none : Option Jvm.ClassFile.FieldType) ∈ wg_T := wg_T_of (wg_t3 (List.mem_of_getElem? (i := 183) rfl)) rfl
theorem wq_3_180 : Cond.methodLink "WornWigs$Court" 115 yX1_askWig ∈ wg_T := wg_T_of (wg_t3 (List.mem_of_getElem? (i := 180) rfl)) rfl
theorem wq_3_182 : Cond.instanceMethod yX1_askWig ∈ wg_T := wg_T_of (wg_t3 (List.mem_of_getElem? (i := 182) rfl)) rfl
theorem wq_p1_5 : Cond.selects "WornWigs$Court" yX1_askWig yX1_askWig ∈ wg_T := wg_T_of (wg_sel (q := (⟨"WornWigs$Court", "askWig", "(I)V"⟩, _)) (List.mem_append_left _ (List.mem_of_getElem? (i := 5) rfl))) rfl
theorem wq_1_68 : Cond.fieldLink "WornWigs$Court" 118 "WornWigs$Wigs" "cause" "[I" ∈ wg_T := wg_T_of (wg_t1 (List.mem_of_getElem? (i := 68) rfl)) rfl
theorem wq_1_74 : Cond.fieldLink "WornWigs$Court" 121 "WornWigs$Wigs" "weight" "[I" ∈ wg_T := wg_T_of (wg_t1 (List.mem_of_getElem? (i := 74) rfl)) rfl
theorem wq_3_187 : Cond.code yX3_tell prog_5_method_5_code 6 (Option.some Jvm.ClassFile.FieldType.int) ∈ wg_T := wg_T_of (wg_t3 (List.mem_of_getElem? (i := 187) rfl)) rfl
theorem wq_3_184 : Cond.methodLink "WornWigs$Court" 124 yX3_tell ∈ wg_T := wg_T_of (wg_t3 (List.mem_of_getElem? (i := 184) rfl)) rfl
theorem wq_3_185 : Cond.instanceMethod yX3_tell ∈ wg_T := wg_T_of (wg_t3 (List.mem_of_getElem? (i := 185) rfl)) rfl
theorem wq_3_186 : Cond.selects "WornWigs$Law" yX3_tell yX3_tell ∈ wg_T := wg_T_of (wg_t3 (List.mem_of_getElem? (i := 186) rfl)) rfl
theorem wq_3_197 : Cond.code yX11_held prog_1_method_43_code 3 (Option.some Jvm.ClassFile.FieldType.int) ∈ wg_T := wg_T_of (wg_t3 (List.mem_of_getElem? (i := 197) rfl)) rfl
theorem wq_3_196 : Cond.static yX11_held ∈ wg_T := wg_T_of (wg_t3 (List.mem_of_getElem? (i := 196) rfl)) rfl
theorem wq_4_42 : Cond.methodLink "WornWigs$Court" 139 yJ9_max_7cf53 ∈ wg_T := wg_T_of (wg_t4 (List.mem_of_getElem? (i := 42) rfl)) rfl
theorem wq_1_115 : Cond.fieldLink "WornWigs$Court" 132 "WornWigs$Judges" "worn" "[I" ∈ wg_T := wg_T_of (wg_t1 (List.mem_of_getElem? (i := 115) rfl)) rfl
theorem wq_3_78 : Cond.code yX9_has prog_11_method_3_code 2 (Option.some Jvm.ClassFile.FieldType.boolean) ∈ wg_T := wg_T_of (wg_t3 (List.mem_of_getElem? (i := 78) rfl)) rfl
theorem wq_3_164 : Cond.methodLink "WornWigs$Court" 135 yX9_has ∈ wg_T := wg_T_of (wg_t3 (List.mem_of_getElem? (i := 164) rfl)) rfl
theorem wq_3_76 : Cond.instanceMethod yX9_has ∈ wg_T := wg_T_of (wg_t3 (List.mem_of_getElem? (i := 76) rfl)) rfl
theorem wq_3_77 : Cond.selects "WornWigs$Wigs" yX9_has yX9_has ∈ wg_T := wg_T_of (wg_t3 (List.mem_of_getElem? (i := 77) rfl)) rfl
theorem wq_1_152 : Cond.fieldLink "WornWigs$Court" 150 "WornWigs$Bench" "cause" "[I" ∈ wg_T := wg_T_of (wg_t1 (List.mem_of_getElem? (i := 152) rfl)) rfl
theorem wq_1_71 : Cond.fieldLink "WornWigs$Court" 151 "WornWigs$Wigs" "ruling" "[I" ∈ wg_T := wg_T_of (wg_t1 (List.mem_of_getElem? (i := 71) rfl)) rfl
theorem wq_3_168 : Cond.code yX1_countsOf prog_3_method_8_code 5 (Option.some Jvm.ClassFile.FieldType.int) ∈ wg_T := wg_T_of (wg_t3 (List.mem_of_getElem? (i := 168) rfl)) rfl
theorem wq_3_165 : Cond.methodLink "WornWigs$Court" 154 yX1_countsOf ∈ wg_T := wg_T_of (wg_t3 (List.mem_of_getElem? (i := 165) rfl)) rfl
theorem wq_3_166 : Cond.instanceMethod yX1_countsOf ∈ wg_T := wg_T_of (wg_t3 (List.mem_of_getElem? (i := 166) rfl)) rfl
theorem wq_3_167 : Cond.selects "WornWigs$Court" yX1_countsOf yX1_countsOf ∈ wg_T := wg_T_of (wg_t3 (List.mem_of_getElem? (i := 167) rfl)) rfl
theorem wq_3_201 : Cond.code yJ9_floorDiv_7cf53 prog_16_method_47_code 3 (Option.some Jvm.ClassFile.FieldType.int) ∈ wg_T := wg_T_of (wg_t3 (List.mem_of_getElem? (i := 201) rfl)) rfl
theorem wq_3_199 : Cond.methodLink "WornWigs$Court" 157 yJ9_floorDiv_7cf53 ∈ wg_T := wg_T_of (wg_t3 (List.mem_of_getElem? (i := 199) rfl)) rfl
theorem wq_3_200 : Cond.static yJ9_floorDiv_7cf53 ∈ wg_T := wg_T_of (wg_t3 (List.mem_of_getElem? (i := 200) rfl)) rfl
theorem wq_1_156 : Cond.fieldLink "WornWigs$Court" 144 "WornWigs$Bench" "merit" "[I" ∈ wg_T := wg_T_of (wg_t1 (List.mem_of_getElem? (i := 156) rfl)) rfl
theorem wq_1_66 : Cond.fieldLink "WornWigs$Court" 147 "WornWigs$Wigs" "rules" "[I" ∈ wg_T := wg_T_of (wg_t1 (List.mem_of_getElem? (i := 66) rfl)) rfl
theorem wq_3_107 : Cond.code yX2_has prog_4_method_3_code 2 (Option.some Jvm.ClassFile.FieldType.boolean) ∈ wg_T := wg_T_of (wg_t3 (List.mem_of_getElem? (i := 107) rfl)) rfl
theorem wq_3_129 : Cond.methodLink "WornWigs$Judges" 35 yX2_has ∈ wg_T := wg_T_of (wg_t3 (List.mem_of_getElem? (i := 129) rfl)) rfl
theorem wq_3_105 : Cond.instanceMethod yX2_has ∈ wg_T := wg_T_of (wg_t3 (List.mem_of_getElem? (i := 105) rfl)) rfl
theorem wq_3_106 : Cond.selects "WornWigs$Judges" yX2_has yX2_has ∈ wg_T := wg_T_of (wg_t3 (List.mem_of_getElem? (i := 106) rfl)) rfl
theorem wq_3_115 : Cond.code yX0_hasCase prog_2_method_3_code 2 (Option.some Jvm.ClassFile.FieldType.boolean) ∈ wg_T := wg_T_of (wg_t3 (List.mem_of_getElem? (i := 115) rfl)) rfl
theorem wq_3_124 : Cond.methodLink "WornWigs$Court" 160 yX0_hasCase ∈ wg_T := wg_T_of (wg_t3 (List.mem_of_getElem? (i := 124) rfl)) rfl
theorem wq_3_113 : Cond.instanceMethod yX0_hasCase ∈ wg_T := wg_T_of (wg_t3 (List.mem_of_getElem? (i := 113) rfl)) rfl
theorem wq_3_114 : Cond.selects "WornWigs$Bench" yX0_hasCase yX0_hasCase ∈ wg_T := wg_T_of (wg_t3 (List.mem_of_getElem? (i := 114) rfl)) rfl
theorem wq_1_159 : Cond.fieldLink "WornWigs$Court" 163 "WornWigs$Bench" "verdict" "[I" ∈ wg_T := wg_T_of (wg_t1 (List.mem_of_getElem? (i := 159) rfl)) rfl
theorem wq_3_128 : Cond.code yX2_lives prog_4_method_4_code 2 (Option.some Jvm.ClassFile.FieldType.boolean) ∈ wg_T := wg_T_of (wg_t3 (List.mem_of_getElem? (i := 128) rfl)) rfl
theorem wq_3_125 : Cond.methodLink "WornWigs$Court" 166 yX2_lives ∈ wg_T := wg_T_of (wg_t3 (List.mem_of_getElem? (i := 125) rfl)) rfl
theorem wq_3_126 : Cond.instanceMethod yX2_lives ∈ wg_T := wg_T_of (wg_t3 (List.mem_of_getElem? (i := 126) rfl)) rfl
theorem wq_3_127 : Cond.selects "WornWigs$Judges" yX2_lives yX2_lives ∈ wg_T := wg_T_of (wg_t3 (List.mem_of_getElem? (i := 127) rfl)) rfl
theorem wq_3_97 : Cond.methodLink "WornWigs$Wigs" 70 yJ9_min_7cf53 ∈ wg_T := wg_T_of (wg_t3 (List.mem_of_getElem? (i := 97) rfl)) rfl
theorem wq_3_90 : Cond.code yX9_rulesFor prog_11_method_13_code 7 (Option.some Jvm.ClassFile.FieldType.int) ∈ wg_T := wg_T_of (wg_t3 (List.mem_of_getElem? (i := 90) rfl)) rfl
theorem wq_3_87 : Cond.methodLink "WornWigs$Wigs" 60 yX9_rulesFor ∈ wg_T := wg_T_of (wg_t3 (List.mem_of_getElem? (i := 87) rfl)) rfl
theorem wq_3_89 : Cond.instanceMethod yX9_rulesFor ∈ wg_T := wg_T_of (wg_t3 (List.mem_of_getElem? (i := 89) rfl)) rfl
theorem wq_p1_1 : Cond.selects "WornWigs$Wigs" yX9_rulesFor yX9_rulesFor ∈ wg_T := wg_T_of (wg_sel (q := (⟨"WornWigs$Wigs", "rulesFor", "(IIZ)I"⟩, _)) (List.mem_append_left _ (List.mem_of_getElem? (i := 1) rfl))) rfl
theorem wq_3_91 : Cond.methodLink "WornWigs$Wigs" 64 yJ6_bitCount_0f7a4 ∈ wg_T := wg_T_of (wg_t3 (List.mem_of_getElem? (i := 91) rfl)) rfl
theorem wq_3_86 : Cond.code yX9_itchAnew prog_11_method_12_code 4 (Option.none : Option Jvm.ClassFile.FieldType) ∈ wg_T := wg_T_of (wg_t3 (List.mem_of_getElem? (i := 86) rfl)) rfl
theorem wq_3_83 : Cond.methodLink "WornWigs$Wigs" 48 yX9_itchAnew ∈ wg_T := wg_T_of (wg_t3 (List.mem_of_getElem? (i := 83) rfl)) rfl
theorem wq_3_85 : Cond.instanceMethod yX9_itchAnew ∈ wg_T := wg_T_of (wg_t3 (List.mem_of_getElem? (i := 85) rfl)) rfl
theorem wq_p1_0 : Cond.selects "WornWigs$Wigs" yX9_itchAnew yX9_itchAnew ∈ wg_T := wg_T_of (wg_sel (q := (⟨"WornWigs$Wigs", "itchAnew", "(I)V"⟩, _)) (List.mem_append_left _ (List.mem_of_getElem? (i := 0) rfl))) rfl
theorem wq_3_213 : Cond.code yX9_moveRule prog_11_method_8_code 3 (Option.none : Option Jvm.ClassFile.FieldType) ∈ wg_T := wg_T_of (wg_t3 (List.mem_of_getElem? (i := 213) rfl)) rfl
theorem wq_3_210 : Cond.methodLink "WornWigs$Wigs" 52 yX9_moveRule ∈ wg_T := wg_T_of (wg_t3 (List.mem_of_getElem? (i := 210) rfl)) rfl
theorem wq_3_212 : Cond.instanceMethod yX9_moveRule ∈ wg_T := wg_T_of (wg_t3 (List.mem_of_getElem? (i := 212) rfl)) rfl
theorem wq_p1_7 : Cond.selects "WornWigs$Wigs" yX9_moveRule yX9_moveRule ∈ wg_T := wg_T_of (wg_sel (q := (⟨"WornWigs$Wigs", "moveRule", "(II)V"⟩, _)) (List.mem_append_left _ (List.mem_of_getElem? (i := 7) rfl))) rfl
theorem wq_3_218 : Cond.code yX1_note prog_3_method_4_code 5 (Option.none : Option Jvm.ClassFile.FieldType) ∈ wg_T := wg_T_of (wg_t3 (List.mem_of_getElem? (i := 218) rfl)) rfl
theorem wq_3_215 : Cond.methodLink "WornWigs$Court" 186 yX1_note ∈ wg_T := wg_T_of (wg_t3 (List.mem_of_getElem? (i := 215) rfl)) rfl
theorem wq_3_217 : Cond.instanceMethod yX1_note ∈ wg_T := wg_T_of (wg_t3 (List.mem_of_getElem? (i := 217) rfl)) rfl
theorem wq_p1_8 : Cond.selects "WornWigs$Court" yX1_note yX1_note ∈ wg_T := wg_T_of (wg_sel (q := (⟨"WornWigs$Court", "note", "(III)V"⟩, _)) (List.mem_append_left _ (List.mem_of_getElem? (i := 8) rfl))) rfl
theorem wq_3_82 : Cond.code yX9_addRule prog_11_method_6_code 6 (Option.none : Option Jvm.ClassFile.FieldType) ∈ wg_T := wg_T_of (wg_t3 (List.mem_of_getElem? (i := 82) rfl)) rfl
theorem wq_3_214 : Cond.methodLink "WornWigs$Court" 183 yX9_addRule ∈ wg_T := wg_T_of (wg_t3 (List.mem_of_getElem? (i := 214) rfl)) rfl
theorem wq_3_80 : Cond.instanceMethod yX9_addRule ∈ wg_T := wg_T_of (wg_t3 (List.mem_of_getElem? (i := 80) rfl)) rfl
theorem wq_3_81 : Cond.selects "WornWigs$Wigs" yX9_addRule yX9_addRule ∈ wg_T := wg_T_of (wg_t3 (List.mem_of_getElem? (i := 81) rfl)) rfl
theorem wq_3_163 : Cond.code yX1_verdictOf prog_3_method_11_code 8 (Option.some Jvm.ClassFile.FieldType.int) ∈ wg_T := wg_T_of (wg_t3 (List.mem_of_getElem? (i := 163) rfl)) rfl
theorem wq_3_160 : Cond.methodLink "WornWigs$Court" 169 yX1_verdictOf ∈ wg_T := wg_T_of (wg_t3 (List.mem_of_getElem? (i := 160) rfl)) rfl
theorem wq_3_161 : Cond.instanceMethod yX1_verdictOf ∈ wg_T := wg_T_of (wg_t3 (List.mem_of_getElem? (i := 161) rfl)) rfl
theorem wq_3_162 : Cond.selects "WornWigs$Court" yX1_verdictOf yX1_verdictOf ∈ wg_T := wg_T_of (wg_t3 (List.mem_of_getElem? (i := 162) rfl)) rfl
theorem wq_1_161 : Cond.fieldLink "WornWigs$Court" 172 "WornWigs$Bench" "by" "[I" ∈ wg_T := wg_T_of (wg_t1 (List.mem_of_getElem? (i := 161) rfl)) rfl
theorem wq_3_205 : Cond.code yX9_lightestRule prog_11_method_10_code 4 (Option.some Jvm.ClassFile.FieldType.int) ∈ wg_T := wg_T_of (wg_t3 (List.mem_of_getElem? (i := 205) rfl)) rfl
theorem wq_3_202 : Cond.methodLink "WornWigs$Court" 175 yX9_lightestRule ∈ wg_T := wg_T_of (wg_t3 (List.mem_of_getElem? (i := 202) rfl)) rfl
theorem wq_3_203 : Cond.instanceMethod yX9_lightestRule ∈ wg_T := wg_T_of (wg_t3 (List.mem_of_getElem? (i := 203) rfl)) rfl
theorem wq_3_204 : Cond.selects "WornWigs$Wigs" yX9_lightestRule yX9_lightestRule ∈ wg_T := wg_T_of (wg_t3 (List.mem_of_getElem? (i := 204) rfl)) rfl
theorem wq_3_209 : Cond.code yX9_dropRule prog_11_method_7_code 5 (Option.none : Option Jvm.ClassFile.FieldType) ∈ wg_T := wg_T_of (wg_t3 (List.mem_of_getElem? (i := 209) rfl)) rfl
theorem wq_3_206 : Cond.methodLink "WornWigs$Court" 179 yX9_dropRule ∈ wg_T := wg_T_of (wg_t3 (List.mem_of_getElem? (i := 206) rfl)) rfl
theorem wq_3_207 : Cond.instanceMethod yX9_dropRule ∈ wg_T := wg_T_of (wg_t3 (List.mem_of_getElem? (i := 207) rfl)) rfl
theorem wq_3_208 : Cond.selects "WornWigs$Wigs" yX9_dropRule yX9_dropRule ∈ wg_T := wg_T_of (wg_t3 (List.mem_of_getElem? (i := 208) rfl)) rfl
theorem wq_3_234 : Cond.code yX2_wearer prog_4_method_6_code 3 (Option.some Jvm.ClassFile.FieldType.int) ∈ wg_T := wg_T_of (wg_t3 (List.mem_of_getElem? (i := 234) rfl)) rfl
theorem wq_3_231 : Cond.methodLink "WornWigs$Court" 190 yX2_wearer ∈ wg_T := wg_T_of (wg_t3 (List.mem_of_getElem? (i := 231) rfl)) rfl
theorem wq_3_232 : Cond.instanceMethod yX2_wearer ∈ wg_T := wg_T_of (wg_t3 (List.mem_of_getElem? (i := 232) rfl)) rfl
theorem wq_3_233 : Cond.selects "WornWigs$Judges" yX2_wearer yX2_wearer ∈ wg_T := wg_T_of (wg_t3 (List.mem_of_getElem? (i := 233) rfl)) rfl
theorem wq_3_238 : Cond.code yX9_knows prog_11_method_14_code 4 (Option.some Jvm.ClassFile.FieldType.boolean) ∈ wg_T := wg_T_of (wg_t3 (List.mem_of_getElem? (i := 238) rfl)) rfl
theorem wq_3_235 : Cond.methodLink "WornWigs$Court" 193 yX9_knows ∈ wg_T := wg_T_of (wg_t3 (List.mem_of_getElem? (i := 235) rfl)) rfl
theorem wq_3_236 : Cond.instanceMethod yX9_knows ∈ wg_T := wg_T_of (wg_t3 (List.mem_of_getElem? (i := 236) rfl)) rfl
theorem wq_3_237 : Cond.selects "WornWigs$Wigs" yX9_knows yX9_knows ∈ wg_T := wg_T_of (wg_t3 (List.mem_of_getElem? (i := 237) rfl)) rfl
theorem wq_3_50 : Cond.code yX11_within prog_1_method_42_code 3 (Option.some Jvm.ClassFile.FieldType.boolean) ∈ wg_T := wg_T_of (wg_t3 (List.mem_of_getElem? (i := 50) rfl)) rfl
theorem wq_3_49 : Cond.static yX11_within ∈ wg_T := wg_T_of (wg_t3 (List.mem_of_getElem? (i := 49) rfl)) rfl
theorem wq_4_11 : Cond.code yX1_takeOff prog_3_method_17_code 3 (Option.none : Option Jvm.ClassFile.FieldType) ∈ wg_T := wg_T_of (wg_t4 (List.mem_of_getElem? (i := 11) rfl)) rfl
theorem wq_4_8 : Cond.methodLink "WornWigs$Court" 204 yX1_takeOff ∈ wg_T := wg_T_of (wg_t4 (List.mem_of_getElem? (i := 8) rfl)) rfl
theorem wq_4_10 : Cond.instanceMethod yX1_takeOff ∈ wg_T := wg_T_of (wg_t4 (List.mem_of_getElem? (i := 10) rfl)) rfl
theorem wq_p1_10 : Cond.selects "WornWigs$Court" yX1_takeOff yX1_takeOff ∈ wg_T := wg_T_of (wg_sel (q := (⟨"WornWigs$Court", "takeOff", "(I)V"⟩, _)) (List.mem_append_left _ (List.mem_of_getElem? (i := 10) rfl))) rfl
theorem wq_4_7 : Cond.code yX1_putOn prog_3_method_16_code 3 (Option.none : Option Jvm.ClassFile.FieldType) ∈ wg_T := wg_T_of (wg_t4 (List.mem_of_getElem? (i := 7) rfl)) rfl
theorem wq_4_4 : Cond.methodLink "WornWigs$Court" 201 yX1_putOn ∈ wg_T := wg_T_of (wg_t4 (List.mem_of_getElem? (i := 4) rfl)) rfl
theorem wq_4_6 : Cond.instanceMethod yX1_putOn ∈ wg_T := wg_T_of (wg_t4 (List.mem_of_getElem? (i := 6) rfl)) rfl
theorem wq_p1_9 : Cond.selects "WornWigs$Court" yX1_putOn yX1_putOn ∈ wg_T := wg_T_of (wg_sel (q := (⟨"WornWigs$Court", "putOn", "(II)V"⟩, _)) (List.mem_append_left _ (List.mem_of_getElem? (i := 9) rfl))) rfl
theorem wq_4_15 : Cond.code yX9_dropCause prog_11_method_9_code 6 (Option.some Jvm.ClassFile.FieldType.int) ∈ wg_T := wg_T_of (wg_t4 (List.mem_of_getElem? (i := 15) rfl)) rfl
theorem wq_4_12 : Cond.methodLink "WornWigs$Court" 207 yX9_dropCause ∈ wg_T := wg_T_of (wg_t4 (List.mem_of_getElem? (i := 12) rfl)) rfl
theorem wq_4_13 : Cond.instanceMethod yX9_dropCause ∈ wg_T := wg_T_of (wg_t4 (List.mem_of_getElem? (i := 13) rfl)) rfl
theorem wq_4_14 : Cond.selects "WornWigs$Wigs" yX9_dropCause yX9_dropCause ∈ wg_T := wg_T_of (wg_t4 (List.mem_of_getElem? (i := 14) rfl)) rfl
theorem wq_4_16 : Cond.methodLink "WornWigs$Court" 210 yJ9_min_7cf53 ∈ wg_T := wg_T_of (wg_t4 (List.mem_of_getElem? (i := 16) rfl)) rfl
theorem wq_4_20 : Cond.code yX9_weigh prog_11_method_11_code 5 (Option.none : Option Jvm.ClassFile.FieldType) ∈ wg_T := wg_T_of (wg_t4 (List.mem_of_getElem? (i := 20) rfl)) rfl
theorem wq_4_17 : Cond.methodLink "WornWigs$Court" 213 yX9_weigh ∈ wg_T := wg_T_of (wg_t4 (List.mem_of_getElem? (i := 17) rfl)) rfl
theorem wq_4_18 : Cond.instanceMethod yX9_weigh ∈ wg_T := wg_T_of (wg_t4 (List.mem_of_getElem? (i := 18) rfl)) rfl
theorem wq_4_19 : Cond.selects "WornWigs$Wigs" yX9_weigh yX9_weigh ∈ wg_T := wg_T_of (wg_t4 (List.mem_of_getElem? (i := 19) rfl)) rfl
theorem wq_4_41 : Cond.code yX1_diesOf prog_3_method_10_code 2 (Option.some Jvm.ClassFile.FieldType.int) ∈ wg_T := wg_T_of (wg_t4 (List.mem_of_getElem? (i := 41) rfl)) rfl
theorem wq_4_38 : Cond.methodLink "WornWigs$Court" 256 yX1_diesOf ∈ wg_T := wg_T_of (wg_t4 (List.mem_of_getElem? (i := 38) rfl)) rfl
theorem wq_4_39 : Cond.instanceMethod yX1_diesOf ∈ wg_T := wg_T_of (wg_t4 (List.mem_of_getElem? (i := 39) rfl)) rfl
theorem wq_4_40 : Cond.selects "WornWigs$Court" yX1_diesOf yX1_diesOf ∈ wg_T := wg_T_of (wg_t4 (List.mem_of_getElem? (i := 40) rfl)) rfl
theorem wq_4_46 : Cond.code yX0_draw prog_2_method_9_code 2 (Option.some Jvm.ClassFile.FieldType.int) ∈ wg_T := wg_T_of (wg_t4 (List.mem_of_getElem? (i := 46) rfl)) rfl
theorem wq_4_43 : Cond.methodLink "WornWigs$Court" 259 yX0_draw ∈ wg_T := wg_T_of (wg_t4 (List.mem_of_getElem? (i := 43) rfl)) rfl
theorem wq_4_44 : Cond.instanceMethod yX0_draw ∈ wg_T := wg_T_of (wg_t4 (List.mem_of_getElem? (i := 44) rfl)) rfl
theorem wq_4_45 : Cond.selects "WornWigs$Bench" yX0_draw yX0_draw ∈ wg_T := wg_T_of (wg_t4 (List.mem_of_getElem? (i := 45) rfl)) rfl
theorem wq_1_119 : Cond.fieldLink "WornWigs$Court" 262 "WornWigs$Judges" "dead" "[I" ∈ wg_T := wg_T_of (wg_t1 (List.mem_of_getElem? (i := 119) rfl)) rfl
theorem wq_4_56 : Cond.code yX2_youngestBare prog_4_method_7_code 5 (Option.some Jvm.ClassFile.FieldType.int) ∈ wg_T := wg_T_of (wg_t4 (List.mem_of_getElem? (i := 56) rfl)) rfl
theorem wq_4_53 : Cond.methodLink "WornWigs$Court" 265 yX2_youngestBare ∈ wg_T := wg_T_of (wg_t4 (List.mem_of_getElem? (i := 53) rfl)) rfl
theorem wq_4_54 : Cond.instanceMethod yX2_youngestBare ∈ wg_T := wg_T_of (wg_t4 (List.mem_of_getElem? (i := 54) rfl)) rfl
theorem wq_4_55 : Cond.selects "WornWigs$Judges" yX2_youngestBare yX2_youngestBare ∈ wg_T := wg_T_of (wg_t4 (List.mem_of_getElem? (i := 55) rfl)) rfl
theorem wq_4_64 : Cond.code yX1_mothOf prog_3_method_9_code 2 (Option.some Jvm.ClassFile.FieldType.int) ∈ wg_T := wg_T_of (wg_t4 (List.mem_of_getElem? (i := 64) rfl)) rfl
theorem wq_4_61 : Cond.methodLink "WornWigs$Court" 268 yX1_mothOf ∈ wg_T := wg_T_of (wg_t4 (List.mem_of_getElem? (i := 61) rfl)) rfl
theorem wq_4_62 : Cond.instanceMethod yX1_mothOf ∈ wg_T := wg_T_of (wg_t4 (List.mem_of_getElem? (i := 62) rfl)) rfl
theorem wq_4_63 : Cond.selects "WornWigs$Court" yX1_mothOf yX1_mothOf ∈ wg_T := wg_T_of (wg_t4 (List.mem_of_getElem? (i := 63) rfl)) rfl
theorem wq_1_81 : Cond.fieldLink "WornWigs$Court" 252 "WornWigs$Wigs" "count" "I" ∈ wg_T := wg_T_of (wg_t1 (List.mem_of_getElem? (i := 81) rfl)) rfl
theorem wq_4_60 : Cond.code yX1_wearOut prog_3_method_21_code 3 (Option.none : Option Jvm.ClassFile.FieldType) ∈ wg_T := wg_T_of (wg_t4 (List.mem_of_getElem? (i := 60) rfl)) rfl
theorem wq_4_57 : Cond.methodLink "WornWigs$Court" 253 yX1_wearOut ∈ wg_T := wg_T_of (wg_t4 (List.mem_of_getElem? (i := 57) rfl)) rfl
theorem wq_4_59 : Cond.instanceMethod yX1_wearOut ∈ wg_T := wg_T_of (wg_t4 (List.mem_of_getElem? (i := 59) rfl)) rfl
theorem wq_p1_13 : Cond.selects "WornWigs$Court" yX1_wearOut yX1_wearOut ∈ wg_T := wg_T_of (wg_sel (q := (⟨"WornWigs$Court", "wearOut", "(I)V"⟩, _)) (List.mem_append_left _ (List.mem_of_getElem? (i := 13) rfl))) rfl
theorem wq_1_127 : Cond.fieldLink "WornWigs$Court" 245 "WornWigs$Judges" "count" "I" ∈ wg_T := wg_T_of (wg_t1 (List.mem_of_getElem? (i := 127) rfl)) rfl
theorem wq_4_37 : Cond.code yX1_growsOldAndDies prog_3_method_19_code 4 (Option.some Jvm.ClassFile.FieldType.boolean) ∈ wg_T := wg_T_of (wg_t4 (List.mem_of_getElem? (i := 37) rfl)) rfl
theorem wq_4_34 : Cond.methodLink "WornWigs$Court" 246 yX1_growsOldAndDies ∈ wg_T := wg_T_of (wg_t4 (List.mem_of_getElem? (i := 34) rfl)) rfl
theorem wq_4_36 : Cond.instanceMethod yX1_growsOldAndDies ∈ wg_T := wg_T_of (wg_t4 (List.mem_of_getElem? (i := 36) rfl)) rfl
theorem wq_p1_11 : Cond.selects "WornWigs$Court" yX1_growsOldAndDies yX1_growsOldAndDies ∈ wg_T := wg_T_of (wg_sel (q := (⟨"WornWigs$Court", "growsOldAndDies", "(I)Z"⟩, _)) (List.mem_append_left _ (List.mem_of_getElem? (i := 11) rfl))) rfl
theorem wq_4_52 : Cond.code yX1_passOn prog_3_method_20_code 4 (Option.none : Option Jvm.ClassFile.FieldType) ∈ wg_T := wg_T_of (wg_t4 (List.mem_of_getElem? (i := 52) rfl)) rfl
theorem wq_4_49 : Cond.methodLink "WornWigs$Court" 249 yX1_passOn ∈ wg_T := wg_T_of (wg_t4 (List.mem_of_getElem? (i := 49) rfl)) rfl
theorem wq_4_51 : Cond.instanceMethod yX1_passOn ∈ wg_T := wg_T_of (wg_t4 (List.mem_of_getElem? (i := 51) rfl)) rfl
theorem wq_p1_12 : Cond.selects "WornWigs$Court" yX1_passOn yX1_passOn ∈ wg_T := wg_T_of (wg_sel (q := (⟨"WornWigs$Court", "passOn", "(I)V"⟩, _)) (List.mem_append_left _ (List.mem_of_getElem? (i := 12) rfl))) rfl
theorem wq_1_205 : Cond.fieldLink "WornWigs$Court" 219 "WornWigs$Lines" "year" "[I" ∈ wg_T := wg_T_of (wg_t1 (List.mem_of_getElem? (i := 205) rfl)) rfl
theorem wq_1_212 : Cond.fieldLink "WornWigs$Court" 224 "WornWigs$Lines" "first" "[I" ∈ wg_T := wg_T_of (wg_t1 (List.mem_of_getElem? (i := 212) rfl)) rfl
theorem wq_1_216 : Cond.fieldLink "WornWigs$Court" 227 "WornWigs$Lines" "second" "[I" ∈ wg_T := wg_T_of (wg_t1 (List.mem_of_getElem? (i := 216) rfl)) rfl
theorem wq_3_123 : Cond.code yX1_canTry prog_3_method_12_code 3 (Option.some Jvm.ClassFile.FieldType.boolean) ∈ wg_T := wg_T_of (wg_t3 (List.mem_of_getElem? (i := 123) rfl)) rfl
theorem wq_4_32 : Cond.methodLink "WornWigs$Court" 239 yX1_canTry ∈ wg_T := wg_T_of (wg_t4 (List.mem_of_getElem? (i := 32) rfl)) rfl
theorem wq_3_121 : Cond.instanceMethod yX1_canTry ∈ wg_T := wg_T_of (wg_t3 (List.mem_of_getElem? (i := 121) rfl)) rfl
theorem wq_3_122 : Cond.selects "WornWigs$Court" yX1_canTry yX1_canTry ∈ wg_T := wg_T_of (wg_t3 (List.mem_of_getElem? (i := 122) rfl)) rfl
theorem wq_3_159 : Cond.code yX1_tryCase prog_3_method_13_code 5 (Option.none : Option Jvm.ClassFile.FieldType) ∈ wg_T := wg_T_of (wg_t3 (List.mem_of_getElem? (i := 159) rfl)) rfl
theorem wq_4_33 : Cond.methodLink "WornWigs$Court" 242 yX1_tryCase ∈ wg_T := wg_T_of (wg_t4 (List.mem_of_getElem? (i := 33) rfl)) rfl
theorem wq_3_157 : Cond.instanceMethod yX1_tryCase ∈ wg_T := wg_T_of (wg_t3 (List.mem_of_getElem? (i := 157) rfl)) rfl
theorem wq_3_158 : Cond.selects "WornWigs$Court" yX1_tryCase yX1_tryCase ∈ wg_T := wg_T_of (wg_t3 (List.mem_of_getElem? (i := 158) rfl)) rfl
theorem wq_2_100 : Cond.fieldLink "WornWigs$Court" 236 "WornWigs$World" "docket" "LWornWigs$Lines;" ∈ wg_T := wg_T_of (wg_t2 (List.mem_of_getElem? (i := 100) rfl)) rfl
theorem wq_1_208 : Cond.fieldLink "WornWigs$Court" 221 "WornWigs$Lines" "what" "[I" ∈ wg_T := wg_T_of (wg_t1 (List.mem_of_getElem? (i := 208) rfl)) rfl
theorem wq_3_230 : Cond.code yX1_canDo prog_3_method_14_code 4 (Option.some Jvm.ClassFile.FieldType.boolean) ∈ wg_T := wg_T_of (wg_t3 (List.mem_of_getElem? (i := 230) rfl)) rfl
theorem wq_4_30 : Cond.methodLink "WornWigs$Court" 230 yX1_canDo ∈ wg_T := wg_T_of (wg_t4 (List.mem_of_getElem? (i := 30) rfl)) rfl
theorem wq_3_228 : Cond.instanceMethod yX1_canDo ∈ wg_T := wg_T_of (wg_t3 (List.mem_of_getElem? (i := 228) rfl)) rfl
theorem wq_3_229 : Cond.selects "WornWigs$Court" yX1_canDo yX1_canDo ∈ wg_T := wg_T_of (wg_t3 (List.mem_of_getElem? (i := 229) rfl)) rfl
theorem wq_4_3 : Cond.code yX1_doTo prog_3_method_15_code 4 (Option.none : Option Jvm.ClassFile.FieldType) ∈ wg_T := wg_T_of (wg_t4 (List.mem_of_getElem? (i := 3) rfl)) rfl
theorem wq_4_31 : Cond.methodLink "WornWigs$Court" 233 yX1_doTo ∈ wg_T := wg_T_of (wg_t4 (List.mem_of_getElem? (i := 31) rfl)) rfl
theorem wq_4_1 : Cond.instanceMethod yX1_doTo ∈ wg_T := wg_T_of (wg_t4 (List.mem_of_getElem? (i := 1) rfl)) rfl
theorem wq_4_2 : Cond.selects "WornWigs$Court" yX1_doTo yX1_doTo ∈ wg_T := wg_T_of (wg_t4 (List.mem_of_getElem? (i := 2) rfl)) rfl
theorem wq_2_104 : Cond.fieldLink "WornWigs$Court" 216 "WornWigs$World" "loans" "LWornWigs$Lines;" ∈ wg_T := wg_T_of (wg_t2 (List.mem_of_getElem? (i := 104) rfl)) rfl
theorem wq_2_2 : Cond.fieldLink "WornWigs$Law" 37 "WornWigs$Law" "size" "I" ∈ wg_T := wg_T_of (wg_t2 (List.mem_of_getElem? (i := 2) rfl)) rfl
theorem wq_2_137 : Cond.fieldLink "WornWigs$Past" 11 "WornWigs$Past" "kept" "[LWornWigs$Bench;" ∈ wg_T := wg_T_of (wg_t2 (List.mem_of_getElem? (i := 137) rfl)) rfl
theorem wq_2_138 : Cond.fieldLink "WornWigs$Past" 18 "WornWigs$Past" "next" "I" ∈ wg_T := wg_T_of (wg_t2 (List.mem_of_getElem? (i := 138) rfl)) rfl
theorem wq_3_134 : Cond.methodLink "WornWigs$Past" 22 yX0_copyFrom ∈ wg_T := wg_T_of (wg_t3 (List.mem_of_getElem? (i := 134) rfl)) rfl
theorem wq_2_139 : Cond.fieldLink "WornWigs$Past" 26 "WornWigs$Past" "count" "I" ∈ wg_T := wg_T_of (wg_t2 (List.mem_of_getElem? (i := 139) rfl)) rfl
theorem wq_3_155 : Cond.methodLink "WornWigs$Past" 29 yJ9_min_7cf53 ∈ wg_T := wg_T_of (wg_t3 (List.mem_of_getElem? (i := 155) rfl)) rfl
theorem wq_2_160 : Cond.fieldLink "WornWigs$Reader" 51 "WornWigs$Reader" "length" "I" ∈ wg_T := wg_T_of (wg_t2 (List.mem_of_getElem? (i := 160) rfl)) rfl
theorem wq_2_159 : Cond.fieldLink "WornWigs$Reader" 9 "WornWigs$Reader" "tape" "[I" ∈ wg_T := wg_T_of (wg_t2 (List.mem_of_getElem? (i := 159) rfl)) rfl
theorem wq_2_165 : Cond.fieldLink "WornWigs$Reader" 60 "WornWigs$Reader" "tokens" "I" ∈ wg_T := wg_T_of (wg_t2 (List.mem_of_getElem? (i := 165) rfl)) rfl
theorem wq_2_162 : Cond.fieldLink "WornWigs$Reader" 15 "WornWigs$Reader" "kind" "[I" ∈ wg_T := wg_T_of (wg_t2 (List.mem_of_getElem? (i := 162) rfl)) rfl
theorem wq_2_163 : Cond.fieldLink "WornWigs$Reader" 18 "WornWigs$Reader" "value" "[I" ∈ wg_T := wg_T_of (wg_t2 (List.mem_of_getElem? (i := 163) rfl)) rfl
theorem wq_2_164 : Cond.fieldLink "WornWigs$Reader" 21 "WornWigs$Reader" "place" "[I" ∈ wg_T := wg_T_of (wg_t2 (List.mem_of_getElem? (i := 164) rfl)) rfl
theorem wq_2_167 : Cond.fieldLink "WornWigs$Reader" 54 "WornWigs$Reader" "faultFound" "I" ∈ wg_T := wg_T_of (wg_t2 (List.mem_of_getElem? (i := 167) rfl)) rfl
theorem wq_2_166 : Cond.fieldLink "WornWigs$Reader" 57 "WornWigs$Reader" "at" "I" ∈ wg_T := wg_T_of (wg_t2 (List.mem_of_getElem? (i := 166) rfl)) rfl
theorem wq_2_169 : Cond.fieldLink "WornWigs$Reader" 24 "WornWigs$Reader" "faultPlace" "I" ∈ wg_T := wg_T_of (wg_t2 (List.mem_of_getElem? (i := 169) rfl)) rfl
theorem wq_1_11 : Cond.initialized "WornWigs$Reader" ∈ wg_T := wg_T_of (wg_t1 (List.mem_of_getElem? (i := 11) rfl)) rfl
theorem wq_4_179 : Cond.code yX6_fail prog_8_method_12_code 2 (Option.some Jvm.ClassFile.FieldType.boolean) ∈ wg_T := wg_T_of (wg_t4 (List.mem_of_getElem? (i := 179) rfl)) rfl
theorem wq_4_176 : Cond.methodLink "WornWigs$Reader" 102 yX6_fail ∈ wg_T := wg_T_of (wg_t4 (List.mem_of_getElem? (i := 176) rfl)) rfl
theorem wq_4_178 : Cond.instanceMethod yX6_fail ∈ wg_T := wg_T_of (wg_t4 (List.mem_of_getElem? (i := 178) rfl)) rfl
theorem wq_p2_3 : Cond.selects "WornWigs$Reader" yX6_fail yX6_fail ∈ wg_T := wg_T_of (wg_sel (q := (⟨"WornWigs$Reader", "fail", "(I)Z"⟩, _)) (List.mem_append_right _ (List.mem_append_left _ (List.mem_of_getElem? (i := 3) rfl)))) rfl
theorem wq_2_158 : Cond.fieldLink "WornWigs$Reader" 47 "WornWigs$Reader" "world" "LWornWigs$World;" ∈ wg_T := wg_T_of (wg_t2 (List.mem_of_getElem? (i := 158) rfl)) rfl
theorem wq_2_90 : Cond.fieldLink "WornWigs$Reader" 105 "WornWigs$World" "bench" "LWornWigs$Bench;" ∈ wg_T := wg_T_of (wg_t2 (List.mem_of_getElem? (i := 90) rfl)) rfl
theorem wq_1_145 : Cond.fieldLink "WornWigs$Reader" 111 "WornWigs$Bench" "wigs" "LWornWigs$Wigs;" ∈ wg_T := wg_T_of (wg_t1 (List.mem_of_getElem? (i := 145) rfl)) rfl
theorem wq_1_80 : Cond.fieldLink "WornWigs$Reader" 117 "WornWigs$Wigs" "count" "I" ∈ wg_T := wg_T_of (wg_t1 (List.mem_of_getElem? (i := 80) rfl)) rfl
theorem wq_4_199 : Cond.code yX6_readNumber prog_8_method_14_code 3 (Option.some Jvm.ClassFile.FieldType.int) ∈ wg_T := wg_T_of (wg_t4 (List.mem_of_getElem? (i := 199) rfl)) rfl
theorem wq_4_196 : Cond.methodLink "WornWigs$Reader" 122 yX6_readNumber ∈ wg_T := wg_T_of (wg_t4 (List.mem_of_getElem? (i := 196) rfl)) rfl
theorem wq_4_198 : Cond.instanceMethod yX6_readNumber ∈ wg_T := wg_T_of (wg_t4 (List.mem_of_getElem? (i := 198) rfl)) rfl
theorem wq_p2_7 : Cond.selects "WornWigs$Reader" yX6_readNumber yX6_readNumber ∈ wg_T := wg_T_of (wg_sel (q := (⟨"WornWigs$Reader", "readNumber", "(II)I"⟩, _)) (List.mem_append_right _ (List.mem_append_left _ (List.mem_of_getElem? (i := 7) rfl)))) rfl
theorem wq_1_150 : Cond.fieldLink "WornWigs$Reader" 125 "WornWigs$Bench" "judges" "LWornWigs$Judges;" ∈ wg_T := wg_T_of (wg_t1 (List.mem_of_getElem? (i := 150) rfl)) rfl
theorem wq_1_126 : Cond.fieldLink "WornWigs$Reader" 129 "WornWigs$Judges" "count" "I" ∈ wg_T := wg_T_of (wg_t1 (List.mem_of_getElem? (i := 126) rfl)) rfl
theorem wq_4_227 : Cond.code yX6_expect prog_8_method_13_code 2 (Option.some Jvm.ClassFile.FieldType.boolean) ∈ wg_T := wg_T_of (wg_t4 (List.mem_of_getElem? (i := 227) rfl)) rfl
theorem wq_4_224 : Cond.methodLink "WornWigs$Reader" 153 yX6_expect ∈ wg_T := wg_T_of (wg_t4 (List.mem_of_getElem? (i := 224) rfl)) rfl
theorem wq_4_226 : Cond.instanceMethod yX6_expect ∈ wg_T := wg_T_of (wg_t4 (List.mem_of_getElem? (i := 226) rfl)) rfl
theorem wq_p2_14 : Cond.selects "WornWigs$Reader" yX6_expect yX6_expect ∈ wg_T := wg_T_of (wg_sel (q := (⟨"WornWigs$Reader", "expect", "(I)Z"⟩, _)) (List.mem_append_right _ (List.mem_append_left _ (List.mem_of_getElem? (i := 14) rfl)))) rfl
theorem wq_5_8 : Cond.code yX6_readWig prog_8_method_15_code 1 (Option.some Jvm.ClassFile.FieldType.int) ∈ wg_T := wg_T_of (wg_t5 (List.mem_of_getElem? (i := 8) rfl)) rfl
theorem wq_5_5 : Cond.methodLink "WornWigs$Reader" 160 yX6_readWig ∈ wg_T := wg_T_of (wg_t5 (List.mem_of_getElem? (i := 5) rfl)) rfl
theorem wq_5_7 : Cond.instanceMethod yX6_readWig ∈ wg_T := wg_T_of (wg_t5 (List.mem_of_getElem? (i := 7) rfl)) rfl
theorem wq_p3_1 : Cond.selects "WornWigs$Reader" yX6_readWig yX6_readWig ∈ wg_T := wg_T_of (wg_sel (q := (⟨"WornWigs$Reader", "readWig", "()I"⟩, _)) (List.mem_append_right _ (List.mem_append_right _ (List.mem_append_left _ (List.mem_of_getElem? (i := 1) rfl))))) rfl
theorem wq_2_172 : Cond.fieldLink "WornWigs$Reader" 40 "WornWigs$Reader" "lines" "LWornWigs$Lines;" ∈ wg_T := wg_T_of (wg_t2 (List.mem_of_getElem? (i := 172) rfl)) rfl
theorem wq_5_9 : Cond.methodLink "WornWigs$Reader" 163 yX4_add ∈ wg_T := wg_T_of (wg_t5 (List.mem_of_getElem? (i := 9) rfl)) rfl
theorem wq_1_222 : Cond.fieldLink "WornWigs$Reader" 132 "WornWigs$Lines" "count" "I" ∈ wg_T := wg_T_of (wg_t1 (List.mem_of_getElem? (i := 222) rfl)) rfl
theorem wq_5_4 : Cond.code yX6_expectFirst prog_8_method_18_code 3 (Option.some Jvm.ClassFile.FieldType.boolean) ∈ wg_T := wg_T_of (wg_t5 (List.mem_of_getElem? (i := 4) rfl)) rfl
theorem wq_5_1 : Cond.methodLink "WornWigs$Reader" 156 yX6_expectFirst ∈ wg_T := wg_T_of (wg_t5 (List.mem_of_getElem? (i := 1) rfl)) rfl
theorem wq_5_3 : Cond.instanceMethod yX6_expectFirst ∈ wg_T := wg_T_of (wg_t5 (List.mem_of_getElem? (i := 3) rfl)) rfl
theorem wq_p3_0 : Cond.selects "WornWigs$Reader" yX6_expectFirst yX6_expectFirst ∈ wg_T := wg_T_of (wg_sel (q := (⟨"WornWigs$Reader", "expectFirst", "(II)Z"⟩, _)) (List.mem_append_right _ (List.mem_append_right _ (List.mem_append_left _ (List.mem_of_getElem? (i := 0) rfl))))) rfl
theorem wq_1_165 : Cond.fieldLink "WornWigs$Reader" 173 "WornWigs$Bench" "cases" "I" ∈ wg_T := wg_T_of (wg_t1 (List.mem_of_getElem? (i := 165) rfl)) rfl
theorem wq_5_21 : Cond.code yX6_readJudge prog_8_method_16_code 1 (Option.some Jvm.ClassFile.FieldType.int) ∈ wg_T := wg_T_of (wg_t5 (List.mem_of_getElem? (i := 21) rfl)) rfl
theorem wq_5_18 : Cond.methodLink "WornWigs$Reader" 176 yX6_readJudge ∈ wg_T := wg_T_of (wg_t5 (List.mem_of_getElem? (i := 18) rfl)) rfl
theorem wq_5_20 : Cond.instanceMethod yX6_readJudge ∈ wg_T := wg_T_of (wg_t5 (List.mem_of_getElem? (i := 20) rfl)) rfl
theorem wq_p3_4 : Cond.selects "WornWigs$Reader" yX6_readJudge yX6_readJudge ∈ wg_T := wg_T_of (wg_sel (q := (⟨"WornWigs$Reader", "readJudge", "()I"⟩, _)) (List.mem_append_right _ (List.mem_append_right _ (List.mem_append_left _ (List.mem_of_getElem? (i := 4) rfl))))) rfl
theorem wq_5_25 : Cond.code yX6_readLoan prog_8_method_22_code 6 (Option.some Jvm.ClassFile.FieldType.boolean) ∈ wg_T := wg_T_of (wg_t5 (List.mem_of_getElem? (i := 25) rfl)) rfl
theorem wq_5_22 : Cond.methodLink "WornWigs$Reader" 170 yX6_readLoan ∈ wg_T := wg_T_of (wg_t5 (List.mem_of_getElem? (i := 22) rfl)) rfl
theorem wq_5_24 : Cond.instanceMethod yX6_readLoan ∈ wg_T := wg_T_of (wg_t5 (List.mem_of_getElem? (i := 24) rfl)) rfl
theorem wq_p3_5 : Cond.selects "WornWigs$Reader" yX6_readLoan yX6_readLoan ∈ wg_T := wg_T_of (wg_sel (q := (⟨"WornWigs$Reader", "readLoan", "(I)Z"⟩, _)) (List.mem_append_right _ (List.mem_append_right _ (List.mem_append_left _ (List.mem_of_getElem? (i := 5) rfl))))) rfl
theorem wq_5_17 : Cond.code yX6_readHearing prog_8_method_21_code 4 (Option.some Jvm.ClassFile.FieldType.boolean) ∈ wg_T := wg_T_of (wg_t5 (List.mem_of_getElem? (i := 17) rfl)) rfl
theorem wq_5_14 : Cond.methodLink "WornWigs$Reader" 167 yX6_readHearing ∈ wg_T := wg_T_of (wg_t5 (List.mem_of_getElem? (i := 14) rfl)) rfl
theorem wq_5_16 : Cond.instanceMethod yX6_readHearing ∈ wg_T := wg_T_of (wg_t5 (List.mem_of_getElem? (i := 16) rfl)) rfl
theorem wq_p3_3 : Cond.selects "WornWigs$Reader" yX6_readHearing yX6_readHearing ∈ wg_T := wg_T_of (wg_sel (q := (⟨"WornWigs$Reader", "readHearing", "(I)Z"⟩, _)) (List.mem_append_right _ (List.mem_append_right _ (List.mem_append_left _ (List.mem_of_getElem? (i := 3) rfl))))) rfl
theorem wq_2_108 : Cond.fieldLink "WornWigs$Reader" 150 "WornWigs$World" "descent" "LWornWigs$Lines;" ∈ wg_T := wg_T_of (wg_t2 (List.mem_of_getElem? (i := 108) rfl)) rfl
theorem wq_5_29 : Cond.code yX4_copyFrom prog_6_method_2_code 2 (Option.none : Option Jvm.ClassFile.FieldType) ∈ wg_T := wg_T_of (wg_t5 (List.mem_of_getElem? (i := 29) rfl)) rfl
theorem wq_5_26 : Cond.methodLink "WornWigs$Reader" 143 yX4_copyFrom ∈ wg_T := wg_T_of (wg_t5 (List.mem_of_getElem? (i := 26) rfl)) rfl
theorem wq_5_27 : Cond.instanceMethod yX4_copyFrom ∈ wg_T := wg_T_of (wg_t5 (List.mem_of_getElem? (i := 27) rfl)) rfl
theorem wq_5_28 : Cond.selects "WornWigs$Lines" yX4_copyFrom yX4_copyFrom ∈ wg_T := wg_T_of (wg_t5 (List.mem_of_getElem? (i := 28) rfl)) rfl
theorem wq_2_103 : Cond.fieldLink "WornWigs$Reader" 147 "WornWigs$World" "loans" "LWornWigs$Lines;" ∈ wg_T := wg_T_of (wg_t2 (List.mem_of_getElem? (i := 103) rfl)) rfl
theorem wq_2_99 : Cond.fieldLink "WornWigs$Reader" 140 "WornWigs$World" "docket" "LWornWigs$Lines;" ∈ wg_T := wg_T_of (wg_t2 (List.mem_of_getElem? (i := 99) rfl)) rfl
theorem wq_5_13 : Cond.code yX6_readPlanLine prog_8_method_20_code 4 (Option.some Jvm.ClassFile.FieldType.boolean) ∈ wg_T := wg_T_of (wg_t5 (List.mem_of_getElem? (i := 13) rfl)) rfl
theorem wq_5_10 : Cond.methodLink "WornWigs$Reader" 137 yX6_readPlanLine ∈ wg_T := wg_T_of (wg_t5 (List.mem_of_getElem? (i := 10) rfl)) rfl
theorem wq_5_12 : Cond.instanceMethod yX6_readPlanLine ∈ wg_T := wg_T_of (wg_t5 (List.mem_of_getElem? (i := 12) rfl)) rfl
theorem wq_p3_2 : Cond.selects "WornWigs$Reader" yX6_readPlanLine yX6_readPlanLine ∈ wg_T := wg_T_of (wg_sel (q := (⟨"WornWigs$Reader", "readPlanLine", "(I)Z"⟩, _)) (List.mem_append_right _ (List.mem_append_right _ (List.mem_append_left _ (List.mem_of_getElem? (i := 2) rfl))))) rfl
theorem wq_5_0 : Cond.code yX6_readKinLine prog_8_method_19_code 3 (Option.some Jvm.ClassFile.FieldType.boolean) ∈ wg_T := wg_T_of (wg_t5 (List.mem_of_getElem? (i := 0) rfl)) rfl
theorem wq_4_237 : Cond.methodLink "WornWigs$Reader" 133 yX6_readKinLine ∈ wg_T := wg_T_of (wg_t4 (List.mem_of_getElem? (i := 237) rfl)) rfl
theorem wq_4_239 : Cond.instanceMethod yX6_readKinLine ∈ wg_T := wg_T_of (wg_t4 (List.mem_of_getElem? (i := 239) rfl)) rfl
theorem wq_p2_15 : Cond.selects "WornWigs$Reader" yX6_readKinLine yX6_readKinLine ∈ wg_T := wg_T_of (wg_sel (q := (⟨"WornWigs$Reader", "readKinLine", "()Z"⟩, _)) (List.mem_append_right _ (List.mem_append_left _ (List.mem_of_getElem? (i := 15) rfl)))) rfl
theorem wq_2_171 : Cond.fieldLink "WornWigs$Reader" 31 "WornWigs$Reader" "law" "LWornWigs$Law;" ∈ wg_T := wg_T_of (wg_t2 (List.mem_of_getElem? (i := 171) rfl)) rfl
theorem wq_4_195 : Cond.code yX3_put prog_5_method_4_code 3 (Option.none : Option Jvm.ClassFile.FieldType) ∈ wg_T := wg_T_of (wg_t4 (List.mem_of_getElem? (i := 195) rfl)) rfl
theorem wq_4_192 : Cond.methodLink "WornWigs$Reader" 212 yX3_put ∈ wg_T := wg_T_of (wg_t4 (List.mem_of_getElem? (i := 192) rfl)) rfl
theorem wq_4_193 : Cond.instanceMethod yX3_put ∈ wg_T := wg_T_of (wg_t4 (List.mem_of_getElem? (i := 193) rfl)) rfl
theorem wq_4_194 : Cond.selects "WornWigs$Law" yX3_put yX3_put ∈ wg_T := wg_T_of (wg_t4 (List.mem_of_getElem? (i := 194) rfl)) rfl
theorem wq_4_191 : Cond.code yX6_readUnit prog_8_method_27_code 1 (Option.some Jvm.ClassFile.FieldType.boolean) ∈ wg_T := wg_T_of (wg_t4 (List.mem_of_getElem? (i := 191) rfl)) rfl
theorem wq_4_188 : Cond.methodLink "WornWigs$Reader" 216 yX6_readUnit ∈ wg_T := wg_T_of (wg_t4 (List.mem_of_getElem? (i := 188) rfl)) rfl
theorem wq_4_190 : Cond.instanceMethod yX6_readUnit ∈ wg_T := wg_T_of (wg_t4 (List.mem_of_getElem? (i := 190) rfl)) rfl
theorem wq_p2_6 : Cond.selects "WornWigs$Reader" yX6_readUnit yX6_readUnit ∈ wg_T := wg_T_of (wg_sel (q := (⟨"WornWigs$Reader", "readUnit", "()Z"⟩, _)) (List.mem_append_right _ (List.mem_append_left _ (List.mem_of_getElem? (i := 6) rfl)))) rfl
theorem wq_4_187 : Cond.code yX6_readProduct prog_8_method_26_code 3 (Option.some Jvm.ClassFile.FieldType.boolean) ∈ wg_T := wg_T_of (wg_t4 (List.mem_of_getElem? (i := 187) rfl)) rfl
theorem wq_4_184 : Cond.methodLink "WornWigs$Reader" 209 yX6_readProduct ∈ wg_T := wg_T_of (wg_t4 (List.mem_of_getElem? (i := 184) rfl)) rfl
theorem wq_4_186 : Cond.instanceMethod yX6_readProduct ∈ wg_T := wg_T_of (wg_t4 (List.mem_of_getElem? (i := 186) rfl)) rfl
theorem wq_p2_5 : Cond.selects "WornWigs$Reader" yX6_readProduct yX6_readProduct ∈ wg_T := wg_T_of (wg_sel (q := (⟨"WornWigs$Reader", "readProduct", "()Z"⟩, _)) (List.mem_append_right _ (List.mem_append_left _ (List.mem_of_getElem? (i := 5) rfl)))) rfl
theorem wq_2_175 : Cond.fieldLink "WornWigs$Reader" 219 "WornWigs$Reader" "waits" "I" ∈ wg_T := wg_T_of (wg_t2 (List.mem_of_getElem? (i := 175) rfl)) rfl
theorem wq_2_174 : Cond.fieldLink "WornWigs$Reader" 44 "WornWigs$Reader" "waiting" "[I" ∈ wg_T := wg_T_of (wg_t2 (List.mem_of_getElem? (i := 174) rfl)) rfl
theorem wq_2_177 : Cond.fieldLink "WornWigs$Reader" 225 "WornWigs$Reader" "brackets" "I" ∈ wg_T := wg_T_of (wg_t2 (List.mem_of_getElem? (i := 177) rfl)) rfl
theorem wq_4_211 : Cond.code yX6_await prog_8_method_29_code 2 (Option.none : Option Jvm.ClassFile.FieldType) ∈ wg_T := wg_T_of (wg_t4 (List.mem_of_getElem? (i := 211) rfl)) rfl
theorem wq_4_208 : Cond.methodLink "WornWigs$Reader" 234 yX6_await ∈ wg_T := wg_T_of (wg_t4 (List.mem_of_getElem? (i := 208) rfl)) rfl
theorem wq_4_210 : Cond.instanceMethod yX6_await ∈ wg_T := wg_T_of (wg_t4 (List.mem_of_getElem? (i := 210) rfl)) rfl
theorem wq_p2_10 : Cond.selects "WornWigs$Reader" yX6_await yX6_await ∈ wg_T := wg_T_of (wg_sel (q := (⟨"WornWigs$Reader", "await", "(I)V"⟩, _)) (List.mem_append_right _ (List.mem_append_left _ (List.mem_of_getElem? (i := 10) rfl)))) rfl
theorem wq_2_176 : Cond.fieldLink "WornWigs$Reader" 222 "WornWigs$Reader" "open" "I" ∈ wg_T := wg_T_of (wg_t2 (List.mem_of_getElem? (i := 176) rfl)) rfl
theorem wq_4_223 : Cond.code yX6_isAwaited prog_8_method_30_code 2 (Option.some Jvm.ClassFile.FieldType.boolean) ∈ wg_T := wg_T_of (wg_t4 (List.mem_of_getElem? (i := 223) rfl)) rfl
theorem wq_4_220 : Cond.methodLink "WornWigs$Reader" 240 yX6_isAwaited ∈ wg_T := wg_T_of (wg_t4 (List.mem_of_getElem? (i := 220) rfl)) rfl
theorem wq_4_222 : Cond.instanceMethod yX6_isAwaited ∈ wg_T := wg_T_of (wg_t4 (List.mem_of_getElem? (i := 222) rfl)) rfl
theorem wq_p2_13 : Cond.selects "WornWigs$Reader" yX6_isAwaited yX6_isAwaited ∈ wg_T := wg_T_of (wg_sel (q := (⟨"WornWigs$Reader", "isAwaited", "(I)Z"⟩, _)) (List.mem_append_right _ (List.mem_append_left _ (List.mem_of_getElem? (i := 13) rfl)))) rfl
theorem wq_4_219 : Cond.code yX6_settle prog_8_method_33_code 1 (Option.none : Option Jvm.ClassFile.FieldType) ∈ wg_T := wg_T_of (wg_t4 (List.mem_of_getElem? (i := 219) rfl)) rfl
theorem wq_4_216 : Cond.methodLink "WornWigs$Reader" 237 yX6_settle ∈ wg_T := wg_T_of (wg_t4 (List.mem_of_getElem? (i := 216) rfl)) rfl
theorem wq_4_218 : Cond.instanceMethod yX6_settle ∈ wg_T := wg_T_of (wg_t4 (List.mem_of_getElem? (i := 218) rfl)) rfl
theorem wq_p2_12 : Cond.selects "WornWigs$Reader" yX6_settle yX6_settle ∈ wg_T := wg_T_of (wg_sel (q := (⟨"WornWigs$Reader", "settle", "()V"⟩, _)) (List.mem_append_right _ (List.mem_append_left _ (List.mem_of_getElem? (i := 12) rfl)))) rfl
theorem wq_4_183 : Cond.code yX6_readSum prog_8_method_25_code 2 (Option.some Jvm.ClassFile.FieldType.boolean) ∈ wg_T := wg_T_of (wg_t4 (List.mem_of_getElem? (i := 183) rfl)) rfl
theorem wq_4_180 : Cond.methodLink "WornWigs$Reader" 191 yX6_readSum ∈ wg_T := wg_T_of (wg_t4 (List.mem_of_getElem? (i := 180) rfl)) rfl
theorem wq_4_182 : Cond.instanceMethod yX6_readSum ∈ wg_T := wg_T_of (wg_t4 (List.mem_of_getElem? (i := 182) rfl)) rfl
theorem wq_p2_4 : Cond.selects "WornWigs$Reader" yX6_readSum yX6_readSum ∈ wg_T := wg_T_of (wg_sel (q := (⟨"WornWigs$Reader", "readSum", "()Z"⟩, _)) (List.mem_append_right _ (List.mem_append_left _ (List.mem_of_getElem? (i := 4) rfl)))) rfl
theorem wq_4_215 : Cond.code yX6_readClosing prog_8_method_32_code 1 (Option.none : Option Jvm.ClassFile.FieldType) ∈ wg_T := wg_T_of (wg_t4 (List.mem_of_getElem? (i := 215) rfl)) rfl
theorem wq_4_212 : Cond.methodLink "WornWigs$Reader" 231 yX6_readClosing ∈ wg_T := wg_T_of (wg_t4 (List.mem_of_getElem? (i := 212) rfl)) rfl
theorem wq_4_214 : Cond.instanceMethod yX6_readClosing ∈ wg_T := wg_T_of (wg_t4 (List.mem_of_getElem? (i := 214) rfl)) rfl
theorem wq_p2_11 : Cond.selects "WornWigs$Reader" yX6_readClosing yX6_readClosing ∈ wg_T := wg_T_of (wg_sel (q := (⟨"WornWigs$Reader", "readClosing", "()V"⟩, _)) (List.mem_append_right _ (List.mem_append_left _ (List.mem_of_getElem? (i := 11) rfl)))) rfl
theorem wq_4_207 : Cond.code yX6_readOpening prog_8_method_31_code 1 (Option.some Jvm.ClassFile.FieldType.boolean) ∈ wg_T := wg_T_of (wg_t4 (List.mem_of_getElem? (i := 207) rfl)) rfl
theorem wq_4_204 : Cond.methodLink "WornWigs$Reader" 228 yX6_readOpening ∈ wg_T := wg_T_of (wg_t4 (List.mem_of_getElem? (i := 204) rfl)) rfl
theorem wq_4_206 : Cond.instanceMethod yX6_readOpening ∈ wg_T := wg_T_of (wg_t4 (List.mem_of_getElem? (i := 206) rfl)) rfl
theorem wq_p2_9 : Cond.selects "WornWigs$Reader" yX6_readOpening yX6_readOpening ∈ wg_T := wg_T_of (wg_sel (q := (⟨"WornWigs$Reader", "readOpening", "()Z"⟩, _)) (List.mem_append_right _ (List.mem_append_left _ (List.mem_of_getElem? (i := 9) rfl)))) rfl
theorem wq_2_9 : Cond.fieldLink "WornWigs$Reader" 206 "WornWigs$Law" "whenEnd" "[I" ∈ wg_T := wg_T_of (wg_t2 (List.mem_of_getElem? (i := 9) rfl)) rfl
theorem wq_2_3 : Cond.fieldLink "WornWigs$Reader" 200 "WornWigs$Law" "size" "I" ∈ wg_T := wg_T_of (wg_t2 (List.mem_of_getElem? (i := 3) rfl)) rfl
theorem wq_2_12 : Cond.fieldLink "WornWigs$Reader" 189 "WornWigs$Law" "lines" "I" ∈ wg_T := wg_T_of (wg_t2 (List.mem_of_getElem? (i := 12) rfl)) rfl
theorem wq_2_5 : Cond.fieldLink "WornWigs$Reader" 194 "WornWigs$Law" "word" "[I" ∈ wg_T := wg_T_of (wg_t2 (List.mem_of_getElem? (i := 5) rfl)) rfl
theorem wq_2_7 : Cond.fieldLink "WornWigs$Reader" 197 "WornWigs$Law" "sumEnd" "[I" ∈ wg_T := wg_T_of (wg_t2 (List.mem_of_getElem? (i := 7) rfl)) rfl
theorem wq_4_203 : Cond.code yX6_readCondition prog_8_method_28_code 2 (Option.some Jvm.ClassFile.FieldType.boolean) ∈ wg_T := wg_T_of (wg_t4 (List.mem_of_getElem? (i := 203) rfl)) rfl
theorem wq_4_200 : Cond.methodLink "WornWigs$Reader" 203 yX6_readCondition ∈ wg_T := wg_T_of (wg_t4 (List.mem_of_getElem? (i := 200) rfl)) rfl
theorem wq_4_202 : Cond.instanceMethod yX6_readCondition ∈ wg_T := wg_T_of (wg_t4 (List.mem_of_getElem? (i := 202) rfl)) rfl
theorem wq_p2_8 : Cond.selects "WornWigs$Reader" yX6_readCondition yX6_readCondition ∈ wg_T := wg_T_of (wg_sel (q := (⟨"WornWigs$Reader", "readCondition", "()Z"⟩, _)) (List.mem_append_right _ (List.mem_append_left _ (List.mem_of_getElem? (i := 8) rfl)))) rfl
theorem wq_2_97 : Cond.fieldLink "WornWigs$Reader" 185 "WornWigs$World" "law" "LWornWigs$Law;" ∈ wg_T := wg_T_of (wg_t2 (List.mem_of_getElem? (i := 97) rfl)) rfl
theorem wq_4_231 : Cond.code yX3_copyFrom prog_5_method_2_code 2 (Option.none : Option Jvm.ClassFile.FieldType) ∈ wg_T := wg_T_of (wg_t4 (List.mem_of_getElem? (i := 231) rfl)) rfl
theorem wq_4_228 : Cond.methodLink "WornWigs$Reader" 186 yX3_copyFrom ∈ wg_T := wg_T_of (wg_t4 (List.mem_of_getElem? (i := 228) rfl)) rfl
theorem wq_4_229 : Cond.instanceMethod yX3_copyFrom ∈ wg_T := wg_T_of (wg_t4 (List.mem_of_getElem? (i := 229) rfl)) rfl
theorem wq_4_230 : Cond.selects "WornWigs$Law" yX3_copyFrom yX3_copyFrom ∈ wg_T := wg_T_of (wg_t4 (List.mem_of_getElem? (i := 230) rfl)) rfl
theorem wq_4_175 : Cond.code yX6_readLawLine prog_8_method_24_code 3 (Option.some Jvm.ClassFile.FieldType.boolean) ∈ wg_T := wg_T_of (wg_t4 (List.mem_of_getElem? (i := 175) rfl)) rfl
theorem wq_4_172 : Cond.methodLink "WornWigs$Reader" 182 yX6_readLawLine ∈ wg_T := wg_T_of (wg_t4 (List.mem_of_getElem? (i := 172) rfl)) rfl
theorem wq_4_174 : Cond.instanceMethod yX6_readLawLine ∈ wg_T := wg_T_of (wg_t4 (List.mem_of_getElem? (i := 174) rfl)) rfl
theorem wq_p2_2 : Cond.selects "WornWigs$Reader" yX6_readLawLine yX6_readLawLine ∈ wg_T := wg_T_of (wg_sel (q := (⟨"WornWigs$Reader", "readLawLine", "()Z"⟩, _)) (List.mem_append_right _ (List.mem_append_left _ (List.mem_of_getElem? (i := 2) rfl)))) rfl
theorem wq_4_171 : Cond.code yX3_clear prog_5_method_3_code 1 (Option.none : Option Jvm.ClassFile.FieldType) ∈ wg_T := wg_T_of (wg_t4 (List.mem_of_getElem? (i := 171) rfl)) rfl
theorem wq_4_168 : Cond.methodLink "WornWigs$Reader" 179 yX3_clear ∈ wg_T := wg_T_of (wg_t4 (List.mem_of_getElem? (i := 168) rfl)) rfl
theorem wq_4_169 : Cond.instanceMethod yX3_clear ∈ wg_T := wg_T_of (wg_t4 (List.mem_of_getElem? (i := 169) rfl)) rfl
theorem wq_4_170 : Cond.selects "WornWigs$Law" yX3_clear yX3_clear ∈ wg_T := wg_T_of (wg_t4 (List.mem_of_getElem? (i := 170) rfl)) rfl
theorem wq_3_7 : Cond.fieldLink "WornWigs$Thought" 9 "WornWigs$Thought" "world" "LWornWigs$World;" ∈ wg_T := wg_T_of (wg_t3 (List.mem_of_getElem? (i := 7) rfl)) rfl
theorem wq_2_89 : Cond.fieldLink "WornWigs$Thought" 19 "WornWigs$World" "bench" "LWornWigs$Bench;" ∈ wg_T := wg_T_of (wg_t2 (List.mem_of_getElem? (i := 89) rfl)) rfl
theorem wq_1_148 : Cond.fieldLink "WornWigs$Thought" 25 "WornWigs$Bench" "judges" "LWornWigs$Judges;" ∈ wg_T := wg_T_of (wg_t1 (List.mem_of_getElem? (i := 148) rfl)) rfl
theorem wq_1_123 : Cond.fieldLink "WornWigs$Thought" 31 "WornWigs$Judges" "count" "I" ∈ wg_T := wg_T_of (wg_t1 (List.mem_of_getElem? (i := 123) rfl)) rfl
theorem wq_5_114 : Cond.methodLink "WornWigs$Thought" 37 yX2_lives ∈ wg_T := wg_T_of (wg_t5 (List.mem_of_getElem? (i := 114) rfl)) rfl
theorem wq_3_8 : Cond.fieldLink "WornWigs$Thought" 15 "WornWigs$Thought" "court" "LWornWigs$Court;" ∈ wg_T := wg_T_of (wg_t3 (List.mem_of_getElem? (i := 8) rfl)) rfl
theorem wq_5_115 : Cond.methodLink "WornWigs$Thought" 41 yX1_verdictOf ∈ wg_T := wg_T_of (wg_t5 (List.mem_of_getElem? (i := 115) rfl)) rfl
theorem wq_1_13 : Cond.initialized "WornWigs$Thought" ∈ wg_T := wg_T_of (wg_t1 (List.mem_of_getElem? (i := 13) rfl)) rfl
theorem wq_5_200 : Cond.code yX7_finders prog_9_method_3_code 7 (Option.some Jvm.ClassFile.FieldType.int) ∈ wg_T := wg_T_of (wg_t5 (List.mem_of_getElem? (i := 200) rfl)) rfl
theorem wq_5_197 : Cond.methodLink "WornWigs$Thought" 47 yX7_finders ∈ wg_T := wg_T_of (wg_t5 (List.mem_of_getElem? (i := 197) rfl)) rfl
theorem wq_5_199 : Cond.instanceMethod yX7_finders ∈ wg_T := wg_T_of (wg_t5 (List.mem_of_getElem? (i := 199) rfl)) rfl
theorem wq_p3_11 : Cond.selects "WornWigs$Thought" yX7_finders yX7_finders ∈ wg_T := wg_T_of (wg_sel (q := (⟨"WornWigs$Thought", "finders", "(IZI)I"⟩, _)) (List.mem_append_right _ (List.mem_append_right _ (List.mem_append_left _ (List.mem_of_getElem? (i := 11) rfl))))) rfl
theorem wq_5_154 : Cond.methodLink "WornWigs$Thought" 55 yX2_youngestBare ∈ wg_T := wg_T_of (wg_t5 (List.mem_of_getElem? (i := 154) rfl)) rfl
theorem wq_5_153 : Cond.methodLink "WornWigs$Thought" 51 yX2_wearer ∈ wg_T := wg_T_of (wg_t5 (List.mem_of_getElem? (i := 153) rfl)) rfl
theorem wq_1_220 : Cond.fieldLink "WornWigs$Thought" 62 "WornWigs$Lines" "count" "I" ∈ wg_T := wg_T_of (wg_t1 (List.mem_of_getElem? (i := 220) rfl)) rfl
theorem wq_1_211 : Cond.fieldLink "WornWigs$Thought" 65 "WornWigs$Lines" "first" "[I" ∈ wg_T := wg_T_of (wg_t1 (List.mem_of_getElem? (i := 211) rfl)) rfl
theorem wq_1_215 : Cond.fieldLink "WornWigs$Thought" 69 "WornWigs$Lines" "second" "[I" ∈ wg_T := wg_T_of (wg_t1 (List.mem_of_getElem? (i := 215) rfl)) rfl
theorem wq_2_107 : Cond.fieldLink "WornWigs$Thought" 58 "WornWigs$World" "descent" "LWornWigs$Lines;" ∈ wg_T := wg_T_of (wg_t2 (List.mem_of_getElem? (i := 107) rfl)) rfl
theorem wq_5_166 : Cond.code yX7_madeAfter prog_9_method_7_code 4 (Option.some Jvm.ClassFile.FieldType.int) ∈ wg_T := wg_T_of (wg_t5 (List.mem_of_getElem? (i := 166) rfl)) rfl
theorem wq_5_163 : Cond.methodLink "WornWigs$Thought" 72 yX7_madeAfter ∈ wg_T := wg_T_of (wg_t5 (List.mem_of_getElem? (i := 163) rfl)) rfl
theorem wq_5_165 : Cond.instanceMethod yX7_madeAfter ∈ wg_T := wg_T_of (wg_t5 (List.mem_of_getElem? (i := 165) rfl)) rfl
theorem wq_p3_9 : Cond.selects "WornWigs$Thought" yX7_madeAfter yX7_madeAfter ∈ wg_T := wg_T_of (wg_sel (q := (⟨"WornWigs$Thought", "madeAfter", "(I)I"⟩, _)) (List.mem_append_right _ (List.mem_append_right _ (List.mem_append_left _ (List.mem_of_getElem? (i := 9) rfl))))) rfl
theorem wq_5_174 : Cond.code yX7_backSet prog_9_method_9_code 5 (Option.some Jvm.ClassFile.FieldType.int) ∈ wg_T := wg_T_of (wg_t5 (List.mem_of_getElem? (i := 174) rfl)) rfl
theorem wq_5_171 : Cond.methodLink "WornWigs$Thought" 75 yX7_backSet ∈ wg_T := wg_T_of (wg_t5 (List.mem_of_getElem? (i := 171) rfl)) rfl
theorem wq_5_173 : Cond.instanceMethod yX7_backSet ∈ wg_T := wg_T_of (wg_t5 (List.mem_of_getElem? (i := 173) rfl)) rfl
theorem wq_p3_10 : Cond.selects "WornWigs$Thought" yX7_backSet yX7_backSet ∈ wg_T := wg_T_of (wg_sel (q := (⟨"WornWigs$Thought", "backSet", "(I)I"⟩, _)) (List.mem_append_right _ (List.mem_append_right _ (List.mem_append_left _ (List.mem_of_getElem? (i := 10) rfl))))) rfl
theorem wq_1_144 : Cond.fieldLink "WornWigs$Thought" 78 "WornWigs$Bench" "wigs" "LWornWigs$Wigs;" ∈ wg_T := wg_T_of (wg_t1 (List.mem_of_getElem? (i := 144) rfl)) rfl
theorem wq_1_50 : Cond.fieldLink "WornWigs$Thought" 82 "WornWigs$Wigs" "colour" "[I" ∈ wg_T := wg_T_of (wg_t1 (List.mem_of_getElem? (i := 50) rfl)) rfl
theorem wq_1_55 : Cond.fieldLink "WornWigs$Thought" 87 "WornWigs$Wigs" "hair" "[I" ∈ wg_T := wg_T_of (wg_t1 (List.mem_of_getElem? (i := 55) rfl)) rfl
theorem wq_5_230 : Cond.methodLink "WornWigs$Thought" 90 yX9_knows ∈ wg_T := wg_T_of (wg_t5 (List.mem_of_getElem? (i := 230) rfl)) rfl
theorem wq_1_61 : Cond.fieldLink "WornWigs$Thought" 94 "WornWigs$Wigs" "lent" "[I" ∈ wg_T := wg_T_of (wg_t1 (List.mem_of_getElem? (i := 61) rfl)) rfl
theorem wq_2_48 : Cond.fieldLink "WornWigs$Thought" 101 "WornWigs$Told" "traits" "I" ∈ wg_T := wg_T_of (wg_t2 (List.mem_of_getElem? (i := 48) rfl)) rfl
theorem wq_2_42 : Cond.fieldLink "WornWigs$Thought" 106 "WornWigs$Told" "traitWhat" "[I" ∈ wg_T := wg_T_of (wg_t2 (List.mem_of_getElem? (i := 42) rfl)) rfl
theorem wq_2_44 : Cond.fieldLink "WornWigs$Thought" 109 "WornWigs$Told" "traitValue" "[I" ∈ wg_T := wg_T_of (wg_t2 (List.mem_of_getElem? (i := 44) rfl)) rfl
theorem wq_5_229 : Cond.code yX7_hasTrait prog_9_method_11_code 5 (Option.some Jvm.ClassFile.FieldType.boolean) ∈ wg_T := wg_T_of (wg_t5 (List.mem_of_getElem? (i := 229) rfl)) rfl
theorem wq_5_226 : Cond.methodLink "WornWigs$Thought" 112 yX7_hasTrait ∈ wg_T := wg_T_of (wg_t5 (List.mem_of_getElem? (i := 226) rfl)) rfl
theorem wq_5_228 : Cond.instanceMethod yX7_hasTrait ∈ wg_T := wg_T_of (wg_t5 (List.mem_of_getElem? (i := 228) rfl)) rfl
theorem wq_p3_13 : Cond.selects "WornWigs$Thought" yX7_hasTrait yX7_hasTrait ∈ wg_T := wg_T_of (wg_sel (q := (⟨"WornWigs$Thought", "hasTrait", "(III)Z"⟩, _)) (List.mem_append_right _ (List.mem_append_right _ (List.mem_append_left _ (List.mem_of_getElem? (i := 13) rfl))))) rfl
theorem wq_2_46 : Cond.fieldLink "WornWigs$Thought" 116 "WornWigs$Told" "traitIs" "[I" ∈ wg_T := wg_T_of (wg_t2 (List.mem_of_getElem? (i := 46) rfl)) rfl
theorem wq_2_111 : Cond.fieldLink "WornWigs$Thought" 97 "WornWigs$World" "told" "LWornWigs$Told;" ∈ wg_T := wg_T_of (wg_t2 (List.mem_of_getElem? (i := 111) rfl)) rfl
theorem wq_1_79 : Cond.fieldLink "WornWigs$Thought" 119 "WornWigs$Wigs" "count" "I" ∈ wg_T := wg_T_of (wg_t1 (List.mem_of_getElem? (i := 79) rfl)) rfl
theorem wq_5_225 : Cond.code yX7_isAsTold prog_9_method_12_code 4 (Option.some Jvm.ClassFile.FieldType.boolean) ∈ wg_T := wg_T_of (wg_t5 (List.mem_of_getElem? (i := 225) rfl)) rfl
theorem wq_5_222 : Cond.methodLink "WornWigs$Thought" 120 yX7_isAsTold ∈ wg_T := wg_T_of (wg_t5 (List.mem_of_getElem? (i := 222) rfl)) rfl
theorem wq_5_224 : Cond.instanceMethod yX7_isAsTold ∈ wg_T := wg_T_of (wg_t5 (List.mem_of_getElem? (i := 224) rfl)) rfl
theorem wq_p3_12 : Cond.selects "WornWigs$Thought" yX7_isAsTold yX7_isAsTold ∈ wg_T := wg_T_of (wg_sel (q := (⟨"WornWigs$Thought", "isAsTold", "(I)Z"⟩, _)) (List.mem_append_right _ (List.mem_append_right _ (List.mem_append_left _ (List.mem_of_getElem? (i := 12) rfl))))) rfl
theorem wq_6_0 : Cond.code yX7_knowers prog_9_method_15_code 5 (Option.some Jvm.ClassFile.FieldType.int) ∈ wg_T := wg_T_of (wg_t6 (List.mem_of_getElem? (i := 0) rfl)) rfl
theorem wq_5_237 : Cond.methodLink "WornWigs$Thought" 132 yX7_knowers ∈ wg_T := wg_T_of (wg_t5 (List.mem_of_getElem? (i := 237) rfl)) rfl
theorem wq_5_239 : Cond.instanceMethod yX7_knowers ∈ wg_T := wg_T_of (wg_t5 (List.mem_of_getElem? (i := 239) rfl)) rfl
theorem wq_p3_14 : Cond.selects "WornWigs$Thought" yX7_knowers yX7_knowers ∈ wg_T := wg_T_of (wg_sel (q := (⟨"WornWigs$Thought", "knowers", "(II)I"⟩, _)) (List.mem_append_right _ (List.mem_append_right _ (List.mem_append_left _ (List.mem_of_getElem? (i := 14) rfl))))) rfl
theorem wq_6_1 : Cond.methodLink "WornWigs$Thought" 135 yJ9_max_7cf53 ∈ wg_T := wg_T_of (wg_t6 (List.mem_of_getElem? (i := 1) rfl)) rfl
theorem wq_5_221 : Cond.code yX7_whoseSet prog_9_method_13_code 3 (Option.some Jvm.ClassFile.FieldType.int) ∈ wg_T := wg_T_of (wg_t5 (List.mem_of_getElem? (i := 221) rfl)) rfl
theorem wq_5_235 : Cond.methodLink "WornWigs$Thought" 123 yX7_whoseSet ∈ wg_T := wg_T_of (wg_t5 (List.mem_of_getElem? (i := 235) rfl)) rfl
theorem wq_5_219 : Cond.instanceMethod yX7_whoseSet ∈ wg_T := wg_T_of (wg_t5 (List.mem_of_getElem? (i := 219) rfl)) rfl
theorem wq_5_220 : Cond.selects "WornWigs$Thought" yX7_whoseSet yX7_whoseSet ∈ wg_T := wg_T_of (wg_t5 (List.mem_of_getElem? (i := 220) rfl)) rfl
theorem wq_5_236 : Cond.methodLink "WornWigs$Thought" 127 yJ6_bitCount_0f7a4 ∈ wg_T := wg_T_of (wg_t5 (List.mem_of_getElem? (i := 236) rfl)) rfl
theorem wq_2_41 : Cond.fieldLink "WornWigs$Told" 9 "WornWigs$Told" "traitWhat" "[I" ∈ wg_T := wg_T_of (wg_t2 (List.mem_of_getElem? (i := 41) rfl)) rfl
theorem wq_2_43 : Cond.fieldLink "WornWigs$Told" 15 "WornWigs$Told" "traitValue" "[I" ∈ wg_T := wg_T_of (wg_t2 (List.mem_of_getElem? (i := 43) rfl)) rfl
theorem wq_2_45 : Cond.fieldLink "WornWigs$Told" 18 "WornWigs$Told" "traitIs" "[I" ∈ wg_T := wg_T_of (wg_t2 (List.mem_of_getElem? (i := 45) rfl)) rfl
theorem wq_2_47 : Cond.fieldLink "WornWigs$Told" 43 "WornWigs$Told" "traits" "I" ∈ wg_T := wg_T_of (wg_t2 (List.mem_of_getElem? (i := 47) rfl)) rfl
theorem wq_2_50 : Cond.fieldLink "WornWigs$Told" 21 "WornWigs$Told" "citing" "[I" ∈ wg_T := wg_T_of (wg_t2 (List.mem_of_getElem? (i := 50) rfl)) rfl
theorem wq_2_51 : Cond.fieldLink "WornWigs$Told" 24 "WornWigs$Told" "cited" "[I" ∈ wg_T := wg_T_of (wg_t2 (List.mem_of_getElem? (i := 51) rfl)) rfl
theorem wq_2_52 : Cond.fieldLink "WornWigs$Told" 47 "WornWigs$Told" "cites" "I" ∈ wg_T := wg_T_of (wg_t2 (List.mem_of_getElem? (i := 52) rfl)) rfl
theorem wq_2_54 : Cond.fieldLink "WornWigs$Told" 27 "WornWigs$Told" "worth" "[I" ∈ wg_T := wg_T_of (wg_t2 (List.mem_of_getElem? (i := 54) rfl)) rfl
theorem wq_2_56 : Cond.fieldLink "WornWigs$Told" 30 "WornWigs$Told" "hours" "[I" ∈ wg_T := wg_T_of (wg_t2 (List.mem_of_getElem? (i := 56) rfl)) rfl
theorem wq_2_57 : Cond.fieldLink "WornWigs$Told" 33 "WornWigs$Told" "due" "[I" ∈ wg_T := wg_T_of (wg_t2 (List.mem_of_getElem? (i := 57) rfl)) rfl
theorem wq_2_58 : Cond.fieldLink "WornWigs$Told" 50 "WornWigs$Told" "hards" "I" ∈ wg_T := wg_T_of (wg_t2 (List.mem_of_getElem? (i := 58) rfl)) rfl
theorem wq_2_60 : Cond.fieldLink "WornWigs$Told" 36 "WornWigs$Told" "rowFrom" "[I" ∈ wg_T := wg_T_of (wg_t2 (List.mem_of_getElem? (i := 60) rfl)) rfl
theorem wq_6_22 : Cond.methodLink "WornWigs$Told" 61 yJ7_fill_53178 ∈ wg_T := wg_T_of (wg_t6 (List.mem_of_getElem? (i := 22) rfl)) rfl
theorem wq_1_9 : Cond.initialized "WornWigs$Told" ∈ wg_T := wg_T_of (wg_t1 (List.mem_of_getElem? (i := 9) rfl)) rfl
theorem wq_6_21 : Cond.code yX8_measureRows prog_10_method_7_code 4 (Option.some Jvm.ClassFile.FieldType.boolean) ∈ wg_T := wg_T_of (wg_t6 (List.mem_of_getElem? (i := 21) rfl)) rfl
theorem wq_6_18 : Cond.methodLink "WornWigs$Told" 57 yX8_measureRows ∈ wg_T := wg_T_of (wg_t6 (List.mem_of_getElem? (i := 18) rfl)) rfl
theorem wq_6_20 : Cond.instanceMethod yX8_measureRows ∈ wg_T := wg_T_of (wg_t6 (List.mem_of_getElem? (i := 20) rfl)) rfl
theorem wq_p3_15 : Cond.selects "WornWigs$Told" yX8_measureRows yX8_measureRows ∈ wg_T := wg_T_of (wg_sel (q := (⟨"WornWigs$Told", "measureRows", "()Z"⟩, _)) (List.mem_append_right _ (List.mem_append_right _ (List.mem_append_left _ (List.mem_of_getElem? (i := 15) rfl))))) rfl
theorem wq_6_38 : Cond.code yX8_worthOf prog_10_method_8_code 6 (Option.some Jvm.ClassFile.FieldType.int) ∈ wg_T := wg_T_of (wg_t6 (List.mem_of_getElem? (i := 38) rfl)) rfl
theorem wq_6_35 : Cond.methodLink "WornWigs$Told" 67 yX8_worthOf ∈ wg_T := wg_T_of (wg_t6 (List.mem_of_getElem? (i := 35) rfl)) rfl
theorem wq_6_37 : Cond.instanceMethod yX8_worthOf ∈ wg_T := wg_T_of (wg_t6 (List.mem_of_getElem? (i := 37) rfl)) rfl
theorem wq_p4_0 : Cond.selects "WornWigs$Told" yX8_worthOf yX8_worthOf ∈ wg_T := wg_T_of (wg_sel (q := (⟨"WornWigs$Told", "worthOf", "(III)I"⟩, _)) (List.mem_append_right _ (List.mem_append_right _ (List.mem_append_right _ (List.mem_append_left _ (List.mem_of_getElem? (i := 0) rfl)))))) rfl
theorem wq_6_39 : Cond.methodLink "WornWigs$Told" 71 yJ9_min_7cf53 ∈ wg_T := wg_T_of (wg_t6 (List.mem_of_getElem? (i := 39) rfl)) rfl
theorem wq_6_34 : Cond.code yX8_cutPlace prog_10_method_9_code 5 (Option.some Jvm.ClassFile.FieldType.int) ∈ wg_T := wg_T_of (wg_t6 (List.mem_of_getElem? (i := 34) rfl)) rfl
theorem wq_6_44 : Cond.methodLink "WornWigs$Told" 77 yX8_cutPlace ∈ wg_T := wg_T_of (wg_t6 (List.mem_of_getElem? (i := 44) rfl)) rfl
theorem wq_6_32 : Cond.instanceMethod yX8_cutPlace ∈ wg_T := wg_T_of (wg_t6 (List.mem_of_getElem? (i := 32) rfl)) rfl
theorem wq_6_33 : Cond.selects "WornWigs$Told" yX8_cutPlace yX8_cutPlace ∈ wg_T := wg_T_of (wg_t6 (List.mem_of_getElem? (i := 33) rfl)) rfl
theorem wq_6_45 : Cond.methodLink "WornWigs$Told" 81 yJ9_max_7cf53 ∈ wg_T := wg_T_of (wg_t6 (List.mem_of_getElem? (i := 45) rfl)) rfl
theorem wq_6_69 : Cond.code yX8_soonestDue prog_10_method_13_code 4 (Option.some Jvm.ClassFile.FieldType.int) ∈ wg_T := wg_T_of (wg_t6 (List.mem_of_getElem? (i := 69) rfl)) rfl
theorem wq_6_66 : Cond.methodLink "WornWigs$Told" 84 yX8_soonestDue ∈ wg_T := wg_T_of (wg_t6 (List.mem_of_getElem? (i := 66) rfl)) rfl
theorem wq_6_68 : Cond.instanceMethod yX8_soonestDue ∈ wg_T := wg_T_of (wg_t6 (List.mem_of_getElem? (i := 68) rfl)) rfl
theorem wq_p4_1 : Cond.selects "WornWigs$Told" yX8_soonestDue yX8_soonestDue ∈ wg_T := wg_T_of (wg_sel (q := (⟨"WornWigs$Told", "soonestDue", "(I)I"⟩, _)) (List.mem_append_right _ (List.mem_append_right _ (List.mem_append_right _ (List.mem_append_left _ (List.mem_of_getElem? (i := 1) rfl)))))) rfl
theorem wq_6_65 : Cond.code yX8_lateness prog_10_method_12_code 8 (Option.some Jvm.ClassFile.FieldType.int) ∈ wg_T := wg_T_of (wg_t6 (List.mem_of_getElem? (i := 65) rfl)) rfl
theorem wq_6_74 : Cond.methodLink "WornWigs$Told" 88 yX8_lateness ∈ wg_T := wg_T_of (wg_t6 (List.mem_of_getElem? (i := 74) rfl)) rfl
theorem wq_6_63 : Cond.instanceMethod yX8_lateness ∈ wg_T := wg_T_of (wg_t6 (List.mem_of_getElem? (i := 63) rfl)) rfl
theorem wq_6_64 : Cond.selects "WornWigs$Told" yX8_lateness yX8_lateness ∈ wg_T := wg_T_of (wg_t6 (List.mem_of_getElem? (i := 64) rfl)) rfl
theorem wq_6_78 : Cond.code yX8_leastThatKeeps prog_10_method_15_code 7 (Option.some Jvm.ClassFile.FieldType.int) ∈ wg_T := wg_T_of (wg_t6 (List.mem_of_getElem? (i := 78) rfl)) rfl
theorem wq_6_75 : Cond.methodLink "WornWigs$Told" 91 yX8_leastThatKeeps ∈ wg_T := wg_T_of (wg_t6 (List.mem_of_getElem? (i := 75) rfl)) rfl
theorem wq_6_77 : Cond.instanceMethod yX8_leastThatKeeps ∈ wg_T := wg_T_of (wg_t6 (List.mem_of_getElem? (i := 77) rfl)) rfl
theorem wq_p4_2 : Cond.selects "WornWigs$Told" yX8_leastThatKeeps yX8_leastThatKeeps ∈ wg_T := wg_T_of (wg_sel (q := (⟨"WornWigs$Told", "leastThatKeeps", "(III)I"⟩, _)) (List.mem_append_right _ (List.mem_append_right _ (List.mem_append_right _ (List.mem_append_left _ (List.mem_of_getElem? (i := 2) rfl)))))) rfl
theorem wq_5_50 : Cond.methodLink "WornWigs$Wigs" 44 yX9_has ∈ wg_T := wg_T_of (wg_t5 (List.mem_of_getElem? (i := 50) rfl)) rfl
theorem wq_5_140 : Cond.code yX9_rulingsOn prog_11_method_17_code 5 (Option.some Jvm.ClassFile.FieldType.int) ∈ wg_T := wg_T_of (wg_t5 (List.mem_of_getElem? (i := 140) rfl)) rfl
theorem wq_5_137 : Cond.methodLink "WornWigs$Wigs" 76 yX9_rulingsOn ∈ wg_T := wg_T_of (wg_t5 (List.mem_of_getElem? (i := 137) rfl)) rfl
theorem wq_5_139 : Cond.instanceMethod yX9_rulingsOn ∈ wg_T := wg_T_of (wg_t5 (List.mem_of_getElem? (i := 139) rfl)) rfl
theorem wq_p3_8 : Cond.selects "WornWigs$Wigs" yX9_rulingsOn yX9_rulingsOn ∈ wg_T := wg_T_of (wg_sel (q := (⟨"WornWigs$Wigs", "rulingsOn", "(II)I"⟩, _)) (List.mem_append_right _ (List.mem_append_right _ (List.mem_append_left _ (List.mem_of_getElem? (i := 8) rfl))))) rfl
theorem wq_5_143 : Cond.code yJ9_abs_0f7a4 prog_16_method_59_code 1 (Option.some Jvm.ClassFile.FieldType.int) ∈ wg_T := wg_T_of (wg_t5 (List.mem_of_getElem? (i := 143) rfl)) rfl
theorem wq_5_141 : Cond.methodLink "WornWigs$Wigs" 79 yJ9_abs_0f7a4 ∈ wg_T := wg_T_of (wg_t5 (List.mem_of_getElem? (i := 141) rfl)) rfl
theorem wq_5_142 : Cond.static yJ9_abs_0f7a4 ∈ wg_T := wg_T_of (wg_t5 (List.mem_of_getElem? (i := 142) rfl)) rfl
theorem wq_5_136 : Cond.code yX9_apart prog_11_method_16_code 5 (Option.some Jvm.ClassFile.FieldType.int) ∈ wg_T := wg_T_of (wg_t5 (List.mem_of_getElem? (i := 136) rfl)) rfl
theorem wq_5_133 : Cond.methodLink "WornWigs$Wigs" 82 yX9_apart ∈ wg_T := wg_T_of (wg_t5 (List.mem_of_getElem? (i := 133) rfl)) rfl
theorem wq_5_134 : Cond.instanceMethod yX9_apart ∈ wg_T := wg_T_of (wg_t5 (List.mem_of_getElem? (i := 134) rfl)) rfl
theorem wq_5_135 : Cond.selects "WornWigs$Wigs" yX9_apart yX9_apart ∈ wg_T := wg_T_of (wg_t5 (List.mem_of_getElem? (i := 135) rfl)) rfl
theorem wq_5_183 : Cond.methodLink "WornWigs$Wigs" 85 yX9_hairOf ∈ wg_T := wg_T_of (wg_t5 (List.mem_of_getElem? (i := 183) rfl)) rfl
theorem wq_5_187 : Cond.code yX9_worthOf prog_11_method_20_code 4 (Option.some Jvm.ClassFile.FieldType.int) ∈ wg_T := wg_T_of (wg_t5 (List.mem_of_getElem? (i := 187) rfl)) rfl
theorem wq_5_184 : Cond.methodLink "WornWigs$Wigs" 88 yX9_worthOf ∈ wg_T := wg_T_of (wg_t5 (List.mem_of_getElem? (i := 184) rfl)) rfl
theorem wq_5_185 : Cond.instanceMethod yX9_worthOf ∈ wg_T := wg_T_of (wg_t5 (List.mem_of_getElem? (i := 185) rfl)) rfl
theorem wq_5_186 : Cond.selects "WornWigs$Wigs" yX9_worthOf yX9_worthOf ∈ wg_T := wg_T_of (wg_t5 (List.mem_of_getElem? (i := 186) rfl)) rfl
theorem wq_2_86 : Cond.fieldLink "WornWigs$World" 12 "WornWigs$World" "bench" "LWornWigs$Bench;" ∈ wg_T := wg_T_of (wg_t2 (List.mem_of_getElem? (i := 86) rfl)) rfl
theorem wq_6_103 : Cond.methodLink "WornWigs$World" 50 yX0_copyFrom ∈ wg_T := wg_T_of (wg_t6 (List.mem_of_getElem? (i := 103) rfl)) rfl
theorem wq_2_91 : Cond.fieldLink "WornWigs$World" 23 "WornWigs$World" "pages" "LWornWigs$Lines;" ∈ wg_T := wg_T_of (wg_t2 (List.mem_of_getElem? (i := 91) rfl)) rfl
theorem wq_6_104 : Cond.methodLink "WornWigs$World" 54 yX4_copyFrom ∈ wg_T := wg_T_of (wg_t6 (List.mem_of_getElem? (i := 104) rfl)) rfl
theorem wq_2_94 : Cond.fieldLink "WornWigs$World" 30 "WornWigs$World" "law" "LWornWigs$Law;" ∈ wg_T := wg_T_of (wg_t2 (List.mem_of_getElem? (i := 94) rfl)) rfl
theorem wq_6_105 : Cond.methodLink "WornWigs$World" 57 yX3_copyFrom ∈ wg_T := wg_T_of (wg_t6 (List.mem_of_getElem? (i := 105) rfl)) rfl
theorem wq_2_98 : Cond.fieldLink "WornWigs$World" 34 "WornWigs$World" "docket" "LWornWigs$Lines;" ∈ wg_T := wg_T_of (wg_t2 (List.mem_of_getElem? (i := 98) rfl)) rfl
theorem wq_2_102 : Cond.fieldLink "WornWigs$World" 37 "WornWigs$World" "loans" "LWornWigs$Lines;" ∈ wg_T := wg_T_of (wg_t2 (List.mem_of_getElem? (i := 102) rfl)) rfl
theorem wq_2_106 : Cond.fieldLink "WornWigs$World" 40 "WornWigs$World" "descent" "LWornWigs$Lines;" ∈ wg_T := wg_T_of (wg_t2 (List.mem_of_getElem? (i := 106) rfl)) rfl
theorem wq_2_110 : Cond.fieldLink "WornWigs$World" 46 "WornWigs$World" "told" "LWornWigs$Told;" ∈ wg_T := wg_T_of (wg_t2 (List.mem_of_getElem? (i := 110) rfl)) rfl
theorem wq_6_109 : Cond.code yX8_copyFrom prog_10_method_2_code 2 (Option.none : Option Jvm.ClassFile.FieldType) ∈ wg_T := wg_T_of (wg_t6 (List.mem_of_getElem? (i := 109) rfl)) rfl
theorem wq_6_106 : Cond.methodLink "WornWigs$World" 60 yX8_copyFrom ∈ wg_T := wg_T_of (wg_t6 (List.mem_of_getElem? (i := 106) rfl)) rfl
theorem wq_6_107 : Cond.instanceMethod yX8_copyFrom ∈ wg_T := wg_T_of (wg_t6 (List.mem_of_getElem? (i := 107) rfl)) rfl
theorem wq_6_108 : Cond.selects "WornWigs$Told" yX8_copyFrom yX8_copyFrom ∈ wg_T := wg_T_of (wg_t6 (List.mem_of_getElem? (i := 108) rfl)) rfl
theorem wq_3_14 : Cond.fieldLink "WornWigs" 12 "WornWigs" "now" "LWornWigs$World;" ∈ wg_T := wg_T_of (wg_t3 (List.mem_of_getElem? (i := 14) rfl)) rfl
theorem wq_2_88 : Cond.fieldLink "WornWigs" 51 "WornWigs$World" "bench" "LWornWigs$Bench;" ∈ wg_T := wg_T_of (wg_t2 (List.mem_of_getElem? (i := 88) rfl)) rfl
theorem wq_1_169 : Cond.fieldLink "WornWigs" 55 "WornWigs$Bench" "draws" "I" ∈ wg_T := wg_T_of (wg_t1 (List.mem_of_getElem? (i := 169) rfl)) rfl
theorem wq_3_16 : Cond.fieldLink "WornWigs" 22 "WornWigs" "past" "LWornWigs$Past;" ∈ wg_T := wg_T_of (wg_t3 (List.mem_of_getElem? (i := 16) rfl)) rfl
theorem wq_1_10 : Cond.initialized "WornWigs$Past" ∈ wg_T := wg_T_of (wg_t1 (List.mem_of_getElem? (i := 10) rfl)) rfl
theorem wq_3_43 : Cond.code yX5_forget prog_7_method_4_code 1 (Option.none : Option Jvm.ClassFile.FieldType) ∈ wg_T := wg_T_of (wg_t3 (List.mem_of_getElem? (i := 43) rfl)) rfl
theorem wq_3_40 : Cond.methodLink "WornWigs" 61 yX5_forget ∈ wg_T := wg_T_of (wg_t3 (List.mem_of_getElem? (i := 40) rfl)) rfl
theorem wq_3_41 : Cond.instanceMethod yX5_forget ∈ wg_T := wg_T_of (wg_t3 (List.mem_of_getElem? (i := 41) rfl)) rfl
theorem wq_3_42 : Cond.selects "WornWigs$Past" yX5_forget yX5_forget ∈ wg_T := wg_T_of (wg_t3 (List.mem_of_getElem? (i := 42) rfl)) rfl
theorem wq_1_143 : Cond.fieldLink "WornWigs" 64 "WornWigs$Bench" "wigs" "LWornWigs$Wigs;" ∈ wg_T := wg_T_of (wg_t1 (List.mem_of_getElem? (i := 143) rfl)) rfl
theorem wq_1_77 : Cond.fieldLink "WornWigs" 68 "WornWigs$Wigs" "count" "I" ∈ wg_T := wg_T_of (wg_t1 (List.mem_of_getElem? (i := 77) rfl)) rfl
theorem wq_3_48 : Cond.methodLink "WornWigs" 73 yX11_within ∈ wg_T := wg_T_of (wg_t3 (List.mem_of_getElem? (i := 48) rfl)) rfl
theorem wq_3_54 : Cond.code yX9_add prog_11_method_5_code 3 (Option.some Jvm.ClassFile.FieldType.int) ∈ wg_T := wg_T_of (wg_t3 (List.mem_of_getElem? (i := 54) rfl)) rfl
theorem wq_3_51 : Cond.methodLink "WornWigs" 77 yX9_add ∈ wg_T := wg_T_of (wg_t3 (List.mem_of_getElem? (i := 51) rfl)) rfl
theorem wq_3_52 : Cond.instanceMethod yX9_add ∈ wg_T := wg_T_of (wg_t3 (List.mem_of_getElem? (i := 52) rfl)) rfl
theorem wq_3_53 : Cond.selects "WornWigs$Wigs" yX9_add yX9_add ∈ wg_T := wg_T_of (wg_t3 (List.mem_of_getElem? (i := 53) rfl)) rfl
theorem wq_1_149 : Cond.fieldLink "WornWigs" 81 "WornWigs$Bench" "judges" "LWornWigs$Judges;" ∈ wg_T := wg_T_of (wg_t1 (List.mem_of_getElem? (i := 149) rfl)) rfl
theorem wq_1_125 : Cond.fieldLink "WornWigs" 85 "WornWigs$Judges" "count" "I" ∈ wg_T := wg_T_of (wg_t1 (List.mem_of_getElem? (i := 125) rfl)) rfl
theorem wq_3_62 : Cond.code yX2_add prog_4_method_5_code 3 (Option.some Jvm.ClassFile.FieldType.int) ∈ wg_T := wg_T_of (wg_t3 (List.mem_of_getElem? (i := 62) rfl)) rfl
theorem wq_3_59 : Cond.methodLink "WornWigs" 88 yX2_add ∈ wg_T := wg_T_of (wg_t3 (List.mem_of_getElem? (i := 59) rfl)) rfl
theorem wq_3_60 : Cond.instanceMethod yX2_add ∈ wg_T := wg_T_of (wg_t3 (List.mem_of_getElem? (i := 60) rfl)) rfl
theorem wq_3_61 : Cond.selects "WornWigs$Judges" yX2_add yX2_add ∈ wg_T := wg_T_of (wg_t3 (List.mem_of_getElem? (i := 61) rfl)) rfl
theorem wq_1_164 : Cond.fieldLink "WornWigs" 89 "WornWigs$Bench" "cases" "I" ∈ wg_T := wg_T_of (wg_t1 (List.mem_of_getElem? (i := 164) rfl)) rfl
theorem wq_3_70 : Cond.code yX0_addCase prog_2_method_4_code 3 (Option.some Jvm.ClassFile.FieldType.int) ∈ wg_T := wg_T_of (wg_t3 (List.mem_of_getElem? (i := 70) rfl)) rfl
theorem wq_3_67 : Cond.methodLink "WornWigs" 92 yX0_addCase ∈ wg_T := wg_T_of (wg_t3 (List.mem_of_getElem? (i := 67) rfl)) rfl
theorem wq_3_68 : Cond.instanceMethod yX0_addCase ∈ wg_T := wg_T_of (wg_t3 (List.mem_of_getElem? (i := 68) rfl)) rfl
theorem wq_3_69 : Cond.selects "WornWigs$Bench" yX0_addCase yX0_addCase ∈ wg_T := wg_T_of (wg_t3 (List.mem_of_getElem? (i := 69) rfl)) rfl
theorem wq_3_75 : Cond.methodLink "WornWigs" 95 yX9_has ∈ wg_T := wg_T_of (wg_t3 (List.mem_of_getElem? (i := 75) rfl)) rfl
theorem wq_1_64 : Cond.fieldLink "WornWigs" 99 "WornWigs$Wigs" "rules" "[I" ∈ wg_T := wg_T_of (wg_t1 (List.mem_of_getElem? (i := 64) rfl)) rfl
theorem wq_3_79 : Cond.methodLink "WornWigs" 103 yX9_addRule ∈ wg_T := wg_T_of (wg_t3 (List.mem_of_getElem? (i := 79) rfl)) rfl
theorem wq_3_104 : Cond.methodLink "WornWigs" 107 yX2_has ∈ wg_T := wg_T_of (wg_t3 (List.mem_of_getElem? (i := 104) rfl)) rfl
theorem wq_1_110 : Cond.fieldLink "WornWigs" 108 "WornWigs$Judges" "age" "[I" ∈ wg_T := wg_T_of (wg_t1 (List.mem_of_getElem? (i := 110) rfl)) rfl
theorem wq_3_111 : Cond.code yX11_tellAnew prog_1_method_8_code 6 (Option.some Jvm.ClassFile.FieldType.boolean) ∈ wg_T := wg_T_of (wg_t3 (List.mem_of_getElem? (i := 111) rfl)) rfl
theorem wq_3_108 : Cond.methodLink "WornWigs" 111 yX11_tellAnew ∈ wg_T := wg_T_of (wg_t3 (List.mem_of_getElem? (i := 108) rfl)) rfl
theorem wq_3_110 : Cond.instanceMethod yX11_tellAnew ∈ wg_T := wg_T_of (wg_t3 (List.mem_of_getElem? (i := 110) rfl)) rfl
theorem wq_p1_2 : Cond.selects "WornWigs" yX11_tellAnew yX11_tellAnew ∈ wg_T := wg_T_of (wg_sel (q := (⟨"WornWigs", "tellAnew", "([IIIII)Z"⟩, _)) (List.mem_append_left _ (List.mem_of_getElem? (i := 2) rfl))) rfl
theorem wq_1_113 : Cond.fieldLink "WornWigs" 115 "WornWigs$Judges" "mind" "[I" ∈ wg_T := wg_T_of (wg_t1 (List.mem_of_getElem? (i := 113) rfl)) rfl
theorem wq_1_54 : Cond.fieldLink "WornWigs" 118 "WornWigs$Wigs" "hair" "[I" ∈ wg_T := wg_T_of (wg_t1 (List.mem_of_getElem? (i := 54) rfl)) rfl
theorem wq_3_112 : Cond.methodLink "WornWigs" 121 yX0_hasCase ∈ wg_T := wg_T_of (wg_t3 (List.mem_of_getElem? (i := 112) rfl)) rfl
theorem wq_1_155 : Cond.fieldLink "WornWigs" 124 "WornWigs$Bench" "merit" "[I" ∈ wg_T := wg_T_of (wg_t1 (List.mem_of_getElem? (i := 155) rfl)) rfl
theorem wq_3_18 : Cond.fieldLink "WornWigs" 38 "WornWigs" "court" "LWornWigs$Court;" ∈ wg_T := wg_T_of (wg_t3 (List.mem_of_getElem? (i := 18) rfl)) rfl
theorem wq_3_120 : Cond.methodLink "WornWigs" 127 yX1_canTry ∈ wg_T := wg_T_of (wg_t3 (List.mem_of_getElem? (i := 120) rfl)) rfl
theorem wq_3_133 : Cond.code yX5_remember prog_7_method_2_code 2 (Option.none : Option Jvm.ClassFile.FieldType) ∈ wg_T := wg_T_of (wg_t3 (List.mem_of_getElem? (i := 133) rfl)) rfl
theorem wq_3_130 : Cond.methodLink "WornWigs" 131 yX5_remember ∈ wg_T := wg_T_of (wg_t3 (List.mem_of_getElem? (i := 130) rfl)) rfl
theorem wq_3_131 : Cond.instanceMethod yX5_remember ∈ wg_T := wg_T_of (wg_t3 (List.mem_of_getElem? (i := 131) rfl)) rfl
theorem wq_3_132 : Cond.selects "WornWigs$Past" yX5_remember yX5_remember ∈ wg_T := wg_T_of (wg_t3 (List.mem_of_getElem? (i := 132) rfl)) rfl
theorem wq_3_156 : Cond.methodLink "WornWigs" 135 yX1_tryCase ∈ wg_T := wg_T_of (wg_t3 (List.mem_of_getElem? (i := 156) rfl)) rfl
theorem wq_1_158 : Cond.fieldLink "WornWigs" 139 "WornWigs$Bench" "verdict" "[I" ∈ wg_T := wg_T_of (wg_t1 (List.mem_of_getElem? (i := 158) rfl)) rfl
theorem wq_3_227 : Cond.methodLink "WornWigs" 142 yX1_canDo ∈ wg_T := wg_T_of (wg_t3 (List.mem_of_getElem? (i := 227) rfl)) rfl
theorem wq_4_0 : Cond.methodLink "WornWigs" 145 yX1_doTo ∈ wg_T := wg_T_of (wg_t4 (List.mem_of_getElem? (i := 0) rfl)) rfl
theorem wq_4_29 : Cond.code yX1_passYear prog_3_method_18_code 5 (Option.some Jvm.ClassFile.FieldType.int) ∈ wg_T := wg_T_of (wg_t4 (List.mem_of_getElem? (i := 29) rfl)) rfl
theorem wq_4_26 : Cond.methodLink "WornWigs" 152 yX1_passYear ∈ wg_T := wg_T_of (wg_t4 (List.mem_of_getElem? (i := 26) rfl)) rfl
theorem wq_4_27 : Cond.instanceMethod yX1_passYear ∈ wg_T := wg_T_of (wg_t4 (List.mem_of_getElem? (i := 27) rfl)) rfl
theorem wq_4_28 : Cond.selects "WornWigs$Court" yX1_passYear yX1_passYear ∈ wg_T := wg_T_of (wg_t4 (List.mem_of_getElem? (i := 28) rfl)) rfl
theorem wq_1_168 : Cond.fieldLink "WornWigs" 149 "WornWigs$Bench" "year" "I" ∈ wg_T := wg_T_of (wg_t1 (List.mem_of_getElem? (i := 168) rfl)) rfl
theorem wq_3_17 : Cond.fieldLink "WornWigs" 31 "WornWigs" "reader" "LWornWigs$Reader;" ∈ wg_T := wg_T_of (wg_t3 (List.mem_of_getElem? (i := 17) rfl)) rfl
theorem wq_4_72 : Cond.code yX6_hasRoomFor prog_8_method_2_code 2 (Option.some Jvm.ClassFile.FieldType.boolean) ∈ wg_T := wg_T_of (wg_t4 (List.mem_of_getElem? (i := 72) rfl)) rfl
theorem wq_4_69 : Cond.methodLink "WornWigs" 156 yX6_hasRoomFor ∈ wg_T := wg_T_of (wg_t4 (List.mem_of_getElem? (i := 69) rfl)) rfl
theorem wq_4_70 : Cond.instanceMethod yX6_hasRoomFor ∈ wg_T := wg_T_of (wg_t4 (List.mem_of_getElem? (i := 70) rfl)) rfl
theorem wq_4_71 : Cond.selects "WornWigs$Reader" yX6_hasRoomFor yX6_hasRoomFor ∈ wg_T := wg_T_of (wg_t4 (List.mem_of_getElem? (i := 71) rfl)) rfl
theorem wq_4_76 : Cond.code yX6_addNumber prog_8_method_3_code 3 (Option.none : Option Jvm.ClassFile.FieldType) ∈ wg_T := wg_T_of (wg_t4 (List.mem_of_getElem? (i := 76) rfl)) rfl
theorem wq_4_73 : Cond.methodLink "WornWigs" 159 yX6_addNumber ∈ wg_T := wg_T_of (wg_t4 (List.mem_of_getElem? (i := 73) rfl)) rfl
theorem wq_4_74 : Cond.instanceMethod yX6_addNumber ∈ wg_T := wg_T_of (wg_t4 (List.mem_of_getElem? (i := 74) rfl)) rfl
theorem wq_4_75 : Cond.selects "WornWigs$Reader" yX6_addNumber yX6_addNumber ∈ wg_T := wg_T_of (wg_t4 (List.mem_of_getElem? (i := 75) rfl)) rfl
theorem wq_2_161 : Cond.fieldLink "WornWigs" 163 "WornWigs$Reader" "length" "I" ∈ wg_T := wg_T_of (wg_t2 (List.mem_of_getElem? (i := 161) rfl)) rfl
theorem wq_2_168 : Cond.fieldLink "WornWigs" 191 "WornWigs$Reader" "faultFound" "I" ∈ wg_T := wg_T_of (wg_t2 (List.mem_of_getElem? (i := 168) rfl)) rfl
theorem wq_2_170 : Cond.fieldLink "WornWigs" 194 "WornWigs$Reader" "faultPlace" "I" ∈ wg_T := wg_T_of (wg_t2 (List.mem_of_getElem? (i := 170) rfl)) rfl
theorem wq_1_51 : Cond.fieldLink "WornWigs" 197 "WornWigs$Wigs" "colour" "[I" ∈ wg_T := wg_T_of (wg_t1 (List.mem_of_getElem? (i := 51) rfl)) rfl
theorem wq_1_58 : Cond.fieldLink "WornWigs" 200 "WornWigs$Wigs" "itch" "[I" ∈ wg_T := wg_T_of (wg_t1 (List.mem_of_getElem? (i := 58) rfl)) rfl
theorem wq_1_62 : Cond.fieldLink "WornWigs" 203 "WornWigs$Wigs" "lent" "[I" ∈ wg_T := wg_T_of (wg_t1 (List.mem_of_getElem? (i := 62) rfl)) rfl
theorem wq_5_40 : Cond.methodLink "WornWigs" 206 yX2_wearer ∈ wg_T := wg_T_of (wg_t5 (List.mem_of_getElem? (i := 40) rfl)) rfl
theorem wq_5_41 : Cond.methodLink "WornWigs" 210 yX1_mothOf ∈ wg_T := wg_T_of (wg_t5 (List.mem_of_getElem? (i := 41) rfl)) rfl
theorem wq_5_51 : Cond.methodLink "WornWigs" 225 yX1_countsOf ∈ wg_T := wg_T_of (wg_t5 (List.mem_of_getElem? (i := 51) rfl)) rfl
theorem wq_5_49 : Cond.code yX9_hasRule prog_11_method_4_code 3 (Option.some Jvm.ClassFile.FieldType.boolean) ∈ wg_T := wg_T_of (wg_t5 (List.mem_of_getElem? (i := 49) rfl)) rfl
theorem wq_5_46 : Cond.methodLink "WornWigs" 213 yX9_hasRule ∈ wg_T := wg_T_of (wg_t5 (List.mem_of_getElem? (i := 46) rfl)) rfl
theorem wq_5_47 : Cond.instanceMethod yX9_hasRule ∈ wg_T := wg_T_of (wg_t5 (List.mem_of_getElem? (i := 47) rfl)) rfl
theorem wq_5_48 : Cond.selects "WornWigs$Wigs" yX9_hasRule yX9_hasRule ∈ wg_T := wg_T_of (wg_t5 (List.mem_of_getElem? (i := 48) rfl)) rfl
theorem wq_1_69 : Cond.fieldLink "WornWigs" 216 "WornWigs$Wigs" "cause" "[I" ∈ wg_T := wg_T_of (wg_t1 (List.mem_of_getElem? (i := 69) rfl)) rfl
theorem wq_1_72 : Cond.fieldLink "WornWigs" 219 "WornWigs$Wigs" "ruling" "[I" ∈ wg_T := wg_T_of (wg_t1 (List.mem_of_getElem? (i := 72) rfl)) rfl
theorem wq_1_75 : Cond.fieldLink "WornWigs" 222 "WornWigs$Wigs" "weight" "[I" ∈ wg_T := wg_T_of (wg_t1 (List.mem_of_getElem? (i := 75) rfl)) rfl
theorem wq_1_116 : Cond.fieldLink "WornWigs" 229 "WornWigs$Judges" "worn" "[I" ∈ wg_T := wg_T_of (wg_t1 (List.mem_of_getElem? (i := 116) rfl)) rfl
theorem wq_1_118 : Cond.fieldLink "WornWigs" 232 "WornWigs$Judges" "dead" "[I" ∈ wg_T := wg_T_of (wg_t1 (List.mem_of_getElem? (i := 118) rfl)) rfl
theorem wq_1_122 : Cond.fieldLink "WornWigs" 235 "WornWigs$Judges" "tried" "[I" ∈ wg_T := wg_T_of (wg_t1 (List.mem_of_getElem? (i := 122) rfl)) rfl
theorem wq_5_56 : Cond.methodLink "WornWigs" 238 yX1_diesOf ∈ wg_T := wg_T_of (wg_t5 (List.mem_of_getElem? (i := 56) rfl)) rfl
theorem wq_1_153 : Cond.fieldLink "WornWigs" 242 "WornWigs$Bench" "cause" "[I" ∈ wg_T := wg_T_of (wg_t1 (List.mem_of_getElem? (i := 153) rfl)) rfl
theorem wq_1_162 : Cond.fieldLink "WornWigs" 243 "WornWigs$Bench" "by" "[I" ∈ wg_T := wg_T_of (wg_t1 (List.mem_of_getElem? (i := 162) rfl)) rfl
theorem wq_5_61 : Cond.constant "WornWigs" 241 (-100000) ∈ wg_T := wg_T_of (wg_t5 (List.mem_of_getElem? (i := 61) rfl)) rfl
theorem wq_1_173 : Cond.fieldLink "WornWigs" 246 "WornWigs$Bench" "bookLines" "I" ∈ wg_T := wg_T_of (wg_t1 (List.mem_of_getElem? (i := 173) rfl)) rfl
theorem wq_2_93 : Cond.fieldLink "WornWigs" 249 "WornWigs$World" "pages" "LWornWigs$Lines;" ∈ wg_T := wg_T_of (wg_t2 (List.mem_of_getElem? (i := 93) rfl)) rfl
theorem wq_1_206 : Cond.fieldLink "WornWigs" 252 "WornWigs$Lines" "year" "[I" ∈ wg_T := wg_T_of (wg_t1 (List.mem_of_getElem? (i := 206) rfl)) rfl
theorem wq_1_209 : Cond.fieldLink "WornWigs" 254 "WornWigs$Lines" "what" "[I" ∈ wg_T := wg_T_of (wg_t1 (List.mem_of_getElem? (i := 209) rfl)) rfl
theorem wq_1_213 : Cond.fieldLink "WornWigs" 257 "WornWigs$Lines" "first" "[I" ∈ wg_T := wg_T_of (wg_t1 (List.mem_of_getElem? (i := 213) rfl)) rfl
theorem wq_1_217 : Cond.fieldLink "WornWigs" 260 "WornWigs$Lines" "second" "[I" ∈ wg_T := wg_T_of (wg_t1 (List.mem_of_getElem? (i := 217) rfl)) rfl
theorem wq_5_78 : Cond.code yX0_sumUp prog_2_method_6_code 2 (Option.some Jvm.ClassFile.FieldType.int) ∈ wg_T := wg_T_of (wg_t5 (List.mem_of_getElem? (i := 78) rfl)) rfl
theorem wq_5_75 : Cond.methodLink "WornWigs" 266 yX0_sumUp ∈ wg_T := wg_T_of (wg_t5 (List.mem_of_getElem? (i := 75) rfl)) rfl
theorem wq_5_76 : Cond.instanceMethod yX0_sumUp ∈ wg_T := wg_T_of (wg_t5 (List.mem_of_getElem? (i := 76) rfl)) rfl
theorem wq_5_77 : Cond.selects "WornWigs$Bench" yX0_sumUp yX0_sumUp ∈ wg_T := wg_T_of (wg_t5 (List.mem_of_getElem? (i := 77) rfl)) rfl
theorem wq_5_99 : Cond.code yX1_endThought prog_3_method_3_code 1 (Option.none : Option Jvm.ClassFile.FieldType) ∈ wg_T := wg_T_of (wg_t5 (List.mem_of_getElem? (i := 99) rfl)) rfl
theorem wq_5_96 : Cond.methodLink "WornWigs" 269 yX1_endThought ∈ wg_T := wg_T_of (wg_t5 (List.mem_of_getElem? (i := 96) rfl)) rfl
theorem wq_5_97 : Cond.instanceMethod yX1_endThought ∈ wg_T := wg_T_of (wg_t5 (List.mem_of_getElem? (i := 97) rfl)) rfl
theorem wq_5_98 : Cond.selects "WornWigs$Court" yX1_endThought yX1_endThought ∈ wg_T := wg_T_of (wg_t5 (List.mem_of_getElem? (i := 98) rfl)) rfl
theorem wq_5_73 : Cond.code yX1_beginThought prog_3_method_2_code 1 (Option.none : Option Jvm.ClassFile.FieldType) ∈ wg_T := wg_T_of (wg_t5 (List.mem_of_getElem? (i := 73) rfl)) rfl
theorem wq_5_70 : Cond.methodLink "WornWigs" 263 yX1_beginThought ∈ wg_T := wg_T_of (wg_t5 (List.mem_of_getElem? (i := 70) rfl)) rfl
theorem wq_5_71 : Cond.instanceMethod yX1_beginThought ∈ wg_T := wg_T_of (wg_t5 (List.mem_of_getElem? (i := 71) rfl)) rfl
theorem wq_5_72 : Cond.selects "WornWigs$Court" yX1_beginThought yX1_beginThought ∈ wg_T := wg_T_of (wg_t5 (List.mem_of_getElem? (i := 72) rfl)) rfl
theorem wq_5_104 : Cond.methodLink "WornWigs" 272 yX2_lives ∈ wg_T := wg_T_of (wg_t5 (List.mem_of_getElem? (i := 104) rfl)) rfl
theorem wq_5_105 : Cond.methodLink "WornWigs" 275 yX1_verdictOf ∈ wg_T := wg_T_of (wg_t5 (List.mem_of_getElem? (i := 105) rfl)) rfl
theorem wq_5_113 : Cond.code yX7_forumOf prog_9_method_2_code 8 (Option.some Jvm.ClassFile.FieldType.int) ∈ wg_T := wg_T_of (wg_t5 (List.mem_of_getElem? (i := 113) rfl)) rfl
theorem wq_5_110 : Cond.methodLink "WornWigs" 278 yX7_forumOf ∈ wg_T := wg_T_of (wg_t5 (List.mem_of_getElem? (i := 110) rfl)) rfl
theorem wq_5_111 : Cond.instanceMethod yX7_forumOf ∈ wg_T := wg_T_of (wg_t5 (List.mem_of_getElem? (i := 111) rfl)) rfl
theorem wq_5_112 : Cond.selects "WornWigs$Thought" yX7_forumOf yX7_forumOf ∈ wg_T := wg_T_of (wg_t5 (List.mem_of_getElem? (i := 112) rfl)) rfl
theorem wq_3_19 : Cond.fieldLink "WornWigs" 47 "WornWigs" "thought" "LWornWigs$Thought;" ∈ wg_T := wg_T_of (wg_t3 (List.mem_of_getElem? (i := 19) rfl)) rfl
theorem wq_5_123 : Cond.code yX9_toComb prog_11_method_15_code 8 (Option.some Jvm.ClassFile.FieldType.int) ∈ wg_T := wg_T_of (wg_t5 (List.mem_of_getElem? (i := 123) rfl)) rfl
theorem wq_5_120 : Cond.methodLink "WornWigs" 282 yX9_toComb ∈ wg_T := wg_T_of (wg_t5 (List.mem_of_getElem? (i := 120) rfl)) rfl
theorem wq_5_121 : Cond.instanceMethod yX9_toComb ∈ wg_T := wg_T_of (wg_t5 (List.mem_of_getElem? (i := 121) rfl)) rfl
theorem wq_5_122 : Cond.selects "WornWigs$Wigs" yX9_toComb yX9_toComb ∈ wg_T := wg_T_of (wg_t5 (List.mem_of_getElem? (i := 122) rfl)) rfl
theorem wq_5_124 : Cond.methodLink "WornWigs" 285 yJ6_bitCount_0f7a4 ∈ wg_T := wg_T_of (wg_t5 (List.mem_of_getElem? (i := 124) rfl)) rfl
theorem wq_5_144 : Cond.methodLink "WornWigs" 293 yX9_apart ∈ wg_T := wg_T_of (wg_t5 (List.mem_of_getElem? (i := 144) rfl)) rfl
theorem wq_5_132 : Cond.code yX9_nearest prog_11_method_18_code 6 (Option.some Jvm.ClassFile.FieldType.int) ∈ wg_T := wg_T_of (wg_t5 (List.mem_of_getElem? (i := 132) rfl)) rfl
theorem wq_5_129 : Cond.methodLink "WornWigs" 290 yX9_nearest ∈ wg_T := wg_T_of (wg_t5 (List.mem_of_getElem? (i := 129) rfl)) rfl
theorem wq_5_130 : Cond.instanceMethod yX9_nearest ∈ wg_T := wg_T_of (wg_t5 (List.mem_of_getElem? (i := 130) rfl)) rfl
theorem wq_5_131 : Cond.selects "WornWigs$Wigs" yX9_nearest yX9_nearest ∈ wg_T := wg_T_of (wg_t5 (List.mem_of_getElem? (i := 131) rfl)) rfl
theorem wq_5_152 : Cond.code yX7_heirOf prog_9_method_6_code 7 (Option.some Jvm.ClassFile.FieldType.int) ∈ wg_T := wg_T_of (wg_t5 (List.mem_of_getElem? (i := 152) rfl)) rfl
theorem wq_5_149 : Cond.methodLink "WornWigs" 296 yX7_heirOf ∈ wg_T := wg_T_of (wg_t5 (List.mem_of_getElem? (i := 149) rfl)) rfl
theorem wq_5_150 : Cond.instanceMethod yX7_heirOf ∈ wg_T := wg_T_of (wg_t5 (List.mem_of_getElem? (i := 150) rfl)) rfl
theorem wq_5_151 : Cond.selects "WornWigs$Thought" yX7_heirOf yX7_heirOf ∈ wg_T := wg_T_of (wg_t5 (List.mem_of_getElem? (i := 151) rfl)) rfl
theorem wq_5_170 : Cond.code yX7_commonOf prog_9_method_10_code 6 (Option.some Jvm.ClassFile.FieldType.int) ∈ wg_T := wg_T_of (wg_t5 (List.mem_of_getElem? (i := 170) rfl)) rfl
theorem wq_5_167 : Cond.methodLink "WornWigs" 302 yX7_commonOf ∈ wg_T := wg_T_of (wg_t5 (List.mem_of_getElem? (i := 167) rfl)) rfl
theorem wq_5_168 : Cond.instanceMethod yX7_commonOf ∈ wg_T := wg_T_of (wg_t5 (List.mem_of_getElem? (i := 168) rfl)) rfl
theorem wq_5_169 : Cond.selects "WornWigs$Thought" yX7_commonOf yX7_commonOf ∈ wg_T := wg_T_of (wg_t5 (List.mem_of_getElem? (i := 169) rfl)) rfl
theorem wq_5_162 : Cond.code yX7_rootOf prog_9_method_8_code 6 (Option.some Jvm.ClassFile.FieldType.int) ∈ wg_T := wg_T_of (wg_t5 (List.mem_of_getElem? (i := 162) rfl)) rfl
theorem wq_5_159 : Cond.methodLink "WornWigs" 299 yX7_rootOf ∈ wg_T := wg_T_of (wg_t5 (List.mem_of_getElem? (i := 159) rfl)) rfl
theorem wq_5_160 : Cond.instanceMethod yX7_rootOf ∈ wg_T := wg_T_of (wg_t5 (List.mem_of_getElem? (i := 160) rfl)) rfl
theorem wq_5_161 : Cond.selects "WornWigs$Thought" yX7_rootOf yX7_rootOf ∈ wg_T := wg_T_of (wg_t5 (List.mem_of_getElem? (i := 161) rfl)) rfl
theorem wq_5_182 : Cond.code yX9_toSave prog_11_method_21_code 5 (Option.some Jvm.ClassFile.FieldType.int) ∈ wg_T := wg_T_of (wg_t5 (List.mem_of_getElem? (i := 182) rfl)) rfl
theorem wq_5_179 : Cond.methodLink "WornWigs" 305 yX9_toSave ∈ wg_T := wg_T_of (wg_t5 (List.mem_of_getElem? (i := 179) rfl)) rfl
theorem wq_5_180 : Cond.instanceMethod yX9_toSave ∈ wg_T := wg_T_of (wg_t5 (List.mem_of_getElem? (i := 180) rfl)) rfl
theorem wq_5_181 : Cond.selects "WornWigs$Wigs" yX9_toSave yX9_toSave ∈ wg_T := wg_T_of (wg_t5 (List.mem_of_getElem? (i := 181) rfl)) rfl
theorem wq_5_188 : Cond.methodLink "WornWigs" 308 yX9_worthOf ∈ wg_T := wg_T_of (wg_t5 (List.mem_of_getElem? (i := 188) rfl)) rfl
theorem wq_5_204 : Cond.code yX7_turnsOf prog_9_method_5_code 3 (Option.some Jvm.ClassFile.FieldType.int) ∈ wg_T := wg_T_of (wg_t5 (List.mem_of_getElem? (i := 204) rfl)) rfl
theorem wq_5_201 : Cond.methodLink "WornWigs" 314 yX7_turnsOf ∈ wg_T := wg_T_of (wg_t5 (List.mem_of_getElem? (i := 201) rfl)) rfl
theorem wq_5_202 : Cond.instanceMethod yX7_turnsOf ∈ wg_T := wg_T_of (wg_t5 (List.mem_of_getElem? (i := 202) rfl)) rfl
theorem wq_5_203 : Cond.selects "WornWigs$Thought" yX7_turnsOf yX7_turnsOf ∈ wg_T := wg_T_of (wg_t5 (List.mem_of_getElem? (i := 203) rfl)) rfl
theorem wq_5_196 : Cond.code yX7_panelsFor prog_9_method_4_code 4 (Option.some Jvm.ClassFile.FieldType.int) ∈ wg_T := wg_T_of (wg_t5 (List.mem_of_getElem? (i := 196) rfl)) rfl
theorem wq_5_193 : Cond.methodLink "WornWigs" 311 yX7_panelsFor ∈ wg_T := wg_T_of (wg_t5 (List.mem_of_getElem? (i := 193) rfl)) rfl
theorem wq_5_194 : Cond.instanceMethod yX7_panelsFor ∈ wg_T := wg_T_of (wg_t5 (List.mem_of_getElem? (i := 194) rfl)) rfl
theorem wq_5_195 : Cond.selects "WornWigs$Thought" yX7_panelsFor yX7_panelsFor ∈ wg_T := wg_T_of (wg_t5 (List.mem_of_getElem? (i := 195) rfl)) rfl
theorem wq_5_212 : Cond.code yX8_addTrait prog_10_method_3_code 5 (Option.some Jvm.ClassFile.FieldType.int) ∈ wg_T := wg_T_of (wg_t5 (List.mem_of_getElem? (i := 212) rfl)) rfl
theorem wq_5_209 : Cond.methodLink "WornWigs" 326 yX8_addTrait ∈ wg_T := wg_T_of (wg_t5 (List.mem_of_getElem? (i := 209) rfl)) rfl
theorem wq_5_210 : Cond.instanceMethod yX8_addTrait ∈ wg_T := wg_T_of (wg_t5 (List.mem_of_getElem? (i := 210) rfl)) rfl
theorem wq_5_211 : Cond.selects "WornWigs$Told" yX8_addTrait yX8_addTrait ∈ wg_T := wg_T_of (wg_t5 (List.mem_of_getElem? (i := 211) rfl)) rfl
theorem wq_2_112 : Cond.fieldLink "WornWigs" 317 "WornWigs$World" "told" "LWornWigs$Told;" ∈ wg_T := wg_T_of (wg_t2 (List.mem_of_getElem? (i := 112) rfl)) rfl
theorem wq_2_49 : Cond.fieldLink "WornWigs" 321 "WornWigs$Told" "traits" "I" ∈ wg_T := wg_T_of (wg_t2 (List.mem_of_getElem? (i := 49) rfl)) rfl
theorem wq_5_218 : Cond.methodLink "WornWigs" 329 yX7_whoseSet ∈ wg_T := wg_T_of (wg_t5 (List.mem_of_getElem? (i := 218) rfl)) rfl
theorem wq_5_234 : Cond.code yX7_causeToLookAt prog_9_method_14_code 8 (Option.some Jvm.ClassFile.FieldType.int) ∈ wg_T := wg_T_of (wg_t5 (List.mem_of_getElem? (i := 234) rfl)) rfl
theorem wq_5_231 : Cond.methodLink "WornWigs" 332 yX7_causeToLookAt ∈ wg_T := wg_T_of (wg_t5 (List.mem_of_getElem? (i := 231) rfl)) rfl
theorem wq_5_232 : Cond.instanceMethod yX7_causeToLookAt ∈ wg_T := wg_T_of (wg_t5 (List.mem_of_getElem? (i := 232) rfl)) rfl
theorem wq_5_233 : Cond.selects "WornWigs$Thought" yX7_causeToLookAt yX7_causeToLookAt ∈ wg_T := wg_T_of (wg_t5 (List.mem_of_getElem? (i := 233) rfl)) rfl
theorem wq_6_9 : Cond.code yX8_addCite prog_10_method_4_code 4 (Option.some Jvm.ClassFile.FieldType.int) ∈ wg_T := wg_T_of (wg_t6 (List.mem_of_getElem? (i := 9) rfl)) rfl
theorem wq_6_6 : Cond.methodLink "WornWigs" 338 yX8_addCite ∈ wg_T := wg_T_of (wg_t6 (List.mem_of_getElem? (i := 6) rfl)) rfl
theorem wq_6_7 : Cond.instanceMethod yX8_addCite ∈ wg_T := wg_T_of (wg_t6 (List.mem_of_getElem? (i := 7) rfl)) rfl
theorem wq_6_8 : Cond.selects "WornWigs$Told" yX8_addCite yX8_addCite ∈ wg_T := wg_T_of (wg_t6 (List.mem_of_getElem? (i := 8) rfl)) rfl
theorem wq_2_53 : Cond.fieldLink "WornWigs" 335 "WornWigs$Told" "cites" "I" ∈ wg_T := wg_T_of (wg_t2 (List.mem_of_getElem? (i := 53) rfl)) rfl
theorem wq_6_17 : Cond.code yX8_longestRow prog_10_method_6_code 4 (Option.some Jvm.ClassFile.FieldType.int) ∈ wg_T := wg_T_of (wg_t6 (List.mem_of_getElem? (i := 17) rfl)) rfl
theorem wq_6_14 : Cond.methodLink "WornWigs" 341 yX8_longestRow ∈ wg_T := wg_T_of (wg_t6 (List.mem_of_getElem? (i := 14) rfl)) rfl
theorem wq_6_15 : Cond.instanceMethod yX8_longestRow ∈ wg_T := wg_T_of (wg_t6 (List.mem_of_getElem? (i := 15) rfl)) rfl
theorem wq_6_16 : Cond.selects "WornWigs$Told" yX8_longestRow yX8_longestRow ∈ wg_T := wg_T_of (wg_t6 (List.mem_of_getElem? (i := 16) rfl)) rfl
theorem wq_2_55 : Cond.fieldLink "WornWigs" 345 "WornWigs$Told" "worth" "[I" ∈ wg_T := wg_T_of (wg_t2 (List.mem_of_getElem? (i := 55) rfl)) rfl
theorem wq_6_31 : Cond.methodLink "WornWigs" 348 yX8_cutPlace ∈ wg_T := wg_T_of (wg_t6 (List.mem_of_getElem? (i := 31) rfl)) rfl
theorem wq_6_43 : Cond.code yX8_otherHas prog_10_method_10_code 2 (Option.some Jvm.ClassFile.FieldType.int) ∈ wg_T := wg_T_of (wg_t6 (List.mem_of_getElem? (i := 43) rfl)) rfl
theorem wq_6_40 : Cond.methodLink "WornWigs" 351 yX8_otherHas ∈ wg_T := wg_T_of (wg_t6 (List.mem_of_getElem? (i := 40) rfl)) rfl
theorem wq_6_41 : Cond.instanceMethod yX8_otherHas ∈ wg_T := wg_T_of (wg_t6 (List.mem_of_getElem? (i := 41) rfl)) rfl
theorem wq_6_42 : Cond.selects "WornWigs$Told" yX8_otherHas yX8_otherHas ∈ wg_T := wg_T_of (wg_t6 (List.mem_of_getElem? (i := 42) rfl)) rfl
theorem wq_6_49 : Cond.code yX8_oneHas prog_10_method_11_code 3 (Option.some Jvm.ClassFile.FieldType.int) ∈ wg_T := wg_T_of (wg_t6 (List.mem_of_getElem? (i := 49) rfl)) rfl
theorem wq_6_46 : Cond.methodLink "WornWigs" 354 yX8_oneHas ∈ wg_T := wg_T_of (wg_t6 (List.mem_of_getElem? (i := 46) rfl)) rfl
theorem wq_6_47 : Cond.instanceMethod yX8_oneHas ∈ wg_T := wg_T_of (wg_t6 (List.mem_of_getElem? (i := 47) rfl)) rfl
theorem wq_6_48 : Cond.selects "WornWigs$Told" yX8_oneHas yX8_oneHas ∈ wg_T := wg_T_of (wg_t6 (List.mem_of_getElem? (i := 48) rfl)) rfl
theorem wq_6_57 : Cond.code yX8_addHard prog_10_method_5_code 3 (Option.some Jvm.ClassFile.FieldType.int) ∈ wg_T := wg_T_of (wg_t6 (List.mem_of_getElem? (i := 57) rfl)) rfl
theorem wq_6_54 : Cond.methodLink "WornWigs" 360 yX8_addHard ∈ wg_T := wg_T_of (wg_t6 (List.mem_of_getElem? (i := 54) rfl)) rfl
theorem wq_6_55 : Cond.instanceMethod yX8_addHard ∈ wg_T := wg_T_of (wg_t6 (List.mem_of_getElem? (i := 55) rfl)) rfl
theorem wq_6_56 : Cond.selects "WornWigs$Told" yX8_addHard yX8_addHard ∈ wg_T := wg_T_of (wg_t6 (List.mem_of_getElem? (i := 56) rfl)) rfl
theorem wq_2_59 : Cond.fieldLink "WornWigs" 357 "WornWigs$Told" "hards" "I" ∈ wg_T := wg_T_of (wg_t2 (List.mem_of_getElem? (i := 59) rfl)) rfl
theorem wq_6_73 : Cond.code yX8_heardAt prog_10_method_14_code 7 (Option.some Jvm.ClassFile.FieldType.int) ∈ wg_T := wg_T_of (wg_t6 (List.mem_of_getElem? (i := 73) rfl)) rfl
theorem wq_6_70 : Cond.methodLink "WornWigs" 366 yX8_heardAt ∈ wg_T := wg_T_of (wg_t6 (List.mem_of_getElem? (i := 70) rfl)) rfl
theorem wq_6_71 : Cond.instanceMethod yX8_heardAt ∈ wg_T := wg_T_of (wg_t6 (List.mem_of_getElem? (i := 71) rfl)) rfl
theorem wq_6_72 : Cond.selects "WornWigs$Told" yX8_heardAt yX8_heardAt ∈ wg_T := wg_T_of (wg_t6 (List.mem_of_getElem? (i := 72) rfl)) rfl
theorem wq_6_62 : Cond.methodLink "WornWigs" 363 yX8_lateness ∈ wg_T := wg_T_of (wg_t6 (List.mem_of_getElem? (i := 62) rfl)) rfl
theorem wq_6_86 : Cond.code yX9_wellPulled prog_11_method_22_code 5 (Option.some Jvm.ClassFile.FieldType.int) ∈ wg_T := wg_T_of (wg_t6 (List.mem_of_getElem? (i := 86) rfl)) rfl
theorem wq_6_83 : Cond.methodLink "WornWigs" 369 yX9_wellPulled ∈ wg_T := wg_T_of (wg_t6 (List.mem_of_getElem? (i := 83) rfl)) rfl
theorem wq_6_84 : Cond.instanceMethod yX9_wellPulled ∈ wg_T := wg_T_of (wg_t6 (List.mem_of_getElem? (i := 84) rfl)) rfl
theorem wq_6_85 : Cond.selects "WornWigs$Wigs" yX9_wellPulled yX9_wellPulled ∈ wg_T := wg_T_of (wg_t6 (List.mem_of_getElem? (i := 85) rfl)) rfl
theorem wq_6_94 : Cond.code yX5_goBack prog_7_method_3_code 2 (Option.some Jvm.ClassFile.FieldType.boolean) ∈ wg_T := wg_T_of (wg_t6 (List.mem_of_getElem? (i := 94) rfl)) rfl
theorem wq_6_91 : Cond.methodLink "WornWigs" 372 yX5_goBack ∈ wg_T := wg_T_of (wg_t6 (List.mem_of_getElem? (i := 91) rfl)) rfl
theorem wq_6_92 : Cond.instanceMethod yX5_goBack ∈ wg_T := wg_T_of (wg_t6 (List.mem_of_getElem? (i := 92) rfl)) rfl
theorem wq_6_93 : Cond.selects "WornWigs$Past" yX5_goBack yX5_goBack ∈ wg_T := wg_T_of (wg_t6 (List.mem_of_getElem? (i := 93) rfl)) rfl
theorem wq_3_20 : Cond.fieldLink "WornWigs" 379 "WornWigs" "hasImage" "Z" ∈ wg_T := wg_T_of (wg_t3 (List.mem_of_getElem? (i := 20) rfl)) rfl
theorem wq_3_15 : Cond.fieldLink "WornWigs" 16 "WornWigs" "asTaken" "LWornWigs$World;" ∈ wg_T := wg_T_of (wg_t3 (List.mem_of_getElem? (i := 15) rfl)) rfl
theorem wq_1_2 : Cond.initialized "WornWigs$World" ∈ wg_T := wg_T_of (wg_t1 (List.mem_of_getElem? (i := 2) rfl)) rfl
theorem wq_6_102 : Cond.code yX10_copyFrom prog_12_method_2_code 2 (Option.none : Option Jvm.ClassFile.FieldType) ∈ wg_T := wg_T_of (wg_t6 (List.mem_of_getElem? (i := 102) rfl)) rfl
theorem wq_6_99 : Cond.methodLink "WornWigs" 376 yX10_copyFrom ∈ wg_T := wg_T_of (wg_t6 (List.mem_of_getElem? (i := 99) rfl)) rfl
theorem wq_6_100 : Cond.instanceMethod yX10_copyFrom ∈ wg_T := wg_T_of (wg_t6 (List.mem_of_getElem? (i := 100) rfl)) rfl
theorem wq_6_101 : Cond.selects "WornWigs$World" yX10_copyFrom yX10_copyFrom ∈ wg_T := wg_T_of (wg_t6 (List.mem_of_getElem? (i := 101) rfl)) rfl
theorem wq_6_115 : Cond.methodLink "WornWigs" 383 yX2_deadSet ∈ wg_T := wg_T_of (wg_t6 (List.mem_of_getElem? (i := 115) rfl)) rfl
theorem wq_6_119 : Cond.code yX0_openSet prog_2_method_5_code 3 (Option.some Jvm.ClassFile.FieldType.int) ∈ wg_T := wg_T_of (wg_t6 (List.mem_of_getElem? (i := 119) rfl)) rfl
theorem wq_6_116 : Cond.methodLink "WornWigs" 386 yX0_openSet ∈ wg_T := wg_T_of (wg_t6 (List.mem_of_getElem? (i := 116) rfl)) rfl
theorem wq_6_117 : Cond.instanceMethod yX0_openSet ∈ wg_T := wg_T_of (wg_t6 (List.mem_of_getElem? (i := 117) rfl)) rfl
theorem wq_6_118 : Cond.selects "WornWigs$Bench" yX0_openSet yX0_openSet ∈ wg_T := wg_T_of (wg_t6 (List.mem_of_getElem? (i := 118) rfl)) rfl
theorem wq_2_96 : Cond.fieldLink "WornWigs" 173 "WornWigs$World" "law" "LWornWigs$Law;" ∈ wg_T := wg_T_of (wg_t2 (List.mem_of_getElem? (i := 96) rfl)) rfl
theorem wq_2_11 : Cond.fieldLink "WornWigs" 177 "WornWigs$Law" "lines" "I" ∈ wg_T := wg_T_of (wg_t2 (List.mem_of_getElem? (i := 11) rfl)) rfl
theorem wq_2_101 : Cond.fieldLink "WornWigs" 389 "WornWigs$World" "docket" "LWornWigs$Lines;" ∈ wg_T := wg_T_of (wg_t2 (List.mem_of_getElem? (i := 101) rfl)) rfl
theorem wq_1_221 : Cond.fieldLink "WornWigs" 188 "WornWigs$Lines" "count" "I" ∈ wg_T := wg_T_of (wg_t1 (List.mem_of_getElem? (i := 221) rfl)) rfl
theorem wq_2_105 : Cond.fieldLink "WornWigs" 392 "WornWigs$World" "loans" "LWornWigs$Lines;" ∈ wg_T := wg_T_of (wg_t2 (List.mem_of_getElem? (i := 105) rfl)) rfl
theorem wq_2_109 : Cond.fieldLink "WornWigs" 395 "WornWigs$World" "descent" "LWornWigs$Lines;" ∈ wg_T := wg_T_of (wg_t2 (List.mem_of_getElem? (i := 109) rfl)) rfl
theorem wq_2_140 : Cond.fieldLink "WornWigs" 398 "WornWigs$Past" "count" "I" ∈ wg_T := wg_T_of (wg_t2 (List.mem_of_getElem? (i := 140) rfl)) rfl
theorem wq_6_129 : Cond.fieldLink "WornWigsModel" 116 "WornWigsModel" "undoable" "I" ∈ wg_T := wg_T_of (wg_t6 (List.mem_of_getElem? (i := 129) rfl)) rfl
theorem wq_6_128 : Cond.fieldLink "WornWigsModel" 13 "WornWigsModel" "rows" "[I" ∈ wg_T := wg_T_of (wg_t6 (List.mem_of_getElem? (i := 128) rfl)) rfl
theorem wq_6_127 : Cond.fieldLink "WornWigsModel" 7 "WornWigsModel" "now" "[I" ∈ wg_T := wg_T_of (wg_t6 (List.mem_of_getElem? (i := 127) rfl)) rfl
theorem wq_6_126 : Cond.fieldLink "WornWigsModel" 113 "WornWigsModel" "told" "I" ∈ wg_T := wg_T_of (wg_t6 (List.mem_of_getElem? (i := 126) rfl)) rfl
theorem wq_6_131 : Cond.fieldLink "WornWigsModel" 119 "WornWigsModel" "isThought" "Z" ∈ wg_T := wg_T_of (wg_t6 (List.mem_of_getElem? (i := 131) rfl)) rfl
theorem wq_6_130 : Cond.fieldLink "WornWigsModel" 16 "WornWigsModel" "waiting" "[I" ∈ wg_T := wg_T_of (wg_t6 (List.mem_of_getElem? (i := 130) rfl)) rfl
theorem wq_8_186 : Cond.constant "WornWigsModel" 123 (1664525) ∈ wg_T := wg_T_of (wg_t8 (List.mem_of_getElem? (i := 186) rfl)) rfl
theorem wq_8_187 : Cond.constant "WornWigsModel" 124 (1013904223) ∈ wg_T := wg_T_of (wg_t8 (List.mem_of_getElem? (i := 187) rfl)) rfl
theorem wq_6_132 : Cond.fieldLink "WornWigsModel" 125 "WornWigsModel" "wigs" "I" ∈ wg_T := wg_T_of (wg_t6 (List.mem_of_getElem? (i := 132) rfl)) rfl
theorem wq_6_133 : Cond.fieldLink "WornWigsModel" 128 "WornWigsModel" "judges" "I" ∈ wg_T := wg_T_of (wg_t6 (List.mem_of_getElem? (i := 133) rfl)) rfl
theorem wq_6_134 : Cond.fieldLink "WornWigsModel" 131 "WornWigsModel" "trials" "I" ∈ wg_T := wg_T_of (wg_t6 (List.mem_of_getElem? (i := 134) rfl)) rfl
theorem wq_8_81 : Cond.code yX12_wigOf prog_14_method_19_code 2 (Option.some Jvm.ClassFile.FieldType.int) ∈ wg_T := wg_T_of (wg_t8 (List.mem_of_getElem? (i := 81) rfl)) rfl
theorem wq_8_78 : Cond.methodLink "WornWigsModel" 134 yX12_wigOf ∈ wg_T := wg_T_of (wg_t8 (List.mem_of_getElem? (i := 78) rfl)) rfl
theorem wq_8_80 : Cond.instanceMethod yX12_wigOf ∈ wg_T := wg_T_of (wg_t8 (List.mem_of_getElem? (i := 80) rfl)) rfl
theorem wq_p7_5 : Cond.selects "WornWigsModel" yX12_wigOf yX12_wigOf ∈ wg_T := wg_T_of (wg_sel (q := (⟨"WornWigsModel", "wigOf", "(I)I"⟩, _)) (List.mem_append_right _ (List.mem_append_right _ (List.mem_append_right _ (List.mem_append_right _ (List.mem_append_right _ (List.mem_append_right _ (List.mem_append_left _ (List.mem_of_getElem? (i := 5) rfl))))))))) rfl
theorem wq_7_109 : Cond.code yX12_ruleAt prog_14_method_22_code 3 (Option.some Jvm.ClassFile.FieldType.int) ∈ wg_T := wg_T_of (wg_t7 (List.mem_of_getElem? (i := 109) rfl)) rfl
theorem wq_7_106 : Cond.methodLink "WornWigsModel" 138 yX12_ruleAt ∈ wg_T := wg_T_of (wg_t7 (List.mem_of_getElem? (i := 106) rfl)) rfl
theorem wq_7_108 : Cond.instanceMethod yX12_ruleAt ∈ wg_T := wg_T_of (wg_t7 (List.mem_of_getElem? (i := 108) rfl)) rfl
theorem wq_p4_6 : Cond.selects "WornWigsModel" yX12_ruleAt yX12_ruleAt ∈ wg_T := wg_T_of (wg_sel (q := (⟨"WornWigsModel", "ruleAt", "(II)I"⟩, _)) (List.mem_append_right _ (List.mem_append_right _ (List.mem_append_right _ (List.mem_append_left _ (List.mem_of_getElem? (i := 6) rfl)))))) rfl
theorem wq_7_117 : Cond.code yX12_isItching prog_14_method_23_code 6 (Option.some Jvm.ClassFile.FieldType.boolean) ∈ wg_T := wg_T_of (wg_t7 (List.mem_of_getElem? (i := 117) rfl)) rfl
theorem wq_7_114 : Cond.methodLink "WornWigsModel" 142 yX12_isItching ∈ wg_T := wg_T_of (wg_t7 (List.mem_of_getElem? (i := 114) rfl)) rfl
theorem wq_7_116 : Cond.instanceMethod yX12_isItching ∈ wg_T := wg_T_of (wg_t7 (List.mem_of_getElem? (i := 116) rfl)) rfl
theorem wq_p4_8 : Cond.selects "WornWigsModel" yX12_isItching yX12_isItching ∈ wg_T := wg_T_of (wg_sel (q := (⟨"WornWigsModel", "isItching", "(III)Z"⟩, _)) (List.mem_append_right _ (List.mem_append_right _ (List.mem_append_right _ (List.mem_append_left _ (List.mem_of_getElem? (i := 8) rfl)))))) rfl
theorem wq_7_121 : Cond.code yX12_lesser prog_14_method_6_code 3 (Option.some Jvm.ClassFile.FieldType.int) ∈ wg_T := wg_T_of (wg_t7 (List.mem_of_getElem? (i := 121) rfl)) rfl
theorem wq_7_118 : Cond.methodLink "WornWigsModel" 146 yX12_lesser ∈ wg_T := wg_T_of (wg_t7 (List.mem_of_getElem? (i := 118) rfl)) rfl
theorem wq_7_120 : Cond.instanceMethod yX12_lesser ∈ wg_T := wg_T_of (wg_t7 (List.mem_of_getElem? (i := 120) rfl)) rfl
theorem wq_p4_9 : Cond.selects "WornWigsModel" yX12_lesser yX12_lesser ∈ wg_T := wg_T_of (wg_sel (q := (⟨"WornWigsModel", "lesser", "(II)I"⟩, _)) (List.mem_append_right _ (List.mem_append_right _ (List.mem_append_right _ (List.mem_append_left _ (List.mem_of_getElem? (i := 9) rfl)))))) rfl
theorem wq_7_113 : Cond.code yX12_itches prog_14_method_24_code 5 (Option.none : Option Jvm.ClassFile.FieldType) ∈ wg_T := wg_T_of (wg_t7 (List.mem_of_getElem? (i := 113) rfl)) rfl
theorem wq_7_110 : Cond.methodLink "WornWigsModel" 149 yX12_itches ∈ wg_T := wg_T_of (wg_t7 (List.mem_of_getElem? (i := 110) rfl)) rfl
theorem wq_7_112 : Cond.instanceMethod yX12_itches ∈ wg_T := wg_T_of (wg_t7 (List.mem_of_getElem? (i := 112) rfl)) rfl
theorem wq_p4_7 : Cond.selects "WornWigsModel" yX12_itches yX12_itches ∈ wg_T := wg_T_of (wg_sel (q := (⟨"WornWigsModel", "itches", "(I)V"⟩, _)) (List.mem_append_right _ (List.mem_append_right _ (List.mem_append_right _ (List.mem_append_left _ (List.mem_of_getElem? (i := 7) rfl)))))) rfl
theorem wq_7_85 : Cond.code yX12_isIn prog_14_method_3_code 4 (Option.some Jvm.ClassFile.FieldType.boolean) ∈ wg_T := wg_T_of (wg_t7 (List.mem_of_getElem? (i := 85) rfl)) rfl
theorem wq_7_82 : Cond.methodLink "WornWigsModel" 153 yX12_isIn ∈ wg_T := wg_T_of (wg_t7 (List.mem_of_getElem? (i := 82) rfl)) rfl
theorem wq_7_84 : Cond.instanceMethod yX12_isIn ∈ wg_T := wg_T_of (wg_t7 (List.mem_of_getElem? (i := 84) rfl)) rfl
theorem wq_p4_3 : Cond.selects "WornWigsModel" yX12_isIn yX12_isIn ∈ wg_T := wg_T_of (wg_sel (q := (⟨"WornWigsModel", "isIn", "(III)Z"⟩, _)) (List.mem_append_right _ (List.mem_append_right _ (List.mem_append_right _ (List.mem_append_left _ (List.mem_of_getElem? (i := 3) rfl)))))) rfl
theorem wq_6_135 : Cond.fieldLink "WornWigsModel" 19 "WornWigsModel" "colour" "[I" ∈ wg_T := wg_T_of (wg_t6 (List.mem_of_getElem? (i := 135) rfl)) rfl
theorem wq_6_136 : Cond.fieldLink "WornWigsModel" 22 "WornWigsModel" "mind" "[I" ∈ wg_T := wg_T_of (wg_t6 (List.mem_of_getElem? (i := 136) rfl)) rfl
theorem wq_6_137 : Cond.fieldLink "WornWigsModel" 25 "WornWigsModel" "cause" "[I" ∈ wg_T := wg_T_of (wg_t6 (List.mem_of_getElem? (i := 137) rfl)) rfl
theorem wq_6_138 : Cond.fieldLink "WornWigsModel" 28 "WornWigsModel" "merit" "[I" ∈ wg_T := wg_T_of (wg_t6 (List.mem_of_getElem? (i := 138) rfl)) rfl
theorem wq_7_101 : Cond.code yX12_isWig prog_14_method_16_code 2 (Option.some Jvm.ClassFile.FieldType.boolean) ∈ wg_T := wg_T_of (wg_t7 (List.mem_of_getElem? (i := 101) rfl)) rfl
theorem wq_7_98 : Cond.methodLink "WornWigsModel" 156 yX12_isWig ∈ wg_T := wg_T_of (wg_t7 (List.mem_of_getElem? (i := 98) rfl)) rfl
theorem wq_7_100 : Cond.instanceMethod yX12_isWig ∈ wg_T := wg_T_of (wg_t7 (List.mem_of_getElem? (i := 100) rfl)) rfl
theorem wq_p4_4 : Cond.selects "WornWigsModel" yX12_isWig yX12_isWig ∈ wg_T := wg_T_of (wg_sel (q := (⟨"WornWigsModel", "isWig", "(I)Z"⟩, _)) (List.mem_append_right _ (List.mem_append_right _ (List.mem_append_right _ (List.mem_append_left _ (List.mem_of_getElem? (i := 4) rfl)))))) rfl
theorem wq_7_105 : Cond.code yX12_comesRule prog_14_method_26_code 6 (Option.none : Option Jvm.ClassFile.FieldType) ∈ wg_T := wg_T_of (wg_t7 (List.mem_of_getElem? (i := 105) rfl)) rfl
theorem wq_7_102 : Cond.methodLink "WornWigsModel" 160 yX12_comesRule ∈ wg_T := wg_T_of (wg_t7 (List.mem_of_getElem? (i := 102) rfl)) rfl
theorem wq_7_104 : Cond.instanceMethod yX12_comesRule ∈ wg_T := wg_T_of (wg_t7 (List.mem_of_getElem? (i := 104) rfl)) rfl
theorem wq_p4_5 : Cond.selects "WornWigsModel" yX12_comesRule yX12_comesRule ∈ wg_T := wg_T_of (wg_sel (q := (⟨"WornWigsModel", "comesRule", "(IIII)V"⟩, _)) (List.mem_append_right _ (List.mem_append_right _ (List.mem_append_right _ (List.mem_append_left _ (List.mem_of_getElem? (i := 5) rfl)))))) rfl
theorem wq_7_137 : Cond.code yX12_isTrial prog_14_method_18_code 2 (Option.some Jvm.ClassFile.FieldType.boolean) ∈ wg_T := wg_T_of (wg_t7 (List.mem_of_getElem? (i := 137) rfl)) rfl
theorem wq_7_134 : Cond.methodLink "WornWigsModel" 167 yX12_isTrial ∈ wg_T := wg_T_of (wg_t7 (List.mem_of_getElem? (i := 134) rfl)) rfl
theorem wq_7_136 : Cond.instanceMethod yX12_isTrial ∈ wg_T := wg_T_of (wg_t7 (List.mem_of_getElem? (i := 136) rfl)) rfl
theorem wq_p4_12 : Cond.selects "WornWigsModel" yX12_isTrial yX12_isTrial ∈ wg_T := wg_T_of (wg_sel (q := (⟨"WornWigsModel", "isTrial", "(I)Z"⟩, _)) (List.mem_append_right _ (List.mem_append_right _ (List.mem_append_right _ (List.mem_append_left _ (List.mem_of_getElem? (i := 12) rfl)))))) rfl
theorem wq_7_133 : Cond.code yX12_isJudge prog_14_method_17_code 2 (Option.some Jvm.ClassFile.FieldType.boolean) ∈ wg_T := wg_T_of (wg_t7 (List.mem_of_getElem? (i := 133) rfl)) rfl
theorem wq_7_130 : Cond.methodLink "WornWigsModel" 164 yX12_isJudge ∈ wg_T := wg_T_of (wg_t7 (List.mem_of_getElem? (i := 130) rfl)) rfl
theorem wq_7_132 : Cond.instanceMethod yX12_isJudge ∈ wg_T := wg_T_of (wg_t7 (List.mem_of_getElem? (i := 132) rfl)) rfl
theorem wq_p4_11 : Cond.selects "WornWigsModel" yX12_isJudge yX12_isJudge ∈ wg_T := wg_T_of (wg_sel (q := (⟨"WornWigsModel", "isJudge", "(I)Z"⟩, _)) (List.mem_append_right _ (List.mem_append_right _ (List.mem_append_right _ (List.mem_append_left _ (List.mem_of_getElem? (i := 11) rfl)))))) rfl
theorem wq_7_129 : Cond.code yX12_canSet prog_14_method_31_code 4 (Option.some Jvm.ClassFile.FieldType.boolean) ∈ wg_T := wg_T_of (wg_t7 (List.mem_of_getElem? (i := 129) rfl)) rfl
theorem wq_7_126 : Cond.methodLink "WornWigsModel" 170 yX12_canSet ∈ wg_T := wg_T_of (wg_t7 (List.mem_of_getElem? (i := 126) rfl)) rfl
theorem wq_7_128 : Cond.instanceMethod yX12_canSet ∈ wg_T := wg_T_of (wg_t7 (List.mem_of_getElem? (i := 128) rfl)) rfl
theorem wq_p4_10 : Cond.selects "WornWigsModel" yX12_canSet yX12_canSet ∈ wg_T := wg_T_of (wg_sel (q := (⟨"WornWigsModel", "canSet", "(III)Z"⟩, _)) (List.mem_append_right _ (List.mem_append_right _ (List.mem_append_right _ (List.mem_append_left _ (List.mem_of_getElem? (i := 10) rfl)))))) rfl
theorem wq_6_140 : Cond.fieldLink "WornWigsModel" 34 "WornWigsModel" "tape" "[I" ∈ wg_T := wg_T_of (wg_t6 (List.mem_of_getElem? (i := 140) rfl)) rfl
theorem wq_6_141 : Cond.fieldLink "WornWigsModel" 173 "WornWigsModel" "taped" "I" ∈ wg_T := wg_T_of (wg_t6 (List.mem_of_getElem? (i := 141) rfl)) rfl
theorem wq_7_145 : Cond.code yX12_types prog_14_method_33_code 3 (Option.none : Option Jvm.ClassFile.FieldType) ∈ wg_T := wg_T_of (wg_t7 (List.mem_of_getElem? (i := 145) rfl)) rfl
theorem wq_7_142 : Cond.methodLink "WornWigsModel" 176 yX12_types ∈ wg_T := wg_T_of (wg_t7 (List.mem_of_getElem? (i := 142) rfl)) rfl
theorem wq_7_144 : Cond.instanceMethod yX12_types ∈ wg_T := wg_T_of (wg_t7 (List.mem_of_getElem? (i := 144) rfl)) rfl
theorem wq_p4_13 : Cond.selects "WornWigsModel" yX12_types yX12_types ∈ wg_T := wg_T_of (wg_sel (q := (⟨"WornWigsModel", "types", "(I)V"⟩, _)) (List.mem_append_right _ (List.mem_append_right _ (List.mem_append_right _ (List.mem_append_left _ (List.mem_of_getElem? (i := 13) rfl)))))) rfl
theorem wq_6_146 : Cond.fieldLink "WornWigsModel" 37 "WornWigsModel" "words" "[I" ∈ wg_T := wg_T_of (wg_t6 (List.mem_of_getElem? (i := 146) rfl)) rfl
theorem wq_6_142 : Cond.fieldLink "WornWigsModel" 179 "WornWigsModel" "spot" "I" ∈ wg_T := wg_T_of (wg_t6 (List.mem_of_getElem? (i := 142) rfl)) rfl
theorem wq_6_145 : Cond.fieldLink "WornWigsModel" 191 "WornWigsModel" "value" "I" ∈ wg_T := wg_T_of (wg_t6 (List.mem_of_getElem? (i := 145) rfl)) rfl
theorem wq_7_165 : Cond.code yX12_raw prog_14_method_36_code 2 (Option.some Jvm.ClassFile.FieldType.int) ∈ wg_T := wg_T_of (wg_t7 (List.mem_of_getElem? (i := 165) rfl)) rfl
theorem wq_7_162 : Cond.methodLink "WornWigsModel" 182 yX12_raw ∈ wg_T := wg_T_of (wg_t7 (List.mem_of_getElem? (i := 162) rfl)) rfl
theorem wq_7_164 : Cond.instanceMethod yX12_raw ∈ wg_T := wg_T_of (wg_t7 (List.mem_of_getElem? (i := 164) rfl)) rfl
theorem wq_p5_0 : Cond.selects "WornWigsModel" yX12_raw yX12_raw ∈ wg_T := wg_T_of (wg_sel (q := (⟨"WornWigsModel", "raw", "(I)I"⟩, _)) (List.mem_append_right _ (List.mem_append_right _ (List.mem_append_right _ (List.mem_append_right _ (List.mem_append_left _ (List.mem_of_getElem? (i := 0) rfl))))))) rfl
theorem wq_7_177 : Cond.code yX12_isDigit prog_14_method_38_code 2 (Option.some Jvm.ClassFile.FieldType.boolean) ∈ wg_T := wg_T_of (wg_t7 (List.mem_of_getElem? (i := 177) rfl)) rfl
theorem wq_7_174 : Cond.methodLink "WornWigsModel" 200 yX12_isDigit ∈ wg_T := wg_T_of (wg_t7 (List.mem_of_getElem? (i := 174) rfl)) rfl
theorem wq_7_176 : Cond.instanceMethod yX12_isDigit ∈ wg_T := wg_T_of (wg_t7 (List.mem_of_getElem? (i := 176) rfl)) rfl
theorem wq_p5_3 : Cond.selects "WornWigsModel" yX12_isDigit yX12_isDigit ∈ wg_T := wg_T_of (wg_sel (q := (⟨"WornWigsModel", "isDigit", "(I)Z"⟩, _)) (List.mem_append_right _ (List.mem_append_right _ (List.mem_append_right _ (List.mem_append_right _ (List.mem_append_left _ (List.mem_of_getElem? (i := 3) rfl))))))) rfl
theorem wq_6_143 : Cond.fieldLink "WornWigsModel" 185 "WornWigsModel" "from" "I" ∈ wg_T := wg_T_of (wg_t6 (List.mem_of_getElem? (i := 143) rfl)) rfl
theorem wq_6_144 : Cond.fieldLink "WornWigsModel" 188 "WornWigsModel" "token" "I" ∈ wg_T := wg_T_of (wg_t6 (List.mem_of_getElem? (i := 144) rfl)) rfl
theorem wq_7_169 : Cond.code yX12_isLetter prog_14_method_37_code 2 (Option.some Jvm.ClassFile.FieldType.boolean) ∈ wg_T := wg_T_of (wg_t7 (List.mem_of_getElem? (i := 169) rfl)) rfl
theorem wq_7_166 : Cond.methodLink "WornWigsModel" 194 yX12_isLetter ∈ wg_T := wg_T_of (wg_t7 (List.mem_of_getElem? (i := 166) rfl)) rfl
theorem wq_7_168 : Cond.instanceMethod yX12_isLetter ∈ wg_T := wg_T_of (wg_t7 (List.mem_of_getElem? (i := 168) rfl)) rfl
theorem wq_p5_1 : Cond.selects "WornWigsModel" yX12_isLetter yX12_isLetter ∈ wg_T := wg_T_of (wg_sel (q := (⟨"WornWigsModel", "isLetter", "(I)Z"⟩, _)) (List.mem_append_right _ (List.mem_append_right _ (List.mem_append_right _ (List.mem_append_right _ (List.mem_append_left _ (List.mem_of_getElem? (i := 1) rfl))))))) rfl
theorem wq_7_173 : Cond.code yX12_wordAt prog_14_method_40_code 6 (Option.some Jvm.ClassFile.FieldType.int) ∈ wg_T := wg_T_of (wg_t7 (List.mem_of_getElem? (i := 173) rfl)) rfl
theorem wq_7_170 : Cond.methodLink "WornWigsModel" 197 yX12_wordAt ∈ wg_T := wg_T_of (wg_t7 (List.mem_of_getElem? (i := 170) rfl)) rfl
theorem wq_7_172 : Cond.instanceMethod yX12_wordAt ∈ wg_T := wg_T_of (wg_t7 (List.mem_of_getElem? (i := 172) rfl)) rfl
theorem wq_p5_2 : Cond.selects "WornWigsModel" yX12_wordAt yX12_wordAt ∈ wg_T := wg_T_of (wg_sel (q := (⟨"WornWigsModel", "wordAt", "(II)I"⟩, _)) (List.mem_append_right _ (List.mem_append_right _ (List.mem_append_right _ (List.mem_append_right _ (List.mem_append_left _ (List.mem_of_getElem? (i := 2) rfl))))))) rfl
theorem wq_7_181 : Cond.code yX12_isMarkSign prog_14_method_39_code 2 (Option.some Jvm.ClassFile.FieldType.boolean) ∈ wg_T := wg_T_of (wg_t7 (List.mem_of_getElem? (i := 181) rfl)) rfl
theorem wq_7_178 : Cond.methodLink "WornWigsModel" 203 yX12_isMarkSign ∈ wg_T := wg_T_of (wg_t7 (List.mem_of_getElem? (i := 178) rfl)) rfl
theorem wq_7_180 : Cond.instanceMethod yX12_isMarkSign ∈ wg_T := wg_T_of (wg_t7 (List.mem_of_getElem? (i := 180) rfl)) rfl
theorem wq_p5_4 : Cond.selects "WornWigsModel" yX12_isMarkSign yX12_isMarkSign ∈ wg_T := wg_T_of (wg_sel (q := (⟨"WornWigsModel", "isMarkSign", "(I)Z"⟩, _)) (List.mem_append_right _ (List.mem_append_right _ (List.mem_append_right _ (List.mem_append_right _ (List.mem_append_left _ (List.mem_of_getElem? (i := 4) rfl))))))) rfl
theorem wq_6_159 : Cond.fieldLink "WornWigsModel" 206 "WornWigsModel" "readFault" "I" ∈ wg_T := wg_T_of (wg_t6 (List.mem_of_getElem? (i := 159) rfl)) rfl
theorem wq_6_160 : Cond.fieldLink "WornWigsModel" 209 "WornWigsModel" "readPlace" "I" ∈ wg_T := wg_T_of (wg_t6 (List.mem_of_getElem? (i := 160) rfl)) rfl
theorem wq_6_152 : Cond.fieldLink "WornWigsModel" 55 "WornWigsModel" "op" "[I" ∈ wg_T := wg_T_of (wg_t6 (List.mem_of_getElem? (i := 152) rfl)) rfl
theorem wq_6_155 : Cond.fieldLink "WornWigsModel" 212 "WornWigsModel" "codes" "I" ∈ wg_T := wg_T_of (wg_t6 (List.mem_of_getElem? (i := 155) rfl)) rfl
theorem wq_6_153 : Cond.fieldLink "WornWigsModel" 58 "WornWigsModel" "arg" "[I" ∈ wg_T := wg_T_of (wg_t6 (List.mem_of_getElem? (i := 153) rfl)) rfl
theorem wq_8_25 : Cond.code yX12_emits prog_14_method_45_code 3 (Option.none : Option Jvm.ClassFile.FieldType) ∈ wg_T := wg_T_of (wg_t8 (List.mem_of_getElem? (i := 25) rfl)) rfl
theorem wq_8_22 : Cond.methodLink "WornWigsModel" 221 yX12_emits ∈ wg_T := wg_T_of (wg_t8 (List.mem_of_getElem? (i := 22) rfl)) rfl
theorem wq_8_24 : Cond.instanceMethod yX12_emits ∈ wg_T := wg_T_of (wg_t8 (List.mem_of_getElem? (i := 24) rfl)) rfl
theorem wq_p6_9 : Cond.selects "WornWigsModel" yX12_emits yX12_emits ∈ wg_T := wg_T_of (wg_sel (q := (⟨"WornWigsModel", "emits", "(II)V"⟩, _)) (List.mem_append_right _ (List.mem_append_right _ (List.mem_append_right _ (List.mem_append_right _ (List.mem_append_right _ (List.mem_append_left _ (List.mem_of_getElem? (i := 9) rfl)))))))) rfl
theorem wq_7_161 : Cond.code yX12_reads prog_14_method_41_code 2 (Option.none : Option Jvm.ClassFile.FieldType) ∈ wg_T := wg_T_of (wg_t7 (List.mem_of_getElem? (i := 161) rfl)) rfl
theorem wq_7_158 : Cond.methodLink "WornWigsModel" 225 yX12_reads ∈ wg_T := wg_T_of (wg_t7 (List.mem_of_getElem? (i := 158) rfl)) rfl
theorem wq_7_160 : Cond.instanceMethod yX12_reads ∈ wg_T := wg_T_of (wg_t7 (List.mem_of_getElem? (i := 160) rfl)) rfl
theorem wq_p4_15 : Cond.selects "WornWigsModel" yX12_reads yX12_reads ∈ wg_T := wg_T_of (wg_sel (q := (⟨"WornWigsModel", "reads", "()V"⟩, _)) (List.mem_append_right _ (List.mem_append_right _ (List.mem_append_right _ (List.mem_append_left _ (List.mem_of_getElem? (i := 15) rfl)))))) rfl
theorem wq_7_193 : Cond.code yX12_errs prog_14_method_42_code 2 (Option.some Jvm.ClassFile.FieldType.int) ∈ wg_T := wg_T_of (wg_t7 (List.mem_of_getElem? (i := 193) rfl)) rfl
theorem wq_7_190 : Cond.methodLink "WornWigsModel" 218 yX12_errs ∈ wg_T := wg_T_of (wg_t7 (List.mem_of_getElem? (i := 190) rfl)) rfl
theorem wq_7_192 : Cond.instanceMethod yX12_errs ∈ wg_T := wg_T_of (wg_t7 (List.mem_of_getElem? (i := 192) rfl)) rfl
theorem wq_p5_7 : Cond.selects "WornWigsModel" yX12_errs yX12_errs ∈ wg_T := wg_T_of (wg_sel (q := (⟨"WornWigsModel", "errs", "(I)I"⟩, _)) (List.mem_append_right _ (List.mem_append_right _ (List.mem_append_right _ (List.mem_append_right _ (List.mem_append_left _ (List.mem_of_getElem? (i := 7) rfl))))))) rfl
theorem wq_8_21 : Cond.code yX12_canAsk prog_14_method_46_code 2 (Option.some Jvm.ClassFile.FieldType.boolean) ∈ wg_T := wg_T_of (wg_t8 (List.mem_of_getElem? (i := 21) rfl)) rfl
theorem wq_8_18 : Cond.methodLink "WornWigsModel" 215 yX12_canAsk ∈ wg_T := wg_T_of (wg_t8 (List.mem_of_getElem? (i := 18) rfl)) rfl
theorem wq_8_20 : Cond.instanceMethod yX12_canAsk ∈ wg_T := wg_T_of (wg_t8 (List.mem_of_getElem? (i := 20) rfl)) rfl
theorem wq_p6_8 : Cond.selects "WornWigsModel" yX12_canAsk yX12_canAsk ∈ wg_T := wg_T_of (wg_sel (q := (⟨"WornWigsModel", "canAsk", "(I)Z"⟩, _)) (List.mem_append_right _ (List.mem_append_right _ (List.mem_append_right _ (List.mem_append_right _ (List.mem_append_right _ (List.mem_append_left _ (List.mem_of_getElem? (i := 8) rfl)))))))) rfl
theorem wq_8_17 : Cond.code yX12_readUnit prog_14_method_47_code 2 (Option.some Jvm.ClassFile.FieldType.int) ∈ wg_T := wg_T_of (wg_t8 (List.mem_of_getElem? (i := 17) rfl)) rfl
theorem wq_8_14 : Cond.methodLink "WornWigsModel" 228 yX12_readUnit ∈ wg_T := wg_T_of (wg_t8 (List.mem_of_getElem? (i := 14) rfl)) rfl
theorem wq_8_16 : Cond.instanceMethod yX12_readUnit ∈ wg_T := wg_T_of (wg_t8 (List.mem_of_getElem? (i := 16) rfl)) rfl
theorem wq_p6_7 : Cond.selects "WornWigsModel" yX12_readUnit yX12_readUnit ∈ wg_T := wg_T_of (wg_sel (q := (⟨"WornWigsModel", "readUnit", "()I"⟩, _)) (List.mem_append_right _ (List.mem_append_right _ (List.mem_append_right _ (List.mem_append_right _ (List.mem_append_right _ (List.mem_append_left _ (List.mem_of_getElem? (i := 7) rfl)))))))) rfl
theorem wq_7_213 : Cond.code yX12_isSign prog_14_method_44_code 2 (Option.some Jvm.ClassFile.FieldType.boolean) ∈ wg_T := wg_T_of (wg_t7 (List.mem_of_getElem? (i := 213) rfl)) rfl
theorem wq_7_210 : Cond.methodLink "WornWigsModel" 232 yX12_isSign ∈ wg_T := wg_T_of (wg_t7 (List.mem_of_getElem? (i := 210) rfl)) rfl
theorem wq_7_212 : Cond.instanceMethod yX12_isSign ∈ wg_T := wg_T_of (wg_t7 (List.mem_of_getElem? (i := 212) rfl)) rfl
theorem wq_p5_12 : Cond.selects "WornWigsModel" yX12_isSign yX12_isSign ∈ wg_T := wg_T_of (wg_sel (q := (⟨"WornWigsModel", "isSign", "(I)Z"⟩, _)) (List.mem_append_right _ (List.mem_append_right _ (List.mem_append_right _ (List.mem_append_right _ (List.mem_append_left _ (List.mem_of_getElem? (i := 12) rfl))))))) rfl
theorem wq_8_13 : Cond.code yX12_readProduct prog_14_method_48_code 2 (Option.some Jvm.ClassFile.FieldType.int) ∈ wg_T := wg_T_of (wg_t8 (List.mem_of_getElem? (i := 13) rfl)) rfl
theorem wq_8_10 : Cond.methodLink "WornWigsModel" 235 yX12_readProduct ∈ wg_T := wg_T_of (wg_t8 (List.mem_of_getElem? (i := 10) rfl)) rfl
theorem wq_8_12 : Cond.instanceMethod yX12_readProduct ∈ wg_T := wg_T_of (wg_t8 (List.mem_of_getElem? (i := 12) rfl)) rfl
theorem wq_p6_6 : Cond.selects "WornWigsModel" yX12_readProduct yX12_readProduct ∈ wg_T := wg_T_of (wg_sel (q := (⟨"WornWigsModel", "readProduct", "()I"⟩, _)) (List.mem_append_right _ (List.mem_append_right _ (List.mem_append_right _ (List.mem_append_right _ (List.mem_append_right _ (List.mem_append_left _ (List.mem_of_getElem? (i := 6) rfl)))))))) rfl
theorem wq_8_9 : Cond.code yX12_readSum prog_14_method_49_code 2 (Option.some Jvm.ClassFile.FieldType.int) ∈ wg_T := wg_T_of (wg_t8 (List.mem_of_getElem? (i := 9) rfl)) rfl
theorem wq_8_6 : Cond.methodLink "WornWigsModel" 238 yX12_readSum ∈ wg_T := wg_T_of (wg_t8 (List.mem_of_getElem? (i := 6) rfl)) rfl
theorem wq_8_8 : Cond.instanceMethod yX12_readSum ∈ wg_T := wg_T_of (wg_t8 (List.mem_of_getElem? (i := 8) rfl)) rfl
theorem wq_p6_5 : Cond.selects "WornWigsModel" yX12_readSum yX12_readSum ∈ wg_T := wg_T_of (wg_sel (q := (⟨"WornWigsModel", "readSum", "()I"⟩, _)) (List.mem_append_right _ (List.mem_append_right _ (List.mem_append_right _ (List.mem_append_right _ (List.mem_append_right _ (List.mem_append_left _ (List.mem_of_getElem? (i := 5) rfl)))))))) rfl
theorem wq_6_157 : Cond.fieldLink "WornWigsModel" 61 "WornWigsModel" "pending" "[I" ∈ wg_T := wg_T_of (wg_t6 (List.mem_of_getElem? (i := 157) rfl)) rfl
theorem wq_6_158 : Cond.fieldLink "WornWigsModel" 241 "WornWigsModel" "pendings" "I" ∈ wg_T := wg_T_of (wg_t6 (List.mem_of_getElem? (i := 158) rfl)) rfl
theorem wq_6_156 : Cond.fieldLink "WornWigsModel" 244 "WornWigsModel" "open" "I" ∈ wg_T := wg_T_of (wg_t6 (List.mem_of_getElem? (i := 156) rfl)) rfl
theorem wq_8_33 : Cond.code yX12_waits prog_14_method_51_code 2 (Option.none : Option Jvm.ClassFile.FieldType) ∈ wg_T := wg_T_of (wg_t8 (List.mem_of_getElem? (i := 33) rfl)) rfl
theorem wq_8_30 : Cond.methodLink "WornWigsModel" 250 yX12_waits ∈ wg_T := wg_T_of (wg_t8 (List.mem_of_getElem? (i := 30) rfl)) rfl
theorem wq_8_32 : Cond.instanceMethod yX12_waits ∈ wg_T := wg_T_of (wg_t8 (List.mem_of_getElem? (i := 32) rfl)) rfl
theorem wq_p6_11 : Cond.selects "WornWigsModel" yX12_waits yX12_waits ∈ wg_T := wg_T_of (wg_sel (q := (⟨"WornWigsModel", "waits", "(I)V"⟩, _)) (List.mem_append_right _ (List.mem_append_right _ (List.mem_append_right _ (List.mem_append_right _ (List.mem_append_right _ (List.mem_append_left _ (List.mem_of_getElem? (i := 11) rfl)))))))) rfl
theorem wq_7_189 : Cond.code yX12_isWord prog_14_method_43_code 2 (Option.some Jvm.ClassFile.FieldType.boolean) ∈ wg_T := wg_T_of (wg_t7 (List.mem_of_getElem? (i := 189) rfl)) rfl
theorem wq_7_186 : Cond.methodLink "WornWigsModel" 247 yX12_isWord ∈ wg_T := wg_T_of (wg_t7 (List.mem_of_getElem? (i := 186) rfl)) rfl
theorem wq_7_188 : Cond.instanceMethod yX12_isWord ∈ wg_T := wg_T_of (wg_t7 (List.mem_of_getElem? (i := 188) rfl)) rfl
theorem wq_p5_6 : Cond.selects "WornWigsModel" yX12_isWord yX12_isWord ∈ wg_T := wg_T_of (wg_sel (q := (⟨"WornWigsModel", "isWord", "(I)Z"⟩, _)) (List.mem_append_right _ (List.mem_append_right _ (List.mem_append_right _ (List.mem_append_right _ (List.mem_append_left _ (List.mem_of_getElem? (i := 6) rfl))))))) rfl
theorem wq_8_41 : Cond.code yX12_settles prog_14_method_52_code 2 (Option.none : Option Jvm.ClassFile.FieldType) ∈ wg_T := wg_T_of (wg_t8 (List.mem_of_getElem? (i := 41) rfl)) rfl
theorem wq_8_38 : Cond.methodLink "WornWigsModel" 256 yX12_settles ∈ wg_T := wg_T_of (wg_t8 (List.mem_of_getElem? (i := 38) rfl)) rfl
theorem wq_8_40 : Cond.instanceMethod yX12_settles ∈ wg_T := wg_T_of (wg_t8 (List.mem_of_getElem? (i := 40) rfl)) rfl
theorem wq_p6_13 : Cond.selects "WornWigsModel" yX12_settles yX12_settles ∈ wg_T := wg_T_of (wg_sel (q := (⟨"WornWigsModel", "settles", "(I)V"⟩, _)) (List.mem_append_right _ (List.mem_append_right _ (List.mem_append_right _ (List.mem_append_right _ (List.mem_append_right _ (List.mem_append_left _ (List.mem_of_getElem? (i := 13) rfl)))))))) rfl
theorem wq_8_37 : Cond.code yX12_readCompared prog_14_method_50_code 2 (Option.some Jvm.ClassFile.FieldType.int) ∈ wg_T := wg_T_of (wg_t8 (List.mem_of_getElem? (i := 37) rfl)) rfl
theorem wq_8_34 : Cond.methodLink "WornWigsModel" 253 yX12_readCompared ∈ wg_T := wg_T_of (wg_t8 (List.mem_of_getElem? (i := 34) rfl)) rfl
theorem wq_8_36 : Cond.instanceMethod yX12_readCompared ∈ wg_T := wg_T_of (wg_t8 (List.mem_of_getElem? (i := 36) rfl)) rfl
theorem wq_p6_12 : Cond.selects "WornWigsModel" yX12_readCompared yX12_readCompared ∈ wg_T := wg_T_of (wg_sel (q := (⟨"WornWigsModel", "readCompared", "()I"⟩, _)) (List.mem_append_right _ (List.mem_append_right _ (List.mem_append_right _ (List.mem_append_right _ (List.mem_append_right _ (List.mem_append_left _ (List.mem_of_getElem? (i := 12) rfl)))))))) rfl
theorem wq_6_151 : Cond.fieldLink "WornWigsModel" 52 "WornWigsModel" "lineTo" "[I" ∈ wg_T := wg_T_of (wg_t6 (List.mem_of_getElem? (i := 151) rfl)) rfl
theorem wq_8_5 : Cond.code yX12_isLineWord prog_14_method_54_code 1 (Option.some Jvm.ClassFile.FieldType.boolean) ∈ wg_T := wg_T_of (wg_t8 (List.mem_of_getElem? (i := 5) rfl)) rfl
theorem wq_8_2 : Cond.methodLink "WornWigsModel" 259 yX12_isLineWord ∈ wg_T := wg_T_of (wg_t8 (List.mem_of_getElem? (i := 2) rfl)) rfl
theorem wq_8_4 : Cond.instanceMethod yX12_isLineWord ∈ wg_T := wg_T_of (wg_t8 (List.mem_of_getElem? (i := 4) rfl)) rfl
theorem wq_p6_4 : Cond.selects "WornWigsModel" yX12_isLineWord yX12_isLineWord ∈ wg_T := wg_T_of (wg_sel (q := (⟨"WornWigsModel", "isLineWord", "()Z"⟩, _)) (List.mem_append_right _ (List.mem_append_right _ (List.mem_append_right _ (List.mem_append_right _ (List.mem_append_right _ (List.mem_append_left _ (List.mem_of_getElem? (i := 4) rfl)))))))) rfl
theorem wq_6_148 : Cond.fieldLink "WornWigsModel" 43 "WornWigsModel" "lineWord" "[I" ∈ wg_T := wg_T_of (wg_t6 (List.mem_of_getElem? (i := 148) rfl)) rfl
theorem wq_6_149 : Cond.fieldLink "WornWigsModel" 46 "WornWigsModel" "lineFrom" "[I" ∈ wg_T := wg_T_of (wg_t6 (List.mem_of_getElem? (i := 149) rfl)) rfl
theorem wq_6_150 : Cond.fieldLink "WornWigsModel" 49 "WornWigsModel" "lineWhen" "[I" ∈ wg_T := wg_T_of (wg_t6 (List.mem_of_getElem? (i := 150) rfl)) rfl
theorem wq_8_29 : Cond.code yX12_readAny prog_14_method_53_code 4 (Option.some Jvm.ClassFile.FieldType.int) ∈ wg_T := wg_T_of (wg_t8 (List.mem_of_getElem? (i := 29) rfl)) rfl
theorem wq_8_26 : Cond.methodLink "WornWigsModel" 263 yX12_readAny ∈ wg_T := wg_T_of (wg_t8 (List.mem_of_getElem? (i := 26) rfl)) rfl
theorem wq_8_28 : Cond.instanceMethod yX12_readAny ∈ wg_T := wg_T_of (wg_t8 (List.mem_of_getElem? (i := 28) rfl)) rfl
theorem wq_p6_10 : Cond.selects "WornWigsModel" yX12_readAny yX12_readAny ∈ wg_T := wg_T_of (wg_sel (q := (⟨"WornWigsModel", "readAny", "()I"⟩, _)) (List.mem_append_right _ (List.mem_append_right _ (List.mem_append_right _ (List.mem_append_right _ (List.mem_append_right _ (List.mem_append_left _ (List.mem_of_getElem? (i := 10) rfl)))))))) rfl
theorem wq_6_147 : Cond.fieldLink "WornWigsModel" 40 "WornWigsModel" "lineMany" "[I" ∈ wg_T := wg_T_of (wg_t6 (List.mem_of_getElem? (i := 147) rfl)) rfl
theorem wq_6_154 : Cond.fieldLink "WornWigsModel" 266 "WornWigsModel" "which" "I" ∈ wg_T := wg_T_of (wg_t6 (List.mem_of_getElem? (i := 154) rfl)) rfl
theorem wq_7_205 : Cond.code yX12_readNumber prog_14_method_57_code 4 (Option.some Jvm.ClassFile.FieldType.int) ∈ wg_T := wg_T_of (wg_t7 (List.mem_of_getElem? (i := 205) rfl)) rfl
theorem wq_7_202 : Cond.methodLink "WornWigsModel" 269 yX12_readNumber ∈ wg_T := wg_T_of (wg_t7 (List.mem_of_getElem? (i := 202) rfl)) rfl
theorem wq_7_204 : Cond.instanceMethod yX12_readNumber ∈ wg_T := wg_T_of (wg_t7 (List.mem_of_getElem? (i := 204) rfl)) rfl
theorem wq_p5_10 : Cond.selects "WornWigsModel" yX12_readNumber yX12_readNumber ∈ wg_T := wg_T_of (wg_sel (q := (⟨"WornWigsModel", "readNumber", "(II)I"⟩, _)) (List.mem_append_right _ (List.mem_append_right _ (List.mem_append_right _ (List.mem_append_right _ (List.mem_append_left _ (List.mem_of_getElem? (i := 10) rfl))))))) rfl
theorem wq_6_164 : Cond.fieldLink "WornWigsModel" 68 "WornWigsModel" "docket" "[I" ∈ wg_T := wg_T_of (wg_t6 (List.mem_of_getElem? (i := 164) rfl)) rfl
theorem wq_7_201 : Cond.code yX12_readTold prog_14_method_59_code 4 (Option.some Jvm.ClassFile.FieldType.int) ∈ wg_T := wg_T_of (wg_t7 (List.mem_of_getElem? (i := 201) rfl)) rfl
theorem wq_7_198 : Cond.methodLink "WornWigsModel" 272 yX12_readTold ∈ wg_T := wg_T_of (wg_t7 (List.mem_of_getElem? (i := 198) rfl)) rfl
theorem wq_7_200 : Cond.instanceMethod yX12_readTold ∈ wg_T := wg_T_of (wg_t7 (List.mem_of_getElem? (i := 200) rfl)) rfl
theorem wq_p5_9 : Cond.selects "WornWigsModel" yX12_readTold yX12_readTold ∈ wg_T := wg_T_of (wg_sel (q := (⟨"WornWigsModel", "readTold", "(III)I"⟩, _)) (List.mem_append_right _ (List.mem_append_right _ (List.mem_append_right _ (List.mem_append_right _ (List.mem_append_left _ (List.mem_of_getElem? (i := 9) rfl))))))) rfl
theorem wq_7_209 : Cond.code yX12_readMark prog_14_method_58_code 2 (Option.some Jvm.ClassFile.FieldType.int) ∈ wg_T := wg_T_of (wg_t7 (List.mem_of_getElem? (i := 209) rfl)) rfl
theorem wq_7_206 : Cond.methodLink "WornWigsModel" 276 yX12_readMark ∈ wg_T := wg_T_of (wg_t7 (List.mem_of_getElem? (i := 206) rfl)) rfl
theorem wq_7_208 : Cond.instanceMethod yX12_readMark ∈ wg_T := wg_T_of (wg_t7 (List.mem_of_getElem? (i := 208) rfl)) rfl
theorem wq_p5_11 : Cond.selects "WornWigsModel" yX12_readMark yX12_readMark ∈ wg_T := wg_T_of (wg_sel (q := (⟨"WornWigsModel", "readMark", "(I)I"⟩, _)) (List.mem_append_right _ (List.mem_append_right _ (List.mem_append_right _ (List.mem_append_right _ (List.mem_append_left _ (List.mem_of_getElem? (i := 11) rfl))))))) rfl
theorem wq_7_197 : Cond.code yX12_readDocketLine prog_14_method_60_code 2 (Option.some Jvm.ClassFile.FieldType.int) ∈ wg_T := wg_T_of (wg_t7 (List.mem_of_getElem? (i := 197) rfl)) rfl
theorem wq_7_194 : Cond.methodLink "WornWigsModel" 279 yX12_readDocketLine ∈ wg_T := wg_T_of (wg_t7 (List.mem_of_getElem? (i := 194) rfl)) rfl
theorem wq_7_196 : Cond.instanceMethod yX12_readDocketLine ∈ wg_T := wg_T_of (wg_t7 (List.mem_of_getElem? (i := 196) rfl)) rfl
theorem wq_p5_8 : Cond.selects "WornWigsModel" yX12_readDocketLine yX12_readDocketLine ∈ wg_T := wg_T_of (wg_sel (q := (⟨"WornWigsModel", "readDocketLine", "(I)I"⟩, _)) (List.mem_append_right _ (List.mem_append_right _ (List.mem_append_right _ (List.mem_append_right _ (List.mem_append_left _ (List.mem_of_getElem? (i := 8) rfl))))))) rfl
theorem wq_6_166 : Cond.fieldLink "WornWigsModel" 71 "WornWigsModel" "loans" "[I" ∈ wg_T := wg_T_of (wg_t6 (List.mem_of_getElem? (i := 166) rfl)) rfl
theorem wq_7_225 : Cond.code yX12_kindOfLoan prog_14_method_62_code 1 (Option.some Jvm.ClassFile.FieldType.int) ∈ wg_T := wg_T_of (wg_t7 (List.mem_of_getElem? (i := 225) rfl)) rfl
theorem wq_7_222 : Cond.methodLink "WornWigsModel" 282 yX12_kindOfLoan ∈ wg_T := wg_T_of (wg_t7 (List.mem_of_getElem? (i := 222) rfl)) rfl
theorem wq_7_224 : Cond.instanceMethod yX12_kindOfLoan ∈ wg_T := wg_T_of (wg_t7 (List.mem_of_getElem? (i := 224) rfl)) rfl
theorem wq_p5_15 : Cond.selects "WornWigsModel" yX12_kindOfLoan yX12_kindOfLoan ∈ wg_T := wg_T_of (wg_sel (q := (⟨"WornWigsModel", "kindOfLoan", "()I"⟩, _)) (List.mem_append_right _ (List.mem_append_right _ (List.mem_append_right _ (List.mem_append_right _ (List.mem_append_left _ (List.mem_of_getElem? (i := 15) rfl))))))) rfl
theorem wq_7_229 : Cond.code yX12_readLoanMore prog_14_method_63_code 2 (Option.some Jvm.ClassFile.FieldType.int) ∈ wg_T := wg_T_of (wg_t7 (List.mem_of_getElem? (i := 229) rfl)) rfl
theorem wq_7_226 : Cond.methodLink "WornWigsModel" 285 yX12_readLoanMore ∈ wg_T := wg_T_of (wg_t7 (List.mem_of_getElem? (i := 226) rfl)) rfl
theorem wq_7_228 : Cond.instanceMethod yX12_readLoanMore ∈ wg_T := wg_T_of (wg_t7 (List.mem_of_getElem? (i := 228) rfl)) rfl
theorem wq_p6_0 : Cond.selects "WornWigsModel" yX12_readLoanMore yX12_readLoanMore ∈ wg_T := wg_T_of (wg_sel (q := (⟨"WornWigsModel", "readLoanMore", "(I)I"⟩, _)) (List.mem_append_right _ (List.mem_append_right _ (List.mem_append_right _ (List.mem_append_right _ (List.mem_append_right _ (List.mem_append_left _ (List.mem_of_getElem? (i := 0) rfl)))))))) rfl
theorem wq_7_221 : Cond.code yX12_readLoan prog_14_method_64_code 3 (Option.some Jvm.ClassFile.FieldType.int) ∈ wg_T := wg_T_of (wg_t7 (List.mem_of_getElem? (i := 221) rfl)) rfl
theorem wq_7_218 : Cond.methodLink "WornWigsModel" 288 yX12_readLoan ∈ wg_T := wg_T_of (wg_t7 (List.mem_of_getElem? (i := 218) rfl)) rfl
theorem wq_7_220 : Cond.instanceMethod yX12_readLoan ∈ wg_T := wg_T_of (wg_t7 (List.mem_of_getElem? (i := 220) rfl)) rfl
theorem wq_p5_14 : Cond.selects "WornWigsModel" yX12_readLoan yX12_readLoan ∈ wg_T := wg_T_of (wg_sel (q := (⟨"WornWigsModel", "readLoan", "(I)I"⟩, _)) (List.mem_append_right _ (List.mem_append_right _ (List.mem_append_right _ (List.mem_append_right _ (List.mem_append_left _ (List.mem_of_getElem? (i := 14) rfl))))))) rfl
theorem wq_6_168 : Cond.fieldLink "WornWigsModel" 74 "WornWigsModel" "afterUp" "[I" ∈ wg_T := wg_T_of (wg_t6 (List.mem_of_getElem? (i := 168) rfl)) rfl
theorem wq_7_237 : Cond.code yX12_readKinLine prog_14_method_66_code 3 (Option.some Jvm.ClassFile.FieldType.int) ∈ wg_T := wg_T_of (wg_t7 (List.mem_of_getElem? (i := 237) rfl)) rfl
theorem wq_7_234 : Cond.methodLink "WornWigsModel" 291 yX12_readKinLine ∈ wg_T := wg_T_of (wg_t7 (List.mem_of_getElem? (i := 234) rfl)) rfl
theorem wq_7_236 : Cond.instanceMethod yX12_readKinLine ∈ wg_T := wg_T_of (wg_t7 (List.mem_of_getElem? (i := 236) rfl)) rfl
theorem wq_p6_2 : Cond.selects "WornWigsModel" yX12_readKinLine yX12_readKinLine ∈ wg_T := wg_T_of (wg_sel (q := (⟨"WornWigsModel", "readKinLine", "()I"⟩, _)) (List.mem_append_right _ (List.mem_append_right _ (List.mem_append_right _ (List.mem_append_right _ (List.mem_append_right _ (List.mem_append_left _ (List.mem_of_getElem? (i := 2) rfl)))))))) rfl
theorem wq_8_1 : Cond.code yX12_readLaw prog_14_method_55_code 3 (Option.some Jvm.ClassFile.FieldType.int) ∈ wg_T := wg_T_of (wg_t8 (List.mem_of_getElem? (i := 1) rfl)) rfl
theorem wq_7_238 : Cond.methodLink "WornWigsModel" 303 yX12_readLaw ∈ wg_T := wg_T_of (wg_t7 (List.mem_of_getElem? (i := 238) rfl)) rfl
theorem wq_8_0 : Cond.instanceMethod yX12_readLaw ∈ wg_T := wg_T_of (wg_t8 (List.mem_of_getElem? (i := 0) rfl)) rfl
theorem wq_p6_3 : Cond.selects "WornWigsModel" yX12_readLaw yX12_readLaw ∈ wg_T := wg_T_of (wg_sel (q := (⟨"WornWigsModel", "readLaw", "()I"⟩, _)) (List.mem_append_right _ (List.mem_append_right _ (List.mem_append_right _ (List.mem_append_right _ (List.mem_append_right _ (List.mem_append_left _ (List.mem_of_getElem? (i := 3) rfl)))))))) rfl
theorem wq_7_233 : Cond.code yX12_readKin prog_14_method_67_code 2 (Option.some Jvm.ClassFile.FieldType.int) ∈ wg_T := wg_T_of (wg_t7 (List.mem_of_getElem? (i := 233) rfl)) rfl
theorem wq_7_230 : Cond.methodLink "WornWigsModel" 300 yX12_readKin ∈ wg_T := wg_T_of (wg_t7 (List.mem_of_getElem? (i := 230) rfl)) rfl
theorem wq_7_232 : Cond.instanceMethod yX12_readKin ∈ wg_T := wg_T_of (wg_t7 (List.mem_of_getElem? (i := 232) rfl)) rfl
theorem wq_p6_1 : Cond.selects "WornWigsModel" yX12_readKin yX12_readKin ∈ wg_T := wg_T_of (wg_sel (q := (⟨"WornWigsModel", "readKin", "()I"⟩, _)) (List.mem_append_right _ (List.mem_append_right _ (List.mem_append_right _ (List.mem_append_right _ (List.mem_append_right _ (List.mem_append_left _ (List.mem_of_getElem? (i := 1) rfl)))))))) rfl
theorem wq_7_217 : Cond.code yX12_readLoans prog_14_method_65_code 2 (Option.some Jvm.ClassFile.FieldType.int) ∈ wg_T := wg_T_of (wg_t7 (List.mem_of_getElem? (i := 217) rfl)) rfl
theorem wq_7_214 : Cond.methodLink "WornWigsModel" 297 yX12_readLoans ∈ wg_T := wg_T_of (wg_t7 (List.mem_of_getElem? (i := 214) rfl)) rfl
theorem wq_7_216 : Cond.instanceMethod yX12_readLoans ∈ wg_T := wg_T_of (wg_t7 (List.mem_of_getElem? (i := 216) rfl)) rfl
theorem wq_p5_13 : Cond.selects "WornWigsModel" yX12_readLoans yX12_readLoans ∈ wg_T := wg_T_of (wg_sel (q := (⟨"WornWigsModel", "readLoans", "()I"⟩, _)) (List.mem_append_right _ (List.mem_append_right _ (List.mem_append_right _ (List.mem_append_right _ (List.mem_append_left _ (List.mem_of_getElem? (i := 13) rfl))))))) rfl
theorem wq_7_185 : Cond.code yX12_readDocket prog_14_method_61_code 2 (Option.some Jvm.ClassFile.FieldType.int) ∈ wg_T := wg_T_of (wg_t7 (List.mem_of_getElem? (i := 185) rfl)) rfl
theorem wq_7_182 : Cond.methodLink "WornWigsModel" 294 yX12_readDocket ∈ wg_T := wg_T_of (wg_t7 (List.mem_of_getElem? (i := 182) rfl)) rfl
theorem wq_7_184 : Cond.instanceMethod yX12_readDocket ∈ wg_T := wg_T_of (wg_t7 (List.mem_of_getElem? (i := 184) rfl)) rfl
theorem wq_p5_5 : Cond.selects "WornWigsModel" yX12_readDocket yX12_readDocket ∈ wg_T := wg_T_of (wg_sel (q := (⟨"WornWigsModel", "readDocket", "()I"⟩, _)) (List.mem_append_right _ (List.mem_append_right _ (List.mem_append_right _ (List.mem_append_right _ (List.mem_append_left _ (List.mem_of_getElem? (i := 5) rfl))))))) rfl
theorem wq_6_165 : Cond.fieldLink "WornWigsModel" 312 "WornWigsModel" "loanMany" "I" ∈ wg_T := wg_T_of (wg_t6 (List.mem_of_getElem? (i := 165) rfl)) rfl
theorem wq_6_163 : Cond.fieldLink "WornWigsModel" 309 "WornWigsModel" "docketMany" "I" ∈ wg_T := wg_T_of (wg_t6 (List.mem_of_getElem? (i := 163) rfl)) rfl
theorem wq_6_167 : Cond.fieldLink "WornWigsModel" 306 "WornWigsModel" "kinMany" "I" ∈ wg_T := wg_T_of (wg_t6 (List.mem_of_getElem? (i := 167) rfl)) rfl
theorem wq_8_49 : Cond.code yX12_takesOther prog_14_method_69_code 4 (Option.none : Option Jvm.ClassFile.FieldType) ∈ wg_T := wg_T_of (wg_t8 (List.mem_of_getElem? (i := 49) rfl)) rfl
theorem wq_8_46 : Cond.methodLink "WornWigsModel" 324 yX12_takesOther ∈ wg_T := wg_T_of (wg_t8 (List.mem_of_getElem? (i := 46) rfl)) rfl
theorem wq_8_48 : Cond.instanceMethod yX12_takesOther ∈ wg_T := wg_T_of (wg_t8 (List.mem_of_getElem? (i := 48) rfl)) rfl
theorem wq_p6_15 : Cond.selects "WornWigsModel" yX12_takesOther yX12_takesOther ∈ wg_T := wg_T_of (wg_sel (q := (⟨"WornWigsModel", "takesOther", "(II)V"⟩, _)) (List.mem_append_right _ (List.mem_append_right _ (List.mem_append_right _ (List.mem_append_right _ (List.mem_append_right _ (List.mem_append_left _ (List.mem_of_getElem? (i := 15) rfl)))))))) rfl
theorem wq_8_45 : Cond.code yX12_takesLaw prog_14_method_56_code 3 (Option.none : Option Jvm.ClassFile.FieldType) ∈ wg_T := wg_T_of (wg_t8 (List.mem_of_getElem? (i := 45) rfl)) rfl
theorem wq_8_42 : Cond.methodLink "WornWigsModel" 321 yX12_takesLaw ∈ wg_T := wg_T_of (wg_t8 (List.mem_of_getElem? (i := 42) rfl)) rfl
theorem wq_8_44 : Cond.instanceMethod yX12_takesLaw ∈ wg_T := wg_T_of (wg_t8 (List.mem_of_getElem? (i := 44) rfl)) rfl
theorem wq_p6_14 : Cond.selects "WornWigsModel" yX12_takesLaw yX12_takesLaw ∈ wg_T := wg_T_of (wg_sel (q := (⟨"WornWigsModel", "takesLaw", "(I)V"⟩, _)) (List.mem_append_right _ (List.mem_append_right _ (List.mem_append_right _ (List.mem_append_right _ (List.mem_append_right _ (List.mem_append_left _ (List.mem_of_getElem? (i := 14) rfl)))))))) rfl
theorem wq_6_161 : Cond.fieldLink "WornWigsModel" 315 "WornWigsModel" "faultKind" "I" ∈ wg_T := wg_T_of (wg_t6 (List.mem_of_getElem? (i := 161) rfl)) rfl
theorem wq_6_162 : Cond.fieldLink "WornWigsModel" 64 "WornWigsModel" "faultPlace" "I" ∈ wg_T := wg_T_of (wg_t6 (List.mem_of_getElem? (i := 162) rfl)) rfl
theorem wq_7_157 : Cond.code yX12_readsText prog_14_method_68_code 2 (Option.some Jvm.ClassFile.FieldType.int) ∈ wg_T := wg_T_of (wg_t7 (List.mem_of_getElem? (i := 157) rfl)) rfl
theorem wq_7_154 : Cond.methodLink "WornWigsModel" 318 yX12_readsText ∈ wg_T := wg_T_of (wg_t7 (List.mem_of_getElem? (i := 154) rfl)) rfl
theorem wq_7_156 : Cond.instanceMethod yX12_readsText ∈ wg_T := wg_T_of (wg_t7 (List.mem_of_getElem? (i := 156) rfl)) rfl
theorem wq_p4_14 : Cond.selects "WornWigsModel" yX12_readsText yX12_readsText ∈ wg_T := wg_T_of (wg_sel (q := (⟨"WornWigsModel", "readsText", "(I)I"⟩, _)) (List.mem_append_right _ (List.mem_append_right _ (List.mem_append_right _ (List.mem_append_left _ (List.mem_of_getElem? (i := 14) rfl)))))) rfl
theorem wq_6_170 : Cond.fieldLink "WornWigsModel" 80 "WornWigsModel" "stack" "[I" ∈ wg_T := wg_T_of (wg_t6 (List.mem_of_getElem? (i := 170) rfl)) rfl
theorem wq_6_169 : Cond.fieldLink "WornWigsModel" 77 "WornWigsModel" "asked" "[I" ∈ wg_T := wg_T_of (wg_t6 (List.mem_of_getElem? (i := 169) rfl)) rfl
theorem wq_8_105 : Cond.code yX12_twoOf prog_14_method_72_code 4 (Option.some Jvm.ClassFile.FieldType.int) ∈ wg_T := wg_T_of (wg_t8 (List.mem_of_getElem? (i := 105) rfl)) rfl
theorem wq_8_102 : Cond.methodLink "WornWigsModel" 327 yX12_twoOf ∈ wg_T := wg_T_of (wg_t8 (List.mem_of_getElem? (i := 102) rfl)) rfl
theorem wq_8_104 : Cond.instanceMethod yX12_twoOf ∈ wg_T := wg_T_of (wg_t8 (List.mem_of_getElem? (i := 104) rfl)) rfl
theorem wq_p7_11 : Cond.selects "WornWigsModel" yX12_twoOf yX12_twoOf ∈ wg_T := wg_T_of (wg_sel (q := (⟨"WornWigsModel", "twoOf", "(III)I"⟩, _)) (List.mem_append_right _ (List.mem_append_right _ (List.mem_append_right _ (List.mem_append_right _ (List.mem_append_right _ (List.mem_append_right _ (List.mem_append_left _ (List.mem_of_getElem? (i := 11) rfl))))))))) rfl
theorem wq_8_101 : Cond.code yX12_runs prog_14_method_73_code 6 (Option.some Jvm.ClassFile.FieldType.int) ∈ wg_T := wg_T_of (wg_t8 (List.mem_of_getElem? (i := 101) rfl)) rfl
theorem wq_8_98 : Cond.methodLink "WornWigsModel" 330 yX12_runs ∈ wg_T := wg_T_of (wg_t8 (List.mem_of_getElem? (i := 98) rfl)) rfl
theorem wq_8_100 : Cond.instanceMethod yX12_runs ∈ wg_T := wg_T_of (wg_t8 (List.mem_of_getElem? (i := 100) rfl)) rfl
theorem wq_p7_10 : Cond.selects "WornWigsModel" yX12_runs yX12_runs ∈ wg_T := wg_T_of (wg_sel (q := (⟨"WornWigsModel", "runs", "(III)I"⟩, _)) (List.mem_append_right _ (List.mem_append_right _ (List.mem_append_right _ (List.mem_append_right _ (List.mem_append_right _ (List.mem_append_right _ (List.mem_append_left _ (List.mem_of_getElem? (i := 10) rfl))))))))) rfl
theorem wq_8_109 : Cond.code yX12_held prog_14_method_4_code 4 (Option.some Jvm.ClassFile.FieldType.int) ∈ wg_T := wg_T_of (wg_t8 (List.mem_of_getElem? (i := 109) rfl)) rfl
theorem wq_8_106 : Cond.methodLink "WornWigsModel" 336 yX12_held ∈ wg_T := wg_T_of (wg_t8 (List.mem_of_getElem? (i := 106) rfl)) rfl
theorem wq_8_108 : Cond.instanceMethod yX12_held ∈ wg_T := wg_T_of (wg_t8 (List.mem_of_getElem? (i := 108) rfl)) rfl
theorem wq_p7_12 : Cond.selects "WornWigsModel" yX12_held yX12_held ∈ wg_T := wg_T_of (wg_sel (q := (⟨"WornWigsModel", "held", "(III)I"⟩, _)) (List.mem_append_right _ (List.mem_append_right _ (List.mem_append_right _ (List.mem_append_right _ (List.mem_append_right _ (List.mem_append_right _ (List.mem_append_left _ (List.mem_of_getElem? (i := 12) rfl))))))))) rfl
theorem wq_8_97 : Cond.code yX12_lineOf prog_14_method_74_code 3 (Option.some Jvm.ClassFile.FieldType.int) ∈ wg_T := wg_T_of (wg_t8 (List.mem_of_getElem? (i := 97) rfl)) rfl
theorem wq_8_94 : Cond.methodLink "WornWigsModel" 333 yX12_lineOf ∈ wg_T := wg_T_of (wg_t8 (List.mem_of_getElem? (i := 94) rfl)) rfl
theorem wq_8_96 : Cond.instanceMethod yX12_lineOf ∈ wg_T := wg_T_of (wg_t8 (List.mem_of_getElem? (i := 96) rfl)) rfl
theorem wq_p7_9 : Cond.selects "WornWigsModel" yX12_lineOf yX12_lineOf ∈ wg_T := wg_T_of (wg_sel (q := (⟨"WornWigsModel", "lineOf", "(I)I"⟩, _)) (List.mem_append_right _ (List.mem_append_right _ (List.mem_append_right _ (List.mem_append_right _ (List.mem_append_right _ (List.mem_append_right _ (List.mem_append_left _ (List.mem_of_getElem? (i := 9) rfl))))))))) rfl
theorem wq_8_89 : Cond.code yX12_asks prog_14_method_75_code 3 (Option.none : Option Jvm.ClassFile.FieldType) ∈ wg_T := wg_T_of (wg_t8 (List.mem_of_getElem? (i := 89) rfl)) rfl
theorem wq_8_86 : Cond.methodLink "WornWigsModel" 339 yX12_asks ∈ wg_T := wg_T_of (wg_t8 (List.mem_of_getElem? (i := 86) rfl)) rfl
theorem wq_8_88 : Cond.instanceMethod yX12_asks ∈ wg_T := wg_T_of (wg_t8 (List.mem_of_getElem? (i := 88) rfl)) rfl
theorem wq_p7_7 : Cond.selects "WornWigsModel" yX12_asks yX12_asks ∈ wg_T := wg_T_of (wg_sel (q := (⟨"WornWigsModel", "asks", "(II)V"⟩, _)) (List.mem_append_right _ (List.mem_append_right _ (List.mem_append_right _ (List.mem_append_right _ (List.mem_append_right _ (List.mem_append_right _ (List.mem_append_left _ (List.mem_of_getElem? (i := 7) rfl))))))))) rfl
theorem wq_8_93 : Cond.code yX12_lawTells prog_14_method_76_code 5 (Option.some Jvm.ClassFile.FieldType.int) ∈ wg_T := wg_T_of (wg_t8 (List.mem_of_getElem? (i := 93) rfl)) rfl
theorem wq_8_90 : Cond.methodLink "WornWigsModel" 342 yX12_lawTells ∈ wg_T := wg_T_of (wg_t8 (List.mem_of_getElem? (i := 90) rfl)) rfl
theorem wq_8_92 : Cond.instanceMethod yX12_lawTells ∈ wg_T := wg_T_of (wg_t8 (List.mem_of_getElem? (i := 92) rfl)) rfl
theorem wq_p7_8 : Cond.selects "WornWigsModel" yX12_lawTells yX12_lawTells ∈ wg_T := wg_T_of (wg_sel (q := (⟨"WornWigsModel", "lawTells", "(III)I"⟩, _)) (List.mem_append_right _ (List.mem_append_right _ (List.mem_append_right _ (List.mem_append_right _ (List.mem_append_right _ (List.mem_append_right _ (List.mem_append_left _ (List.mem_of_getElem? (i := 8) rfl))))))))) rfl
theorem wq_8_165 : Cond.code yX12_greater prog_14_method_5_code 3 (Option.some Jvm.ClassFile.FieldType.int) ∈ wg_T := wg_T_of (wg_t8 (List.mem_of_getElem? (i := 165) rfl)) rfl
theorem wq_8_162 : Cond.methodLink "WornWigsModel" 345 yX12_greater ∈ wg_T := wg_T_of (wg_t8 (List.mem_of_getElem? (i := 162) rfl)) rfl
theorem wq_8_164 : Cond.instanceMethod yX12_greater ∈ wg_T := wg_T_of (wg_t8 (List.mem_of_getElem? (i := 164) rfl)) rfl
theorem wq_p8_9 : Cond.selects "WornWigsModel" yX12_greater yX12_greater ∈ wg_T := wg_T_of (wg_sel (q := (⟨"WornWigsModel", "greater", "(II)I"⟩, _)) (List.mem_append_right _ (List.mem_append_right _ (List.mem_append_right _ (List.mem_append_right _ (List.mem_append_right _ (List.mem_append_right _ (List.mem_append_right _ (List.mem_append_left _ (List.mem_of_getElem? (i := 9) rfl)))))))))) rfl
theorem wq_6_139 : Cond.fieldLink "WornWigsModel" 31 "WornWigsModel" "book" "[I" ∈ wg_T := wg_T_of (wg_t6 (List.mem_of_getElem? (i := 139) rfl)) rfl
theorem wq_8_85 : Cond.code yX12_countsOf prog_14_method_77_code 4 (Option.some Jvm.ClassFile.FieldType.int) ∈ wg_T := wg_T_of (wg_t8 (List.mem_of_getElem? (i := 85) rfl)) rfl
theorem wq_8_82 : Cond.methodLink "WornWigsModel" 348 yX12_countsOf ∈ wg_T := wg_T_of (wg_t8 (List.mem_of_getElem? (i := 82) rfl)) rfl
theorem wq_8_84 : Cond.instanceMethod yX12_countsOf ∈ wg_T := wg_T_of (wg_t8 (List.mem_of_getElem? (i := 84) rfl)) rfl
theorem wq_p7_6 : Cond.selects "WornWigsModel" yX12_countsOf yX12_countsOf ∈ wg_T := wg_T_of (wg_sel (q := (⟨"WornWigsModel", "countsOf", "(III)I"⟩, _)) (List.mem_append_right _ (List.mem_append_right _ (List.mem_append_right _ (List.mem_append_right _ (List.mem_append_right _ (List.mem_append_right _ (List.mem_append_left _ (List.mem_of_getElem? (i := 6) rfl))))))))) rfl
theorem wq_8_113 : Cond.code yX12_partOf prog_14_method_9_code 3 (Option.some Jvm.ClassFile.FieldType.int) ∈ wg_T := wg_T_of (wg_t8 (List.mem_of_getElem? (i := 113) rfl)) rfl
theorem wq_8_110 : Cond.methodLink "WornWigsModel" 351 yX12_partOf ∈ wg_T := wg_T_of (wg_t8 (List.mem_of_getElem? (i := 110) rfl)) rfl
theorem wq_8_112 : Cond.instanceMethod yX12_partOf ∈ wg_T := wg_T_of (wg_t8 (List.mem_of_getElem? (i := 112) rfl)) rfl
theorem wq_p7_13 : Cond.selects "WornWigsModel" yX12_partOf yX12_partOf ∈ wg_T := wg_T_of (wg_sel (q := (⟨"WornWigsModel", "partOf", "(II)I"⟩, _)) (List.mem_append_right _ (List.mem_append_right _ (List.mem_append_right _ (List.mem_append_right _ (List.mem_append_right _ (List.mem_append_right _ (List.mem_append_left _ (List.mem_of_getElem? (i := 13) rfl))))))))) rfl
theorem wq_8_65 : Cond.code yX12_isAlive prog_14_method_20_code 2 (Option.some Jvm.ClassFile.FieldType.boolean) ∈ wg_T := wg_T_of (wg_t8 (List.mem_of_getElem? (i := 65) rfl)) rfl
theorem wq_8_62 : Cond.methodLink "WornWigsModel" 354 yX12_isAlive ∈ wg_T := wg_T_of (wg_t8 (List.mem_of_getElem? (i := 62) rfl)) rfl
theorem wq_8_64 : Cond.instanceMethod yX12_isAlive ∈ wg_T := wg_T_of (wg_t8 (List.mem_of_getElem? (i := 64) rfl)) rfl
theorem wq_p7_1 : Cond.selects "WornWigsModel" yX12_isAlive yX12_isAlive ∈ wg_T := wg_T_of (wg_sel (q := (⟨"WornWigsModel", "isAlive", "(I)Z"⟩, _)) (List.mem_append_right _ (List.mem_append_right _ (List.mem_append_right _ (List.mem_append_right _ (List.mem_append_right _ (List.mem_append_right _ (List.mem_append_left _ (List.mem_of_getElem? (i := 1) rfl))))))))) rfl
theorem wq_8_77 : Cond.code yX12_verdictOf prog_14_method_81_code 6 (Option.some Jvm.ClassFile.FieldType.int) ∈ wg_T := wg_T_of (wg_t8 (List.mem_of_getElem? (i := 77) rfl)) rfl
theorem wq_8_74 : Cond.methodLink "WornWigsModel" 357 yX12_verdictOf ∈ wg_T := wg_T_of (wg_t8 (List.mem_of_getElem? (i := 74) rfl)) rfl
theorem wq_8_76 : Cond.instanceMethod yX12_verdictOf ∈ wg_T := wg_T_of (wg_t8 (List.mem_of_getElem? (i := 76) rfl)) rfl
theorem wq_p7_4 : Cond.selects "WornWigsModel" yX12_verdictOf yX12_verdictOf ∈ wg_T := wg_T_of (wg_sel (q := (⟨"WornWigsModel", "verdictOf", "(II)I"⟩, _)) (List.mem_append_right _ (List.mem_append_right _ (List.mem_append_right _ (List.mem_append_right _ (List.mem_append_right _ (List.mem_append_right _ (List.mem_append_left _ (List.mem_of_getElem? (i := 4) rfl))))))))) rfl
theorem wq_8_117 : Cond.code yX12_notes prog_14_method_80_code 5 (Option.none : Option Jvm.ClassFile.FieldType) ∈ wg_T := wg_T_of (wg_t8 (List.mem_of_getElem? (i := 117) rfl)) rfl
theorem wq_8_114 : Cond.methodLink "WornWigsModel" 360 yX12_notes ∈ wg_T := wg_T_of (wg_t8 (List.mem_of_getElem? (i := 114) rfl)) rfl
theorem wq_8_116 : Cond.instanceMethod yX12_notes ∈ wg_T := wg_T_of (wg_t8 (List.mem_of_getElem? (i := 116) rfl)) rfl
theorem wq_p7_14 : Cond.selects "WornWigsModel" yX12_notes yX12_notes ∈ wg_T := wg_T_of (wg_sel (q := (⟨"WornWigsModel", "notes", "(III)V"⟩, _)) (List.mem_append_right _ (List.mem_append_right _ (List.mem_append_right _ (List.mem_append_right _ (List.mem_append_right _ (List.mem_append_right _ (List.mem_append_left _ (List.mem_of_getElem? (i := 14) rfl))))))))) rfl
theorem wq_8_121 : Cond.code yX12_lightest prog_14_method_82_code 4 (Option.some Jvm.ClassFile.FieldType.int) ∈ wg_T := wg_T_of (wg_t8 (List.mem_of_getElem? (i := 121) rfl)) rfl
theorem wq_8_118 : Cond.methodLink "WornWigsModel" 364 yX12_lightest ∈ wg_T := wg_T_of (wg_t8 (List.mem_of_getElem? (i := 118) rfl)) rfl
theorem wq_8_120 : Cond.instanceMethod yX12_lightest ∈ wg_T := wg_T_of (wg_t8 (List.mem_of_getElem? (i := 120) rfl)) rfl
theorem wq_p7_15 : Cond.selects "WornWigsModel" yX12_lightest yX12_lightest ∈ wg_T := wg_T_of (wg_sel (q := (⟨"WornWigsModel", "lightest", "(I)I"⟩, _)) (List.mem_append_right _ (List.mem_append_right _ (List.mem_append_right _ (List.mem_append_right _ (List.mem_append_right _ (List.mem_append_right _ (List.mem_append_left _ (List.mem_of_getElem? (i := 15) rfl))))))))) rfl
theorem wq_8_125 : Cond.code yX12_goesRule prog_14_method_25_code 4 (Option.none : Option Jvm.ClassFile.FieldType) ∈ wg_T := wg_T_of (wg_t8 (List.mem_of_getElem? (i := 125) rfl)) rfl
theorem wq_8_122 : Cond.methodLink "WornWigsModel" 367 yX12_goesRule ∈ wg_T := wg_T_of (wg_t8 (List.mem_of_getElem? (i := 122) rfl)) rfl
theorem wq_8_124 : Cond.instanceMethod yX12_goesRule ∈ wg_T := wg_T_of (wg_t8 (List.mem_of_getElem? (i := 124) rfl)) rfl
theorem wq_p8_0 : Cond.selects "WornWigsModel" yX12_goesRule yX12_goesRule ∈ wg_T := wg_T_of (wg_sel (q := (⟨"WornWigsModel", "goesRule", "(II)V"⟩, _)) (List.mem_append_right _ (List.mem_append_right _ (List.mem_append_right _ (List.mem_append_right _ (List.mem_append_right _ (List.mem_append_right _ (List.mem_append_right _ (List.mem_append_left _ (List.mem_of_getElem? (i := 0) rfl)))))))))) rfl
theorem wq_8_61 : Cond.code yX12_canTry prog_14_method_83_code 3 (Option.some Jvm.ClassFile.FieldType.boolean) ∈ wg_T := wg_T_of (wg_t8 (List.mem_of_getElem? (i := 61) rfl)) rfl
theorem wq_8_58 : Cond.methodLink "WornWigsModel" 370 yX12_canTry ∈ wg_T := wg_T_of (wg_t8 (List.mem_of_getElem? (i := 58) rfl)) rfl
theorem wq_8_60 : Cond.instanceMethod yX12_canTry ∈ wg_T := wg_T_of (wg_t8 (List.mem_of_getElem? (i := 60) rfl)) rfl
theorem wq_p7_0 : Cond.selects "WornWigsModel" yX12_canTry yX12_canTry ∈ wg_T := wg_T_of (wg_sel (q := (⟨"WornWigsModel", "canTry", "(II)Z"⟩, _)) (List.mem_append_right _ (List.mem_append_right _ (List.mem_append_right _ (List.mem_append_right _ (List.mem_append_right _ (List.mem_append_right _ (List.mem_append_left _ (List.mem_of_getElem? (i := 0) rfl))))))))) rfl
theorem wq_8_69 : Cond.code yX12_keepsAhead prog_14_method_10_code 2 (Option.none : Option Jvm.ClassFile.FieldType) ∈ wg_T := wg_T_of (wg_t8 (List.mem_of_getElem? (i := 69) rfl)) rfl
theorem wq_8_66 : Cond.methodLink "WornWigsModel" 374 yX12_keepsAhead ∈ wg_T := wg_T_of (wg_t8 (List.mem_of_getElem? (i := 66) rfl)) rfl
theorem wq_8_68 : Cond.instanceMethod yX12_keepsAhead ∈ wg_T := wg_T_of (wg_t8 (List.mem_of_getElem? (i := 68) rfl)) rfl
theorem wq_p7_2 : Cond.selects "WornWigsModel" yX12_keepsAhead yX12_keepsAhead ∈ wg_T := wg_T_of (wg_sel (q := (⟨"WornWigsModel", "keepsAhead", "()V"⟩, _)) (List.mem_append_right _ (List.mem_append_right _ (List.mem_append_right _ (List.mem_append_right _ (List.mem_append_right _ (List.mem_append_right _ (List.mem_append_left _ (List.mem_of_getElem? (i := 2) rfl))))))))) rfl
theorem wq_8_73 : Cond.code yX12_judgesCase prog_14_method_84_code 5 (Option.some Jvm.ClassFile.FieldType.int) ∈ wg_T := wg_T_of (wg_t8 (List.mem_of_getElem? (i := 73) rfl)) rfl
theorem wq_8_70 : Cond.methodLink "WornWigsModel" 377 yX12_judgesCase ∈ wg_T := wg_T_of (wg_t8 (List.mem_of_getElem? (i := 70) rfl)) rfl
theorem wq_8_72 : Cond.instanceMethod yX12_judgesCase ∈ wg_T := wg_T_of (wg_t8 (List.mem_of_getElem? (i := 72) rfl)) rfl
theorem wq_p7_3 : Cond.selects "WornWigsModel" yX12_judgesCase yX12_judgesCase ∈ wg_T := wg_T_of (wg_sel (q := (⟨"WornWigsModel", "judgesCase", "(II)I"⟩, _)) (List.mem_append_right _ (List.mem_append_right _ (List.mem_append_right _ (List.mem_append_right _ (List.mem_append_right _ (List.mem_append_right _ (List.mem_append_left _ (List.mem_of_getElem? (i := 3) rfl))))))))) rfl
theorem wq_8_145 : Cond.code yX12_rulesFor prog_14_method_86_code 5 (Option.some Jvm.ClassFile.FieldType.int) ∈ wg_T := wg_T_of (wg_t8 (List.mem_of_getElem? (i := 145) rfl)) rfl
theorem wq_8_142 : Cond.methodLink "WornWigsModel" 383 yX12_rulesFor ∈ wg_T := wg_T_of (wg_t8 (List.mem_of_getElem? (i := 142) rfl)) rfl
theorem wq_8_144 : Cond.instanceMethod yX12_rulesFor ∈ wg_T := wg_T_of (wg_t8 (List.mem_of_getElem? (i := 144) rfl)) rfl
theorem wq_p8_4 : Cond.selects "WornWigsModel" yX12_rulesFor yX12_rulesFor ∈ wg_T := wg_T_of (wg_sel (q := (⟨"WornWigsModel", "rulesFor", "(II)I"⟩, _)) (List.mem_append_right _ (List.mem_append_right _ (List.mem_append_right _ (List.mem_append_right _ (List.mem_append_right _ (List.mem_append_right _ (List.mem_append_right _ (List.mem_append_left _ (List.mem_of_getElem? (i := 4) rfl)))))))))) rfl
theorem wq_8_141 : Cond.code yX12_wearerOf prog_14_method_21_code 3 (Option.some Jvm.ClassFile.FieldType.int) ∈ wg_T := wg_T_of (wg_t8 (List.mem_of_getElem? (i := 141) rfl)) rfl
theorem wq_8_138 : Cond.methodLink "WornWigsModel" 380 yX12_wearerOf ∈ wg_T := wg_T_of (wg_t8 (List.mem_of_getElem? (i := 138) rfl)) rfl
theorem wq_8_140 : Cond.instanceMethod yX12_wearerOf ∈ wg_T := wg_T_of (wg_t8 (List.mem_of_getElem? (i := 140) rfl)) rfl
theorem wq_p8_3 : Cond.selects "WornWigsModel" yX12_wearerOf yX12_wearerOf ∈ wg_T := wg_T_of (wg_sel (q := (⟨"WornWigsModel", "wearerOf", "(I)I"⟩, _)) (List.mem_append_right _ (List.mem_append_right _ (List.mem_append_right _ (List.mem_append_right _ (List.mem_append_right _ (List.mem_append_right _ (List.mem_append_right _ (List.mem_append_left _ (List.mem_of_getElem? (i := 3) rfl)))))))))) rfl
theorem wq_8_161 : Cond.code yX12_brushes prog_14_method_90_code 4 (Option.none : Option Jvm.ClassFile.FieldType) ∈ wg_T := wg_T_of (wg_t8 (List.mem_of_getElem? (i := 161) rfl)) rfl
theorem wq_8_158 : Cond.methodLink "WornWigsModel" 392 yX12_brushes ∈ wg_T := wg_T_of (wg_t8 (List.mem_of_getElem? (i := 158) rfl)) rfl
theorem wq_8_160 : Cond.instanceMethod yX12_brushes ∈ wg_T := wg_T_of (wg_t8 (List.mem_of_getElem? (i := 160) rfl)) rfl
theorem wq_p8_8 : Cond.selects "WornWigsModel" yX12_brushes yX12_brushes ∈ wg_T := wg_T_of (wg_sel (q := (⟨"WornWigsModel", "brushes", "(II)V"⟩, _)) (List.mem_append_right _ (List.mem_append_right _ (List.mem_append_right _ (List.mem_append_right _ (List.mem_append_right _ (List.mem_append_right _ (List.mem_append_right _ (List.mem_append_left _ (List.mem_of_getElem? (i := 8) rfl)))))))))) rfl
theorem wq_8_157 : Cond.code yX12_combsOut prog_14_method_89_code 4 (Option.none : Option Jvm.ClassFile.FieldType) ∈ wg_T := wg_T_of (wg_t8 (List.mem_of_getElem? (i := 157) rfl)) rfl
theorem wq_8_154 : Cond.methodLink "WornWigsModel" 389 yX12_combsOut ∈ wg_T := wg_T_of (wg_t8 (List.mem_of_getElem? (i := 154) rfl)) rfl
theorem wq_8_156 : Cond.instanceMethod yX12_combsOut ∈ wg_T := wg_T_of (wg_t8 (List.mem_of_getElem? (i := 156) rfl)) rfl
theorem wq_p8_7 : Cond.selects "WornWigsModel" yX12_combsOut yX12_combsOut ∈ wg_T := wg_T_of (wg_sel (q := (⟨"WornWigsModel", "combsOut", "(II)V"⟩, _)) (List.mem_append_right _ (List.mem_append_right _ (List.mem_append_right _ (List.mem_append_right _ (List.mem_append_right _ (List.mem_append_right _ (List.mem_append_right _ (List.mem_append_left _ (List.mem_of_getElem? (i := 7) rfl)))))))))) rfl
theorem wq_8_153 : Cond.code yX12_isOn prog_14_method_88_code 4 (Option.none : Option Jvm.ClassFile.FieldType) ∈ wg_T := wg_T_of (wg_t8 (List.mem_of_getElem? (i := 153) rfl)) rfl
theorem wq_8_150 : Cond.methodLink "WornWigsModel" 386 yX12_isOn ∈ wg_T := wg_T_of (wg_t8 (List.mem_of_getElem? (i := 150) rfl)) rfl
theorem wq_8_152 : Cond.instanceMethod yX12_isOn ∈ wg_T := wg_T_of (wg_t8 (List.mem_of_getElem? (i := 152) rfl)) rfl
theorem wq_p8_6 : Cond.selects "WornWigsModel" yX12_isOn yX12_isOn ∈ wg_T := wg_T_of (wg_sel (q := (⟨"WornWigsModel", "isOn", "(II)V"⟩, _)) (List.mem_append_right _ (List.mem_append_right _ (List.mem_append_right _ (List.mem_append_right _ (List.mem_append_right _ (List.mem_append_right _ (List.mem_append_right _ (List.mem_append_left _ (List.mem_of_getElem? (i := 6) rfl)))))))))) rfl
theorem wq_8_133 : Cond.code yX12_isWorth prog_14_method_92_code 3 (Option.some Jvm.ClassFile.FieldType.boolean) ∈ wg_T := wg_T_of (wg_t8 (List.mem_of_getElem? (i := 133) rfl)) rfl
theorem wq_8_130 : Cond.methodLink "WornWigsModel" 395 yX12_isWorth ∈ wg_T := wg_T_of (wg_t8 (List.mem_of_getElem? (i := 130) rfl)) rfl
theorem wq_8_132 : Cond.instanceMethod yX12_isWorth ∈ wg_T := wg_T_of (wg_t8 (List.mem_of_getElem? (i := 132) rfl)) rfl
theorem wq_p8_1 : Cond.selects "WornWigsModel" yX12_isWorth yX12_isWorth ∈ wg_T := wg_T_of (wg_sel (q := (⟨"WornWigsModel", "isWorth", "(II)Z"⟩, _)) (List.mem_append_right _ (List.mem_append_right _ (List.mem_append_right _ (List.mem_append_right _ (List.mem_append_right _ (List.mem_append_right _ (List.mem_append_right _ (List.mem_append_left _ (List.mem_of_getElem? (i := 1) rfl)))))))))) rfl
theorem wq_8_137 : Cond.code yX12_canAct prog_14_method_87_code 4 (Option.some Jvm.ClassFile.FieldType.boolean) ∈ wg_T := wg_T_of (wg_t8 (List.mem_of_getElem? (i := 137) rfl)) rfl
theorem wq_8_134 : Cond.methodLink "WornWigsModel" 398 yX12_canAct ∈ wg_T := wg_T_of (wg_t8 (List.mem_of_getElem? (i := 134) rfl)) rfl
theorem wq_8_136 : Cond.instanceMethod yX12_canAct ∈ wg_T := wg_T_of (wg_t8 (List.mem_of_getElem? (i := 136) rfl)) rfl
theorem wq_p8_2 : Cond.selects "WornWigsModel" yX12_canAct yX12_canAct ∈ wg_T := wg_T_of (wg_sel (q := (⟨"WornWigsModel", "canAct", "(III)Z"⟩, _)) (List.mem_append_right _ (List.mem_append_right _ (List.mem_append_right _ (List.mem_append_right _ (List.mem_append_right _ (List.mem_append_right _ (List.mem_append_right _ (List.mem_append_left _ (List.mem_of_getElem? (i := 2) rfl)))))))))) rfl
theorem wq_8_149 : Cond.code yX12_acts prog_14_method_91_code 4 (Option.none : Option Jvm.ClassFile.FieldType) ∈ wg_T := wg_T_of (wg_t8 (List.mem_of_getElem? (i := 149) rfl)) rfl
theorem wq_8_146 : Cond.methodLink "WornWigsModel" 401 yX12_acts ∈ wg_T := wg_T_of (wg_t8 (List.mem_of_getElem? (i := 146) rfl)) rfl
theorem wq_8_148 : Cond.instanceMethod yX12_acts ∈ wg_T := wg_T_of (wg_t8 (List.mem_of_getElem? (i := 148) rfl)) rfl
theorem wq_p8_5 : Cond.selects "WornWigsModel" yX12_acts yX12_acts ∈ wg_T := wg_T_of (wg_sel (q := (⟨"WornWigsModel", "acts", "(III)V"⟩, _)) (List.mem_append_right _ (List.mem_append_right _ (List.mem_append_right _ (List.mem_append_right _ (List.mem_append_right _ (List.mem_append_right _ (List.mem_append_right _ (List.mem_append_left _ (List.mem_of_getElem? (i := 5) rfl)))))))))) rfl
theorem wq_8_195 : Cond.code yX12_youngest prog_14_method_94_code 3 (Option.some Jvm.ClassFile.FieldType.int) ∈ wg_T := wg_T_of (wg_t8 (List.mem_of_getElem? (i := 195) rfl)) rfl
theorem wq_8_192 : Cond.methodLink "WornWigsModel" 404 yX12_youngest ∈ wg_T := wg_T_of (wg_t8 (List.mem_of_getElem? (i := 192) rfl)) rfl
theorem wq_8_194 : Cond.instanceMethod yX12_youngest ∈ wg_T := wg_T_of (wg_t8 (List.mem_of_getElem? (i := 194) rfl)) rfl
theorem wq_p8_15 : Cond.selects "WornWigsModel" yX12_youngest yX12_youngest ∈ wg_T := wg_T_of (wg_sel (q := (⟨"WornWigsModel", "youngest", "()I"⟩, _)) (List.mem_append_right _ (List.mem_append_right _ (List.mem_append_right _ (List.mem_append_right _ (List.mem_append_right _ (List.mem_append_right _ (List.mem_append_right _ (List.mem_append_left _ (List.mem_of_getElem? (i := 15) rfl)))))))))) rfl
theorem wq_8_185 : Cond.code yX12_draw prog_14_method_15_code 2 (Option.some Jvm.ClassFile.FieldType.int) ∈ wg_T := wg_T_of (wg_t8 (List.mem_of_getElem? (i := 185) rfl)) rfl
theorem wq_8_182 : Cond.methodLink "WornWigsModel" 410 yX12_draw ∈ wg_T := wg_T_of (wg_t8 (List.mem_of_getElem? (i := 182) rfl)) rfl
theorem wq_8_184 : Cond.instanceMethod yX12_draw ∈ wg_T := wg_T_of (wg_t8 (List.mem_of_getElem? (i := 184) rfl)) rfl
theorem wq_p8_13 : Cond.selects "WornWigsModel" yX12_draw yX12_draw ∈ wg_T := wg_T_of (wg_sel (q := (⟨"WornWigsModel", "draw", "(I)I"⟩, _)) (List.mem_append_right _ (List.mem_append_right _ (List.mem_append_right _ (List.mem_append_right _ (List.mem_append_right _ (List.mem_append_right _ (List.mem_append_right _ (List.mem_append_left _ (List.mem_of_getElem? (i := 13) rfl)))))))))) rfl
theorem wq_8_181 : Cond.code yX12_diesOf prog_14_method_79_code 2 (Option.some Jvm.ClassFile.FieldType.int) ∈ wg_T := wg_T_of (wg_t8 (List.mem_of_getElem? (i := 181) rfl)) rfl
theorem wq_8_178 : Cond.methodLink "WornWigsModel" 407 yX12_diesOf ∈ wg_T := wg_T_of (wg_t8 (List.mem_of_getElem? (i := 178) rfl)) rfl
theorem wq_8_180 : Cond.instanceMethod yX12_diesOf ∈ wg_T := wg_T_of (wg_t8 (List.mem_of_getElem? (i := 180) rfl)) rfl
theorem wq_p8_12 : Cond.selects "WornWigsModel" yX12_diesOf yX12_diesOf ∈ wg_T := wg_T_of (wg_sel (q := (⟨"WornWigsModel", "diesOf", "(I)I"⟩, _)) (List.mem_append_right _ (List.mem_append_right _ (List.mem_append_right _ (List.mem_append_right _ (List.mem_append_right _ (List.mem_append_right _ (List.mem_append_right _ (List.mem_append_left _ (List.mem_of_getElem? (i := 12) rfl)))))))))) rfl
theorem wq_8_203 : Cond.code yX12_mothOf prog_14_method_78_code 2 (Option.some Jvm.ClassFile.FieldType.int) ∈ wg_T := wg_T_of (wg_t8 (List.mem_of_getElem? (i := 203) rfl)) rfl
theorem wq_8_200 : Cond.methodLink "WornWigsModel" 413 yX12_mothOf ∈ wg_T := wg_T_of (wg_t8 (List.mem_of_getElem? (i := 200) rfl)) rfl
theorem wq_8_202 : Cond.instanceMethod yX12_mothOf ∈ wg_T := wg_T_of (wg_t8 (List.mem_of_getElem? (i := 202) rfl)) rfl
theorem wq_p9_1 : Cond.selects "WornWigsModel" yX12_mothOf yX12_mothOf ∈ wg_T := wg_T_of (wg_sel (q := (⟨"WornWigsModel", "mothOf", "(I)I"⟩, _)) (List.mem_append_right _ (List.mem_append_right _ (List.mem_append_right _ (List.mem_append_right _ (List.mem_append_right _ (List.mem_append_right _ (List.mem_append_right _ (List.mem_append_right _ (List.mem_append_left _ (List.mem_of_getElem? (i := 1) rfl))))))))))) rfl
theorem wq_8_199 : Cond.code yX12_wears prog_14_method_97_code 3 (Option.none : Option Jvm.ClassFile.FieldType) ∈ wg_T := wg_T_of (wg_t8 (List.mem_of_getElem? (i := 199) rfl)) rfl
theorem wq_8_196 : Cond.methodLink "WornWigsModel" 422 yX12_wears ∈ wg_T := wg_T_of (wg_t8 (List.mem_of_getElem? (i := 196) rfl)) rfl
theorem wq_8_198 : Cond.instanceMethod yX12_wears ∈ wg_T := wg_T_of (wg_t8 (List.mem_of_getElem? (i := 198) rfl)) rfl
theorem wq_p9_0 : Cond.selects "WornWigsModel" yX12_wears yX12_wears ∈ wg_T := wg_T_of (wg_sel (q := (⟨"WornWigsModel", "wears", "(I)V"⟩, _)) (List.mem_append_right _ (List.mem_append_right _ (List.mem_append_right _ (List.mem_append_right _ (List.mem_append_right _ (List.mem_append_right _ (List.mem_append_right _ (List.mem_append_right _ (List.mem_append_left _ (List.mem_of_getElem? (i := 0) rfl))))))))))) rfl
theorem wq_8_177 : Cond.code yX12_isEnding prog_14_method_96_code 4 (Option.some Jvm.ClassFile.FieldType.boolean) ∈ wg_T := wg_T_of (wg_t8 (List.mem_of_getElem? (i := 177) rfl)) rfl
theorem wq_8_174 : Cond.methodLink "WornWigsModel" 416 yX12_isEnding ∈ wg_T := wg_T_of (wg_t8 (List.mem_of_getElem? (i := 174) rfl)) rfl
theorem wq_8_176 : Cond.instanceMethod yX12_isEnding ∈ wg_T := wg_T_of (wg_t8 (List.mem_of_getElem? (i := 176) rfl)) rfl
theorem wq_p8_11 : Cond.selects "WornWigsModel" yX12_isEnding yX12_isEnding ∈ wg_T := wg_T_of (wg_sel (q := (⟨"WornWigsModel", "isEnding", "(I)Z"⟩, _)) (List.mem_append_right _ (List.mem_append_right _ (List.mem_append_right _ (List.mem_append_right _ (List.mem_append_right _ (List.mem_append_right _ (List.mem_append_right _ (List.mem_append_left _ (List.mem_of_getElem? (i := 11) rfl)))))))))) rfl
theorem wq_8_191 : Cond.code yX12_dies prog_14_method_95_code 3 (Option.none : Option Jvm.ClassFile.FieldType) ∈ wg_T := wg_T_of (wg_t8 (List.mem_of_getElem? (i := 191) rfl)) rfl
theorem wq_8_188 : Cond.methodLink "WornWigsModel" 419 yX12_dies ∈ wg_T := wg_T_of (wg_t8 (List.mem_of_getElem? (i := 188) rfl)) rfl
theorem wq_8_190 : Cond.instanceMethod yX12_dies ∈ wg_T := wg_T_of (wg_t8 (List.mem_of_getElem? (i := 190) rfl)) rfl
theorem wq_p8_14 : Cond.selects "WornWigsModel" yX12_dies yX12_dies ∈ wg_T := wg_T_of (wg_sel (q := (⟨"WornWigsModel", "dies", "(I)V"⟩, _)) (List.mem_append_right _ (List.mem_append_right _ (List.mem_append_right _ (List.mem_append_right _ (List.mem_append_right _ (List.mem_append_right _ (List.mem_append_right _ (List.mem_append_left _ (List.mem_of_getElem? (i := 14) rfl)))))))))) rfl
theorem wq_8_173 : Cond.code yX12_goesBy prog_14_method_98_code 3 (Option.some Jvm.ClassFile.FieldType.int) ∈ wg_T := wg_T_of (wg_t8 (List.mem_of_getElem? (i := 173) rfl)) rfl
theorem wq_8_170 : Cond.methodLink "WornWigsModel" 425 yX12_goesBy ∈ wg_T := wg_T_of (wg_t8 (List.mem_of_getElem? (i := 170) rfl)) rfl
theorem wq_8_172 : Cond.instanceMethod yX12_goesBy ∈ wg_T := wg_T_of (wg_t8 (List.mem_of_getElem? (i := 172) rfl)) rfl
theorem wq_p8_10 : Cond.selects "WornWigsModel" yX12_goesBy yX12_goesBy ∈ wg_T := wg_T_of (wg_sel (q := (⟨"WornWigsModel", "goesBy", "()I"⟩, _)) (List.mem_append_right _ (List.mem_append_right _ (List.mem_append_right _ (List.mem_append_right _ (List.mem_append_right _ (List.mem_append_right _ (List.mem_append_right _ (List.mem_append_left _ (List.mem_of_getElem? (i := 10) rfl)))))))))) rfl
theorem wq_8_220 : Cond.constant "WornWigsModel" 428 (-100000) ∈ wg_T := wg_T_of (wg_t8 (List.mem_of_getElem? (i := 220) rfl)) rfl
theorem wq_9_4 : Cond.code yX12_endsThought prog_14_method_13_code 2 (Option.none : Option Jvm.ClassFile.FieldType) ∈ wg_T := wg_T_of (wg_t9 (List.mem_of_getElem? (i := 4) rfl)) rfl
theorem wq_9_1 : Cond.methodLink "WornWigsModel" 438 yX12_endsThought ∈ wg_T := wg_T_of (wg_t9 (List.mem_of_getElem? (i := 1) rfl)) rfl
theorem wq_9_3 : Cond.instanceMethod yX12_endsThought ∈ wg_T := wg_T_of (wg_t9 (List.mem_of_getElem? (i := 3) rfl)) rfl
theorem wq_p9_5 : Cond.selects "WornWigsModel" yX12_endsThought yX12_endsThought ∈ wg_T := wg_T_of (wg_sel (q := (⟨"WornWigsModel", "endsThought", "()V"⟩, _)) (List.mem_append_right _ (List.mem_append_right _ (List.mem_append_right _ (List.mem_append_right _ (List.mem_append_right _ (List.mem_append_right _ (List.mem_append_right _ (List.mem_append_right _ (List.mem_append_left _ (List.mem_of_getElem? (i := 5) rfl))))))))))) rfl
theorem wq_8_236 : Cond.code yX12_deadSet prog_14_method_105_code 3 (Option.some Jvm.ClassFile.FieldType.int) ∈ wg_T := wg_T_of (wg_t8 (List.mem_of_getElem? (i := 236) rfl)) rfl
theorem wq_8_233 : Cond.methodLink "WornWigsModel" 432 yX12_deadSet ∈ wg_T := wg_T_of (wg_t8 (List.mem_of_getElem? (i := 233) rfl)) rfl
theorem wq_8_235 : Cond.instanceMethod yX12_deadSet ∈ wg_T := wg_T_of (wg_t8 (List.mem_of_getElem? (i := 235) rfl)) rfl
theorem wq_p9_3 : Cond.selects "WornWigsModel" yX12_deadSet yX12_deadSet ∈ wg_T := wg_T_of (wg_sel (q := (⟨"WornWigsModel", "deadSet", "()I"⟩, _)) (List.mem_append_right _ (List.mem_append_right _ (List.mem_append_right _ (List.mem_append_right _ (List.mem_append_right _ (List.mem_append_right _ (List.mem_append_right _ (List.mem_append_right _ (List.mem_append_left _ (List.mem_of_getElem? (i := 3) rfl))))))))))) rfl
theorem wq_9_0 : Cond.code yX12_onesOf prog_14_method_7_code 4 (Option.some Jvm.ClassFile.FieldType.int) ∈ wg_T := wg_T_of (wg_t9 (List.mem_of_getElem? (i := 0) rfl)) rfl
theorem wq_8_237 : Cond.methodLink "WornWigsModel" 435 yX12_onesOf ∈ wg_T := wg_T_of (wg_t8 (List.mem_of_getElem? (i := 237) rfl)) rfl
theorem wq_8_239 : Cond.instanceMethod yX12_onesOf ∈ wg_T := wg_T_of (wg_t8 (List.mem_of_getElem? (i := 239) rfl)) rfl
theorem wq_p9_4 : Cond.selects "WornWigsModel" yX12_onesOf yX12_onesOf ∈ wg_T := wg_T_of (wg_sel (q := (⟨"WornWigsModel", "onesOf", "(I)I"⟩, _)) (List.mem_append_right _ (List.mem_append_right _ (List.mem_append_right _ (List.mem_append_right _ (List.mem_append_right _ (List.mem_append_right _ (List.mem_append_right _ (List.mem_append_right _ (List.mem_append_left _ (List.mem_of_getElem? (i := 4) rfl))))))))))) rfl
theorem wq_8_232 : Cond.code yX12_thinks prog_14_method_12_code 2 (Option.none : Option Jvm.ClassFile.FieldType) ∈ wg_T := wg_T_of (wg_t8 (List.mem_of_getElem? (i := 232) rfl)) rfl
theorem wq_8_229 : Cond.methodLink "WornWigsModel" 429 yX12_thinks ∈ wg_T := wg_T_of (wg_t8 (List.mem_of_getElem? (i := 229) rfl)) rfl
theorem wq_8_231 : Cond.instanceMethod yX12_thinks ∈ wg_T := wg_T_of (wg_t8 (List.mem_of_getElem? (i := 231) rfl)) rfl
theorem wq_p9_2 : Cond.selects "WornWigsModel" yX12_thinks yX12_thinks ∈ wg_T := wg_T_of (wg_sel (q := (⟨"WornWigsModel", "thinks", "()V"⟩, _)) (List.mem_append_right _ (List.mem_append_right _ (List.mem_append_right _ (List.mem_append_right _ (List.mem_append_right _ (List.mem_append_right _ (List.mem_append_right _ (List.mem_append_right _ (List.mem_append_left _ (List.mem_of_getElem? (i := 2) rfl))))))))))) rfl
theorem wq_9_24 : Cond.code yX12_has prog_14_method_8_code 3 (Option.some Jvm.ClassFile.FieldType.boolean) ∈ wg_T := wg_T_of (wg_t9 (List.mem_of_getElem? (i := 24) rfl)) rfl
theorem wq_9_21 : Cond.methodLink "WornWigsModel" 441 yX12_has ∈ wg_T := wg_T_of (wg_t9 (List.mem_of_getElem? (i := 21) rfl)) rfl
theorem wq_9_23 : Cond.instanceMethod yX12_has ∈ wg_T := wg_T_of (wg_t9 (List.mem_of_getElem? (i := 23) rfl)) rfl
theorem wq_p9_7 : Cond.selects "WornWigsModel" yX12_has yX12_has ∈ wg_T := wg_T_of (wg_sel (q := (⟨"WornWigsModel", "has", "(II)Z"⟩, _)) (List.mem_append_right _ (List.mem_append_right _ (List.mem_append_right _ (List.mem_append_right _ (List.mem_append_right _ (List.mem_append_right _ (List.mem_append_right _ (List.mem_append_right _ (List.mem_append_left _ (List.mem_of_getElem? (i := 7) rfl))))))))))) rfl
theorem wq_9_20 : Cond.code yX12_agrees prog_14_method_109_code 5 (Option.some Jvm.ClassFile.FieldType.boolean) ∈ wg_T := wg_T_of (wg_t9 (List.mem_of_getElem? (i := 20) rfl)) rfl
theorem wq_9_17 : Cond.methodLink "WornWigsModel" 444 yX12_agrees ∈ wg_T := wg_T_of (wg_t9 (List.mem_of_getElem? (i := 17) rfl)) rfl
theorem wq_9_19 : Cond.instanceMethod yX12_agrees ∈ wg_T := wg_T_of (wg_t9 (List.mem_of_getElem? (i := 19) rfl)) rfl
theorem wq_p9_6 : Cond.selects "WornWigsModel" yX12_agrees yX12_agrees ∈ wg_T := wg_T_of (wg_sel (q := (⟨"WornWigsModel", "agrees", "(II)Z"⟩, _)) (List.mem_append_right _ (List.mem_append_right _ (List.mem_append_right _ (List.mem_append_right _ (List.mem_append_right _ (List.mem_append_right _ (List.mem_append_right _ (List.mem_append_right _ (List.mem_append_left _ (List.mem_of_getElem? (i := 6) rfl))))))))))) rfl
theorem wq_9_36 : Cond.code yX12_rulingFor prog_14_method_111_code 5 (Option.some Jvm.ClassFile.FieldType.int) ∈ wg_T := wg_T_of (wg_t9 (List.mem_of_getElem? (i := 36) rfl)) rfl
theorem wq_9_33 : Cond.methodLink "WornWigsModel" 447 yX12_rulingFor ∈ wg_T := wg_T_of (wg_t9 (List.mem_of_getElem? (i := 33) rfl)) rfl
theorem wq_9_35 : Cond.instanceMethod yX12_rulingFor ∈ wg_T := wg_T_of (wg_t9 (List.mem_of_getElem? (i := 35) rfl)) rfl
theorem wq_p9_9 : Cond.selects "WornWigsModel" yX12_rulingFor yX12_rulingFor ∈ wg_T := wg_T_of (wg_sel (q := (⟨"WornWigsModel", "rulingFor", "(II)I"⟩, _)) (List.mem_append_right _ (List.mem_append_right _ (List.mem_append_right _ (List.mem_append_right _ (List.mem_append_right _ (List.mem_append_right _ (List.mem_append_right _ (List.mem_append_right _ (List.mem_append_left _ (List.mem_of_getElem? (i := 9) rfl))))))))))) rfl
theorem wq_9_32 : Cond.code yX12_unlike prog_14_method_112_code 6 (Option.some Jvm.ClassFile.FieldType.int) ∈ wg_T := wg_T_of (wg_t9 (List.mem_of_getElem? (i := 32) rfl)) rfl
theorem wq_9_29 : Cond.methodLink "WornWigsModel" 450 yX12_unlike ∈ wg_T := wg_T_of (wg_t9 (List.mem_of_getElem? (i := 29) rfl)) rfl
theorem wq_9_31 : Cond.instanceMethod yX12_unlike ∈ wg_T := wg_T_of (wg_t9 (List.mem_of_getElem? (i := 31) rfl)) rfl
theorem wq_p9_8 : Cond.selects "WornWigsModel" yX12_unlike yX12_unlike ∈ wg_T := wg_T_of (wg_sel (q := (⟨"WornWigsModel", "unlike", "(II)I"⟩, _)) (List.mem_append_right _ (List.mem_append_right _ (List.mem_append_right _ (List.mem_append_right _ (List.mem_append_right _ (List.mem_append_right _ (List.mem_append_right _ (List.mem_append_right _ (List.mem_append_left _ (List.mem_of_getElem? (i := 8) rfl))))))))))) rfl
theorem wq_9_52 : Cond.code yX12_afterOf prog_14_method_115_code 2 (Option.some Jvm.ClassFile.FieldType.int) ∈ wg_T := wg_T_of (wg_t9 (List.mem_of_getElem? (i := 52) rfl)) rfl
theorem wq_9_49 : Cond.methodLink "WornWigsModel" 453 yX12_afterOf ∈ wg_T := wg_T_of (wg_t9 (List.mem_of_getElem? (i := 49) rfl)) rfl
theorem wq_9_51 : Cond.instanceMethod yX12_afterOf ∈ wg_T := wg_T_of (wg_t9 (List.mem_of_getElem? (i := 51) rfl)) rfl
theorem wq_p9_11 : Cond.selects "WornWigsModel" yX12_afterOf yX12_afterOf ∈ wg_T := wg_T_of (wg_sel (q := (⟨"WornWigsModel", "afterOf", "(I)I"⟩, _)) (List.mem_append_right _ (List.mem_append_right _ (List.mem_append_right _ (List.mem_append_right _ (List.mem_append_right _ (List.mem_append_right _ (List.mem_append_right _ (List.mem_append_right _ (List.mem_append_left _ (List.mem_of_getElem? (i := 11) rfl))))))))))) rfl
theorem wq_9_60 : Cond.code yX12_backFrom prog_14_method_116_code 4 (Option.some Jvm.ClassFile.FieldType.int) ∈ wg_T := wg_T_of (wg_t9 (List.mem_of_getElem? (i := 60) rfl)) rfl
theorem wq_9_57 : Cond.methodLink "WornWigsModel" 456 yX12_backFrom ∈ wg_T := wg_T_of (wg_t9 (List.mem_of_getElem? (i := 57) rfl)) rfl
theorem wq_9_59 : Cond.instanceMethod yX12_backFrom ∈ wg_T := wg_T_of (wg_t9 (List.mem_of_getElem? (i := 59) rfl)) rfl
theorem wq_p9_13 : Cond.selects "WornWigsModel" yX12_backFrom yX12_backFrom ∈ wg_T := wg_T_of (wg_sel (q := (⟨"WornWigsModel", "backFrom", "(I)I"⟩, _)) (List.mem_append_right _ (List.mem_append_right _ (List.mem_append_right _ (List.mem_append_right _ (List.mem_append_right _ (List.mem_append_right _ (List.mem_append_right _ (List.mem_append_right _ (List.mem_append_left _ (List.mem_of_getElem? (i := 13) rfl))))))))))) rfl
theorem wq_9_56 : Cond.code yX12_commonOf prog_14_method_118_code 6 (Option.some Jvm.ClassFile.FieldType.int) ∈ wg_T := wg_T_of (wg_t9 (List.mem_of_getElem? (i := 56) rfl)) rfl
theorem wq_9_53 : Cond.methodLink "WornWigsModel" 462 yX12_commonOf ∈ wg_T := wg_T_of (wg_t9 (List.mem_of_getElem? (i := 53) rfl)) rfl
theorem wq_9_55 : Cond.instanceMethod yX12_commonOf ∈ wg_T := wg_T_of (wg_t9 (List.mem_of_getElem? (i := 55) rfl)) rfl
theorem wq_p9_12 : Cond.selects "WornWigsModel" yX12_commonOf yX12_commonOf ∈ wg_T := wg_T_of (wg_sel (q := (⟨"WornWigsModel", "commonOf", "(II)I"⟩, _)) (List.mem_append_right _ (List.mem_append_right _ (List.mem_append_right _ (List.mem_append_right _ (List.mem_append_right _ (List.mem_append_right _ (List.mem_append_right _ (List.mem_append_right _ (List.mem_append_left _ (List.mem_of_getElem? (i := 12) rfl))))))))))) rfl
theorem wq_9_48 : Cond.code yX12_rootOf prog_14_method_117_code 4 (Option.some Jvm.ClassFile.FieldType.int) ∈ wg_T := wg_T_of (wg_t9 (List.mem_of_getElem? (i := 48) rfl)) rfl
theorem wq_9_45 : Cond.methodLink "WornWigsModel" 459 yX12_rootOf ∈ wg_T := wg_T_of (wg_t9 (List.mem_of_getElem? (i := 45) rfl)) rfl
theorem wq_9_47 : Cond.instanceMethod yX12_rootOf ∈ wg_T := wg_T_of (wg_t9 (List.mem_of_getElem? (i := 47) rfl)) rfl
theorem wq_p9_10 : Cond.selects "WornWigsModel" yX12_rootOf yX12_rootOf ∈ wg_T := wg_T_of (wg_sel (q := (⟨"WornWigsModel", "rootOf", "(I)I"⟩, _)) (List.mem_append_right _ (List.mem_append_right _ (List.mem_append_right _ (List.mem_append_right _ (List.mem_append_right _ (List.mem_append_right _ (List.mem_append_right _ (List.mem_append_right _ (List.mem_append_left _ (List.mem_of_getElem? (i := 10) rfl))))))))))) rfl
theorem wq_9_72 : Cond.code yX12_savedBy prog_14_method_121_code 4 (Option.some Jvm.ClassFile.FieldType.int) ∈ wg_T := wg_T_of (wg_t9 (List.mem_of_getElem? (i := 72) rfl)) rfl
theorem wq_9_69 : Cond.methodLink "WornWigsModel" 468 yX12_savedBy ∈ wg_T := wg_T_of (wg_t9 (List.mem_of_getElem? (i := 69) rfl)) rfl
theorem wq_9_71 : Cond.instanceMethod yX12_savedBy ∈ wg_T := wg_T_of (wg_t9 (List.mem_of_getElem? (i := 71) rfl)) rfl
theorem wq_p9_15 : Cond.selects "WornWigsModel" yX12_savedBy yX12_savedBy ∈ wg_T := wg_T_of (wg_sel (q := (⟨"WornWigsModel", "savedBy", "(I)I"⟩, _)) (List.mem_append_right _ (List.mem_append_right _ (List.mem_append_right _ (List.mem_append_right _ (List.mem_append_right _ (List.mem_append_right _ (List.mem_append_right _ (List.mem_append_right _ (List.mem_append_left _ (List.mem_of_getElem? (i := 15) rfl))))))))))) rfl
theorem wq_9_68 : Cond.code yX12_hairOf prog_14_method_120_code 4 (Option.some Jvm.ClassFile.FieldType.int) ∈ wg_T := wg_T_of (wg_t9 (List.mem_of_getElem? (i := 68) rfl)) rfl
theorem wq_9_65 : Cond.methodLink "WornWigsModel" 465 yX12_hairOf ∈ wg_T := wg_T_of (wg_t9 (List.mem_of_getElem? (i := 65) rfl)) rfl
theorem wq_9_67 : Cond.instanceMethod yX12_hairOf ∈ wg_T := wg_T_of (wg_t9 (List.mem_of_getElem? (i := 67) rfl)) rfl
theorem wq_p9_14 : Cond.selects "WornWigsModel" yX12_hairOf yX12_hairOf ∈ wg_T := wg_T_of (wg_sel (q := (⟨"WornWigsModel", "hairOf", "(I)I"⟩, _)) (List.mem_append_right _ (List.mem_append_right _ (List.mem_append_right _ (List.mem_append_right _ (List.mem_append_right _ (List.mem_append_right _ (List.mem_append_right _ (List.mem_append_right _ (List.mem_append_left _ (List.mem_of_getElem? (i := 14) rfl))))))))))) rfl
theorem wq_9_80 : Cond.code yX12_findingSet prog_14_method_123_code 4 (Option.some Jvm.ClassFile.FieldType.int) ∈ wg_T := wg_T_of (wg_t9 (List.mem_of_getElem? (i := 80) rfl)) rfl
theorem wq_9_77 : Cond.methodLink "WornWigsModel" 471 yX12_findingSet ∈ wg_T := wg_T_of (wg_t9 (List.mem_of_getElem? (i := 77) rfl)) rfl
theorem wq_9_79 : Cond.instanceMethod yX12_findingSet ∈ wg_T := wg_T_of (wg_t9 (List.mem_of_getElem? (i := 79) rfl)) rfl
theorem wq_p10_0 : Cond.selects "WornWigsModel" yX12_findingSet yX12_findingSet ∈ wg_T := wg_T_of (wg_sel (q := (⟨"WornWigsModel", "findingSet", "(I)I"⟩, _)) (List.mem_append_right _ (List.mem_append_right _ (List.mem_append_right _ (List.mem_append_right _ (List.mem_append_right _ (List.mem_append_right _ (List.mem_append_right _ (List.mem_append_right _ (List.mem_append_right _ (List.mem_of_getElem? (i := 0) rfl))))))))))) rfl
theorem wq_6_171 : Cond.fieldLink "WornWigsModel" 474 "WornWigsModel" "traitMany" "I" ∈ wg_T := wg_T_of (wg_t6 (List.mem_of_getElem? (i := 171) rfl)) rfl
theorem wq_6_172 : Cond.fieldLink "WornWigsModel" 83 "WornWigsModel" "traitWhat" "[I" ∈ wg_T := wg_T_of (wg_t6 (List.mem_of_getElem? (i := 172) rfl)) rfl
theorem wq_6_173 : Cond.fieldLink "WornWigsModel" 86 "WornWigsModel" "traitFor" "[I" ∈ wg_T := wg_T_of (wg_t6 (List.mem_of_getElem? (i := 173) rfl)) rfl
theorem wq_6_174 : Cond.fieldLink "WornWigsModel" 89 "WornWigsModel" "traitIs" "[I" ∈ wg_T := wg_T_of (wg_t6 (List.mem_of_getElem? (i := 174) rfl)) rfl
theorem wq_9_96 : Cond.code yX12_hasTrait prog_14_method_126_code 4 (Option.some Jvm.ClassFile.FieldType.boolean) ∈ wg_T := wg_T_of (wg_t9 (List.mem_of_getElem? (i := 96) rfl)) rfl
theorem wq_9_93 : Cond.methodLink "WornWigsModel" 477 yX12_hasTrait ∈ wg_T := wg_T_of (wg_t9 (List.mem_of_getElem? (i := 93) rfl)) rfl
theorem wq_9_95 : Cond.instanceMethod yX12_hasTrait ∈ wg_T := wg_T_of (wg_t9 (List.mem_of_getElem? (i := 95) rfl)) rfl
theorem wq_p10_2 : Cond.selects "WornWigsModel" yX12_hasTrait yX12_hasTrait ∈ wg_T := wg_T_of (wg_sel (q := (⟨"WornWigsModel", "hasTrait", "(III)Z"⟩, _)) (List.mem_append_right _ (List.mem_append_right _ (List.mem_append_right _ (List.mem_append_right _ (List.mem_append_right _ (List.mem_append_right _ (List.mem_append_right _ (List.mem_append_right _ (List.mem_append_right _ (List.mem_of_getElem? (i := 2) rfl))))))))))) rfl
theorem wq_9_92 : Cond.code yX12_whoseSet prog_14_method_127_code 5 (Option.some Jvm.ClassFile.FieldType.int) ∈ wg_T := wg_T_of (wg_t9 (List.mem_of_getElem? (i := 92) rfl)) rfl
theorem wq_9_89 : Cond.methodLink "WornWigsModel" 480 yX12_whoseSet ∈ wg_T := wg_T_of (wg_t9 (List.mem_of_getElem? (i := 89) rfl)) rfl
theorem wq_9_91 : Cond.instanceMethod yX12_whoseSet ∈ wg_T := wg_T_of (wg_t9 (List.mem_of_getElem? (i := 91) rfl)) rfl
theorem wq_p10_1 : Cond.selects "WornWigsModel" yX12_whoseSet yX12_whoseSet ∈ wg_T := wg_T_of (wg_sel (q := (⟨"WornWigsModel", "whoseSet", "()I"⟩, _)) (List.mem_append_right _ (List.mem_append_right _ (List.mem_append_right _ (List.mem_append_right _ (List.mem_append_right _ (List.mem_append_right _ (List.mem_append_right _ (List.mem_append_right _ (List.mem_append_right _ (List.mem_of_getElem? (i := 1) rfl))))))))))) rfl
theorem wq_9_97 : Cond.constant "WornWigsModel" 483 (100000000) ∈ wg_T := wg_T_of (wg_t9 (List.mem_of_getElem? (i := 97) rfl)) rfl
theorem wq_6_176 : Cond.fieldLink "WornWigsModel" 92 "WornWigsModel" "cites" "[I" ∈ wg_T := wg_T_of (wg_t6 (List.mem_of_getElem? (i := 176) rfl)) rfl
theorem wq_6_175 : Cond.fieldLink "WornWigsModel" 484 "WornWigsModel" "citeMany" "I" ∈ wg_T := wg_T_of (wg_t6 (List.mem_of_getElem? (i := 175) rfl)) rfl
theorem wq_6_177 : Cond.fieldLink "WornWigsModel" 95 "WornWigsModel" "chained" "[I" ∈ wg_T := wg_T_of (wg_t6 (List.mem_of_getElem? (i := 177) rfl)) rfl
theorem wq_9_113 : Cond.code yX12_longestFrom prog_14_method_130_code 4 (Option.some Jvm.ClassFile.FieldType.int) ∈ wg_T := wg_T_of (wg_t9 (List.mem_of_getElem? (i := 113) rfl)) rfl
theorem wq_9_110 : Cond.methodLink "WornWigsModel" 487 yX12_longestFrom ∈ wg_T := wg_T_of (wg_t9 (List.mem_of_getElem? (i := 110) rfl)) rfl
theorem wq_9_112 : Cond.instanceMethod yX12_longestFrom ∈ wg_T := wg_T_of (wg_t9 (List.mem_of_getElem? (i := 112) rfl)) rfl
theorem wq_p10_4 : Cond.selects "WornWigsModel" yX12_longestFrom yX12_longestFrom ∈ wg_T := wg_T_of (wg_sel (q := (⟨"WornWigsModel", "longestFrom", "(I)I"⟩, _)) (List.mem_append_right _ (List.mem_append_right _ (List.mem_append_right _ (List.mem_append_right _ (List.mem_append_right _ (List.mem_append_right _ (List.mem_append_right _ (List.mem_append_right _ (List.mem_append_right _ (List.mem_of_getElem? (i := 4) rfl))))))))))) rfl
theorem wq_9_109 : Cond.code yX12_findsChained prog_14_method_131_code 3 (Option.some Jvm.ClassFile.FieldType.boolean) ∈ wg_T := wg_T_of (wg_t9 (List.mem_of_getElem? (i := 109) rfl)) rfl
theorem wq_9_106 : Cond.methodLink "WornWigsModel" 490 yX12_findsChained ∈ wg_T := wg_T_of (wg_t9 (List.mem_of_getElem? (i := 106) rfl)) rfl
theorem wq_9_108 : Cond.instanceMethod yX12_findsChained ∈ wg_T := wg_T_of (wg_t9 (List.mem_of_getElem? (i := 108) rfl)) rfl
theorem wq_p10_3 : Cond.selects "WornWigsModel" yX12_findsChained yX12_findsChained ∈ wg_T := wg_T_of (wg_sel (q := (⟨"WornWigsModel", "findsChained", "()Z"⟩, _)) (List.mem_append_right _ (List.mem_append_right _ (List.mem_append_right _ (List.mem_append_right _ (List.mem_append_right _ (List.mem_append_right _ (List.mem_append_right _ (List.mem_append_right _ (List.mem_append_right _ (List.mem_of_getElem? (i := 3) rfl))))))))))) rfl
theorem wq_6_178 : Cond.fieldLink "WornWigsModel" 98 "WornWigsModel" "parcels" "[I" ∈ wg_T := wg_T_of (wg_t6 (List.mem_of_getElem? (i := 178) rfl)) rfl
theorem wq_9_129 : Cond.code yX12_worthOf prog_14_method_134_code 6 (Option.some Jvm.ClassFile.FieldType.int) ∈ wg_T := wg_T_of (wg_t9 (List.mem_of_getElem? (i := 129) rfl)) rfl
theorem wq_9_126 : Cond.methodLink "WornWigsModel" 493 yX12_worthOf ∈ wg_T := wg_T_of (wg_t9 (List.mem_of_getElem? (i := 126) rfl)) rfl
theorem wq_9_128 : Cond.instanceMethod yX12_worthOf ∈ wg_T := wg_T_of (wg_t9 (List.mem_of_getElem? (i := 128) rfl)) rfl
theorem wq_p10_6 : Cond.selects "WornWigsModel" yX12_worthOf yX12_worthOf ∈ wg_T := wg_T_of (wg_sel (q := (⟨"WornWigsModel", "worthOf", "(III)I"⟩, _)) (List.mem_append_right _ (List.mem_append_right _ (List.mem_append_right _ (List.mem_append_right _ (List.mem_append_right _ (List.mem_append_right _ (List.mem_append_right _ (List.mem_append_right _ (List.mem_append_right _ (List.mem_of_getElem? (i := 6) rfl))))))))))) rfl
theorem wq_9_125 : Cond.code yX12_lesserPart prog_14_method_135_code 2 (Option.some Jvm.ClassFile.FieldType.int) ∈ wg_T := wg_T_of (wg_t9 (List.mem_of_getElem? (i := 125) rfl)) rfl
theorem wq_9_122 : Cond.methodLink "WornWigsModel" 496 yX12_lesserPart ∈ wg_T := wg_T_of (wg_t9 (List.mem_of_getElem? (i := 122) rfl)) rfl
theorem wq_9_124 : Cond.instanceMethod yX12_lesserPart ∈ wg_T := wg_T_of (wg_t9 (List.mem_of_getElem? (i := 124) rfl)) rfl
theorem wq_p10_5 : Cond.selects "WornWigsModel" yX12_lesserPart yX12_lesserPart ∈ wg_T := wg_T_of (wg_sel (q := (⟨"WornWigsModel", "lesserPart", "(I)I"⟩, _)) (List.mem_append_right _ (List.mem_append_right _ (List.mem_append_right _ (List.mem_append_right _ (List.mem_append_right _ (List.mem_append_right _ (List.mem_append_right _ (List.mem_append_right _ (List.mem_append_right _ (List.mem_of_getElem? (i := 5) rfl))))))))))) rfl
theorem wq_6_179 : Cond.fieldLink "WornWigsModel" 499 "WornWigsModel" "hardMany" "I" ∈ wg_T := wg_T_of (wg_t6 (List.mem_of_getElem? (i := 179) rfl)) rfl
theorem wq_6_180 : Cond.fieldLink "WornWigsModel" 101 "WornWigsModel" "hardHours" "[I" ∈ wg_T := wg_T_of (wg_t6 (List.mem_of_getElem? (i := 180) rfl)) rfl
theorem wq_6_181 : Cond.fieldLink "WornWigsModel" 104 "WornWigsModel" "hardDue" "[I" ∈ wg_T := wg_T_of (wg_t6 (List.mem_of_getElem? (i := 181) rfl)) rfl
theorem wq_6_182 : Cond.fieldLink "WornWigsModel" 107 "WornWigsModel" "lateFrom" "[I" ∈ wg_T := wg_T_of (wg_t6 (List.mem_of_getElem? (i := 182) rfl)) rfl
theorem wq_9_145 : Cond.code yX12_lateBy prog_14_method_138_code 5 (Option.some Jvm.ClassFile.FieldType.int) ∈ wg_T := wg_T_of (wg_t9 (List.mem_of_getElem? (i := 145) rfl)) rfl
theorem wq_9_142 : Cond.methodLink "WornWigsModel" 502 yX12_lateBy ∈ wg_T := wg_T_of (wg_t9 (List.mem_of_getElem? (i := 142) rfl)) rfl
theorem wq_9_144 : Cond.instanceMethod yX12_lateBy ∈ wg_T := wg_T_of (wg_t9 (List.mem_of_getElem? (i := 144) rfl)) rfl
theorem wq_p10_8 : Cond.selects "WornWigsModel" yX12_lateBy yX12_lateBy ∈ wg_T := wg_T_of (wg_sel (q := (⟨"WornWigsModel", "lateBy", "(II)I"⟩, _)) (List.mem_append_right _ (List.mem_append_right _ (List.mem_append_right _ (List.mem_append_right _ (List.mem_append_right _ (List.mem_append_right _ (List.mem_append_right _ (List.mem_append_right _ (List.mem_append_right _ (List.mem_of_getElem? (i := 8) rfl))))))))))) rfl
theorem wq_9_141 : Cond.code yX12_findsLate prog_14_method_139_code 4 (Option.none : Option Jvm.ClassFile.FieldType) ∈ wg_T := wg_T_of (wg_t9 (List.mem_of_getElem? (i := 141) rfl)) rfl
theorem wq_9_138 : Cond.methodLink "WornWigsModel" 505 yX12_findsLate ∈ wg_T := wg_T_of (wg_t9 (List.mem_of_getElem? (i := 138) rfl)) rfl
theorem wq_9_140 : Cond.instanceMethod yX12_findsLate ∈ wg_T := wg_T_of (wg_t9 (List.mem_of_getElem? (i := 140) rfl)) rfl
theorem wq_p10_7 : Cond.selects "WornWigsModel" yX12_findsLate yX12_findsLate ∈ wg_T := wg_T_of (wg_sel (q := (⟨"WornWigsModel", "findsLate", "()V"⟩, _)) (List.mem_append_right _ (List.mem_append_right _ (List.mem_append_right _ (List.mem_append_right _ (List.mem_append_right _ (List.mem_append_right _ (List.mem_append_right _ (List.mem_append_right _ (List.mem_append_right _ (List.mem_of_getElem? (i := 7) rfl))))))))))) rfl
theorem wq_6_185 : Cond.fieldLink "WornWigsModel" 508 "WornWigsModel" "keptAt" "I" ∈ wg_T := wg_T_of (wg_t6 (List.mem_of_getElem? (i := 185) rfl)) rfl
theorem wq_6_183 : Cond.fieldLink "WornWigsModel" 511 "WornWigsModel" "isTaking" "Z" ∈ wg_T := wg_T_of (wg_t6 (List.mem_of_getElem? (i := 183) rfl)) rfl
theorem wq_6_186 : Cond.fieldLink "WornWigsModel" 110 "WornWigsModel" "images" "[I" ∈ wg_T := wg_T_of (wg_t6 (List.mem_of_getElem? (i := 186) rfl)) rfl
theorem wq_9_157 : Cond.code yX12_keeps prog_14_method_142_code 2 (Option.some Jvm.ClassFile.FieldType.int) ∈ wg_T := wg_T_of (wg_t9 (List.mem_of_getElem? (i := 157) rfl)) rfl
theorem wq_9_154 : Cond.methodLink "WornWigsModel" 514 yX12_keeps ∈ wg_T := wg_T_of (wg_t9 (List.mem_of_getElem? (i := 154) rfl)) rfl
theorem wq_9_156 : Cond.instanceMethod yX12_keeps ∈ wg_T := wg_T_of (wg_t9 (List.mem_of_getElem? (i := 156) rfl)) rfl
theorem wq_p10_9 : Cond.selects "WornWigsModel" yX12_keeps yX12_keeps ∈ wg_T := wg_T_of (wg_sel (q := (⟨"WornWigsModel", "keeps", "(I)I"⟩, _)) (List.mem_append_right _ (List.mem_append_right _ (List.mem_append_right _ (List.mem_append_right _ (List.mem_append_right _ (List.mem_append_right _ (List.mem_append_right _ (List.mem_append_right _ (List.mem_append_right _ (List.mem_of_getElem? (i := 9) rfl))))))))))) rfl
theorem wq_9_169 : Cond.code yX12_keepsLaw prog_14_method_143_code 2 (Option.none : Option Jvm.ClassFile.FieldType) ∈ wg_T := wg_T_of (wg_t9 (List.mem_of_getElem? (i := 169) rfl)) rfl
theorem wq_9_166 : Cond.methodLink "WornWigsModel" 526 yX12_keepsLaw ∈ wg_T := wg_T_of (wg_t9 (List.mem_of_getElem? (i := 166) rfl)) rfl
theorem wq_9_168 : Cond.instanceMethod yX12_keepsLaw ∈ wg_T := wg_T_of (wg_t9 (List.mem_of_getElem? (i := 168) rfl)) rfl
theorem wq_p10_12 : Cond.selects "WornWigsModel" yX12_keepsLaw yX12_keepsLaw ∈ wg_T := wg_T_of (wg_sel (q := (⟨"WornWigsModel", "keepsLaw", "()V"⟩, _)) (List.mem_append_right _ (List.mem_append_right _ (List.mem_append_right _ (List.mem_append_right _ (List.mem_append_right _ (List.mem_append_right _ (List.mem_append_right _ (List.mem_append_right _ (List.mem_append_right _ (List.mem_of_getElem? (i := 12) rfl))))))))))) rfl
theorem wq_9_161 : Cond.code yX12_keepsMany prog_14_method_144_code 1 (Option.none : Option Jvm.ClassFile.FieldType) ∈ wg_T := wg_T_of (wg_t9 (List.mem_of_getElem? (i := 161) rfl)) rfl
theorem wq_9_158 : Cond.methodLink "WornWigsModel" 520 yX12_keepsMany ∈ wg_T := wg_T_of (wg_t9 (List.mem_of_getElem? (i := 158) rfl)) rfl
theorem wq_9_160 : Cond.instanceMethod yX12_keepsMany ∈ wg_T := wg_T_of (wg_t9 (List.mem_of_getElem? (i := 160) rfl)) rfl
theorem wq_p10_10 : Cond.selects "WornWigsModel" yX12_keepsMany yX12_keepsMany ∈ wg_T := wg_T_of (wg_sel (q := (⟨"WornWigsModel", "keepsMany", "()V"⟩, _)) (List.mem_append_right _ (List.mem_append_right _ (List.mem_append_right _ (List.mem_append_right _ (List.mem_append_right _ (List.mem_append_right _ (List.mem_append_right _ (List.mem_append_right _ (List.mem_append_right _ (List.mem_of_getElem? (i := 10) rfl))))))))))) rfl
theorem wq_9_165 : Cond.code yX12_keepsTold prog_14_method_145_code 2 (Option.none : Option Jvm.ClassFile.FieldType) ∈ wg_T := wg_T_of (wg_t9 (List.mem_of_getElem? (i := 165) rfl)) rfl
theorem wq_9_162 : Cond.methodLink "WornWigsModel" 523 yX12_keepsTold ∈ wg_T := wg_T_of (wg_t9 (List.mem_of_getElem? (i := 162) rfl)) rfl
theorem wq_9_164 : Cond.instanceMethod yX12_keepsTold ∈ wg_T := wg_T_of (wg_t9 (List.mem_of_getElem? (i := 164) rfl)) rfl
theorem wq_p10_11 : Cond.selects "WornWigsModel" yX12_keepsTold yX12_keepsTold ∈ wg_T := wg_T_of (wg_sel (q := (⟨"WornWigsModel", "keepsTold", "()V"⟩, _)) (List.mem_append_right _ (List.mem_append_right _ (List.mem_append_right _ (List.mem_append_right _ (List.mem_append_right _ (List.mem_append_right _ (List.mem_append_right _ (List.mem_append_right _ (List.mem_append_right _ (List.mem_of_getElem? (i := 11) rfl))))))))))) rfl
theorem wq_6_184 : Cond.fieldLink "WornWigsModel" 517 "WornWigsModel" "hasImage" "Z" ∈ wg_T := wg_T_of (wg_t6 (List.mem_of_getElem? (i := 184) rfl)) rfl
theorem wq_9_177 : Cond.code yX12_openSet prog_14_method_147_code 3 (Option.some Jvm.ClassFile.FieldType.int) ∈ wg_T := wg_T_of (wg_t9 (List.mem_of_getElem? (i := 177) rfl)) rfl
theorem wq_9_174 : Cond.methodLink "WornWigsModel" 529 yX12_openSet ∈ wg_T := wg_T_of (wg_t9 (List.mem_of_getElem? (i := 174) rfl)) rfl
theorem wq_9_176 : Cond.instanceMethod yX12_openSet ∈ wg_T := wg_T_of (wg_t9 (List.mem_of_getElem? (i := 176) rfl)) rfl
theorem wq_p10_13 : Cond.selects "WornWigsModel" yX12_openSet yX12_openSet ∈ wg_T := wg_T_of (wg_sel (q := (⟨"WornWigsModel", "openSet", "()I"⟩, _)) (List.mem_append_right _ (List.mem_append_right _ (List.mem_append_right _ (List.mem_append_right _ (List.mem_append_right _ (List.mem_append_right _ (List.mem_append_right _ (List.mem_append_right _ (List.mem_append_right _ (List.mem_of_getElem? (i := 13) rfl))))))))))) rfl
theorem wq_4_108 : Cond.methodLink "WornWigs$Reader" 95 yJ0_charAt_5068e ∈ wg_T := wg_T_of (wg_t4 (List.mem_of_getElem? (i := 108) rfl)) rfl
theorem wq_4_109 : Cond.instanceMethod yJ0_charAt_5068e ∈ wg_T := wg_T_of (wg_t4 (List.mem_of_getElem? (i := 109) rfl)) rfl
theorem wq_4_110 : Cond.selects "java/lang/String" yJ0_charAt_5068e yJ0_charAt_5068e ∈ wg_T := wg_T_of (wg_t4 (List.mem_of_getElem? (i := 110) rfl)) rfl
theorem wq_4_111 : Cond.code yJ0_charAt_5068e prog_17_method_56_code 2 (Option.some Jvm.ClassFile.FieldType.char) ∈ wg_T := wg_T_of (wg_t4 (List.mem_of_getElem? (i := 111) rfl)) rfl
theorem wq_4_98 : Cond.methodLink "WornWigs$Reader" 90 yJ0_length_8abf5 ∈ wg_T := wg_T_of (wg_t4 (List.mem_of_getElem? (i := 98) rfl)) rfl
theorem wq_4_99 : Cond.instanceMethod yJ0_length_8abf5 ∈ wg_T := wg_T_of (wg_t4 (List.mem_of_getElem? (i := 99) rfl)) rfl
theorem wq_4_100 : Cond.selects "java/lang/String" yJ0_length_8abf5 yJ0_length_8abf5 ∈ wg_T := wg_T_of (wg_t4 (List.mem_of_getElem? (i := 100) rfl)) rfl
theorem wq_4_101 : Cond.code yJ0_length_8abf5 prog_17_method_54_code 1 (Option.some Jvm.ClassFile.FieldType.int) ∈ wg_T := wg_T_of (wg_t4 (List.mem_of_getElem? (i := 101) rfl)) rfl
theorem wq_4_149 : Cond.code yX6_isSpelt prog_8_method_11_code 5 (Option.some Jvm.ClassFile.FieldType.boolean) ∈ wg_T := wg_T_of (wg_t4 (List.mem_of_getElem? (i := 149) rfl)) rfl
theorem wq_4_146 : Cond.methodLink "WornWigs$Reader" 99 yX6_isSpelt ∈ wg_T := wg_T_of (wg_t4 (List.mem_of_getElem? (i := 146) rfl)) rfl
theorem wq_4_148 : Cond.instanceMethod yX6_isSpelt ∈ wg_T := wg_T_of (wg_t4 (List.mem_of_getElem? (i := 148) rfl)) rfl
theorem wq_p1_15 : Cond.selects "WornWigs$Reader" yX6_isSpelt yX6_isSpelt ∈ wg_T := wg_T_of (wg_sel (q := (⟨"WornWigs$Reader", "isSpelt", "(III)Z"⟩, _)) (List.mem_append_left _ (List.mem_of_getElem? (i := 15) rfl))) rfl
theorem wq_4_160 : Cond.code yX6_numberAt prog_8_method_9_code 5 (Option.some Jvm.ClassFile.FieldType.int) ∈ wg_T := wg_T_of (wg_t4 (List.mem_of_getElem? (i := 160) rfl)) rfl
theorem wq_4_157 : Cond.methodLink "WornWigs$Reader" 78 yX6_numberAt ∈ wg_T := wg_T_of (wg_t4 (List.mem_of_getElem? (i := 157) rfl)) rfl
theorem wq_4_159 : Cond.instanceMethod yX6_numberAt ∈ wg_T := wg_T_of (wg_t4 (List.mem_of_getElem? (i := 159) rfl)) rfl
theorem wq_p2_1 : Cond.selects "WornWigs$Reader" yX6_numberAt yX6_numberAt ∈ wg_T := wg_T_of (wg_sel (q := (⟨"WornWigs$Reader", "numberAt", "(II)I"⟩, _)) (List.mem_append_right _ (List.mem_append_left _ (List.mem_of_getElem? (i := 1) rfl)))) rfl
theorem wq_4_153 : Cond.code yX6_addToken prog_8_method_5_code 4 (Option.none : Option Jvm.ClassFile.FieldType) ∈ wg_T := wg_T_of (wg_t4 (List.mem_of_getElem? (i := 153) rfl)) rfl
theorem wq_4_150 : Cond.methodLink "WornWigs$Reader" 71 yX6_addToken ∈ wg_T := wg_T_of (wg_t4 (List.mem_of_getElem? (i := 150) rfl)) rfl
theorem wq_4_152 : Cond.instanceMethod yX6_addToken ∈ wg_T := wg_T_of (wg_t4 (List.mem_of_getElem? (i := 152) rfl)) rfl
theorem wq_p2_0 : Cond.selects "WornWigs$Reader" yX6_addToken yX6_addToken ∈ wg_T := wg_T_of (wg_sel (q := (⟨"WornWigs$Reader", "addToken", "(III)V"⟩, _)) (List.mem_append_right _ (List.mem_append_left _ (List.mem_of_getElem? (i := 0) rfl)))) rfl
theorem wq_4_156 : Cond.code yX6_isDigit prog_8_method_7_code 1 (Option.some Jvm.ClassFile.FieldType.boolean) ∈ wg_T := wg_T_of (wg_t4 (List.mem_of_getElem? (i := 156) rfl)) rfl
theorem wq_4_154 : Cond.methodLink "WornWigs$Reader" 75 yX6_isDigit ∈ wg_T := wg_T_of (wg_t4 (List.mem_of_getElem? (i := 154) rfl)) rfl
theorem wq_4_155 : Cond.static yX6_isDigit ∈ wg_T := wg_T_of (wg_t4 (List.mem_of_getElem? (i := 155) rfl)) rfl
theorem wq_4_96 : Cond.code yX6_wordAt prog_8_method_10_code 6 (Option.some Jvm.ClassFile.FieldType.int) ∈ wg_T := wg_T_of (wg_t4 (List.mem_of_getElem? (i := 96) rfl)) rfl
theorem wq_4_93 : Cond.methodLink "WornWigs$Reader" 67 yX6_wordAt ∈ wg_T := wg_T_of (wg_t4 (List.mem_of_getElem? (i := 93) rfl)) rfl
theorem wq_4_95 : Cond.instanceMethod yX6_wordAt ∈ wg_T := wg_T_of (wg_t4 (List.mem_of_getElem? (i := 95) rfl)) rfl
theorem wq_p1_14 : Cond.selects "WornWigs$Reader" yX6_wordAt yX6_wordAt ∈ wg_T := wg_T_of (wg_sel (q := (⟨"WornWigs$Reader", "wordAt", "(II)I"⟩, _)) (List.mem_append_left _ (List.mem_of_getElem? (i := 14) rfl))) rfl
theorem wq_4_91 : Cond.code yX6_isLetter prog_8_method_6_code 1 (Option.some Jvm.ClassFile.FieldType.boolean) ∈ wg_T := wg_T_of (wg_t4 (List.mem_of_getElem? (i := 91) rfl)) rfl
theorem wq_4_89 : Cond.methodLink "WornWigs$Reader" 63 yX6_isLetter ∈ wg_T := wg_T_of (wg_t4 (List.mem_of_getElem? (i := 89) rfl)) rfl
theorem wq_4_90 : Cond.static yX6_isLetter ∈ wg_T := wg_T_of (wg_t4 (List.mem_of_getElem? (i := 90) rfl)) rfl
theorem wq_4_163 : Cond.code yX6_isSign prog_8_method_8_code 1 (Option.some Jvm.ClassFile.FieldType.boolean) ∈ wg_T := wg_T_of (wg_t4 (List.mem_of_getElem? (i := 163) rfl)) rfl
theorem wq_4_161 : Cond.methodLink "WornWigs$Reader" 81 yX6_isSign ∈ wg_T := wg_T_of (wg_t4 (List.mem_of_getElem? (i := 161) rfl)) rfl
theorem wq_4_162 : Cond.static yX6_isSign ∈ wg_T := wg_T_of (wg_t4 (List.mem_of_getElem? (i := 162) rfl)) rfl
theorem wq_2_173 : Cond.fieldLink "WornWigs" 185 "WornWigs$Reader" "lines" "LWornWigs$Lines;" ∈ wg_T := wg_T_of (wg_t2 (List.mem_of_getElem? (i := 173) rfl)) rfl
theorem wq_4_88 : Cond.code yX6_begin prog_8_method_4_code 3 (Option.none : Option Jvm.ClassFile.FieldType) ∈ wg_T := wg_T_of (wg_t4 (List.mem_of_getElem? (i := 88) rfl)) rfl
theorem wq_4_85 : Cond.methodLink "WornWigs" 166 yX6_begin ∈ wg_T := wg_T_of (wg_t4 (List.mem_of_getElem? (i := 85) rfl)) rfl
theorem wq_4_86 : Cond.instanceMethod yX6_begin ∈ wg_T := wg_T_of (wg_t4 (List.mem_of_getElem? (i := 86) rfl)) rfl
theorem wq_4_87 : Cond.selects "WornWigs$Reader" yX6_begin yX6_begin ∈ wg_T := wg_T_of (wg_t4 (List.mem_of_getElem? (i := 87) rfl)) rfl
theorem wq_4_236 : Cond.code yX6_readLines prog_8_method_17_code 4 (Option.some Jvm.ClassFile.FieldType.boolean) ∈ wg_T := wg_T_of (wg_t4 (List.mem_of_getElem? (i := 236) rfl)) rfl
theorem wq_4_233 : Cond.methodLink "WornWigs" 182 yX6_readLines ∈ wg_T := wg_T_of (wg_t4 (List.mem_of_getElem? (i := 233) rfl)) rfl
theorem wq_4_234 : Cond.instanceMethod yX6_readLines ∈ wg_T := wg_T_of (wg_t4 (List.mem_of_getElem? (i := 234) rfl)) rfl
theorem wq_4_235 : Cond.selects "WornWigs$Reader" yX6_readLines yX6_readLines ∈ wg_T := wg_T_of (wg_t4 (List.mem_of_getElem? (i := 235) rfl)) rfl
theorem wq_4_167 : Cond.code yX6_readLaw prog_8_method_23_code 2 (Option.some Jvm.ClassFile.FieldType.boolean) ∈ wg_T := wg_T_of (wg_t4 (List.mem_of_getElem? (i := 167) rfl)) rfl
theorem wq_4_164 : Cond.methodLink "WornWigs" 169 yX6_readLaw ∈ wg_T := wg_T_of (wg_t4 (List.mem_of_getElem? (i := 164) rfl)) rfl
theorem wq_4_165 : Cond.instanceMethod yX6_readLaw ∈ wg_T := wg_T_of (wg_t4 (List.mem_of_getElem? (i := 165) rfl)) rfl
theorem wq_4_166 : Cond.selects "WornWigs$Reader" yX6_readLaw yX6_readLaw ∈ wg_T := wg_T_of (wg_t4 (List.mem_of_getElem? (i := 166) rfl)) rfl
theorem wq_1_174 : Cond.laysFinal "WornWigs$Bench" "WornWigs$Bench" "wigs" "LWornWigs$Wigs;" ∈ wg_T := wg_T_of (wg_t1 (List.mem_of_getElem? (i := 174) rfl)) rfl
theorem wq_1_176 : Cond.laysFinal "WornWigs$Bench" "WornWigs$Bench" "judges" "LWornWigs$Judges;" ∈ wg_T := wg_T_of (wg_t1 (List.mem_of_getElem? (i := 176) rfl)) rfl
theorem wq_1_178 : Cond.laysFinal "WornWigs$Bench" "WornWigs$Bench" "cause" "[I" ∈ wg_T := wg_T_of (wg_t1 (List.mem_of_getElem? (i := 178) rfl)) rfl
theorem wq_1_180 : Cond.laysFinal "WornWigs$Bench" "WornWigs$Bench" "merit" "[I" ∈ wg_T := wg_T_of (wg_t1 (List.mem_of_getElem? (i := 180) rfl)) rfl
theorem wq_1_182 : Cond.laysFinal "WornWigs$Bench" "WornWigs$Bench" "verdict" "[I" ∈ wg_T := wg_T_of (wg_t1 (List.mem_of_getElem? (i := 182) rfl)) rfl
theorem wq_1_184 : Cond.laysFinal "WornWigs$Bench" "WornWigs$Bench" "by" "[I" ∈ wg_T := wg_T_of (wg_t1 (List.mem_of_getElem? (i := 184) rfl)) rfl
theorem wq_1_186 : Cond.lays "WornWigs$Bench" "WornWigs$Bench" "cases" "I" ∈ wg_T := wg_T_of (wg_t1 (List.mem_of_getElem? (i := 186) rfl)) rfl
theorem wq_1_188 : Cond.lays "WornWigs$Bench" "WornWigs$Bench" "year" "I" ∈ wg_T := wg_T_of (wg_t1 (List.mem_of_getElem? (i := 188) rfl)) rfl
theorem wq_1_190 : Cond.lays "WornWigs$Bench" "WornWigs$Bench" "draws" "I" ∈ wg_T := wg_T_of (wg_t1 (List.mem_of_getElem? (i := 190) rfl)) rfl
theorem wq_1_192 : Cond.lays "WornWigs$Bench" "WornWigs$Bench" "bookLines" "I" ∈ wg_T := wg_T_of (wg_t1 (List.mem_of_getElem? (i := 192) rfl)) rfl
theorem wq_2_226 : Cond.laysFinal "WornWigs$Court" "WornWigs$Court" "world" "LWornWigs$World;" ∈ wg_T := wg_T_of (wg_t2 (List.mem_of_getElem? (i := 226) rfl)) rfl
theorem wq_2_228 : Cond.laysFinal "WornWigs$Court" "WornWigs$Court" "bench" "LWornWigs$Bench;" ∈ wg_T := wg_T_of (wg_t2 (List.mem_of_getElem? (i := 228) rfl)) rfl
theorem wq_2_230 : Cond.laysFinal "WornWigs$Court" "WornWigs$Court" "wigs" "LWornWigs$Wigs;" ∈ wg_T := wg_T_of (wg_t2 (List.mem_of_getElem? (i := 230) rfl)) rfl
theorem wq_2_232 : Cond.laysFinal "WornWigs$Court" "WornWigs$Court" "judges" "LWornWigs$Judges;" ∈ wg_T := wg_T_of (wg_t2 (List.mem_of_getElem? (i := 232) rfl)) rfl
theorem wq_2_234 : Cond.laysFinal "WornWigs$Court" "WornWigs$Court" "law" "LWornWigs$Law;" ∈ wg_T := wg_T_of (wg_t2 (List.mem_of_getElem? (i := 234) rfl)) rfl
theorem wq_2_236 : Cond.laysFinal "WornWigs$Court" "WornWigs$Court" "aside" "LWornWigs$Bench;" ∈ wg_T := wg_T_of (wg_t2 (List.mem_of_getElem? (i := 236) rfl)) rfl
theorem wq_2_238 : Cond.lays "WornWigs$Court" "WornWigs$Court" "inThought" "Z" ∈ wg_T := wg_T_of (wg_t2 (List.mem_of_getElem? (i := 238) rfl)) rfl
theorem wq_1_128 : Cond.laysFinal "WornWigs$Judges" "WornWigs$Judges" "age" "[I" ∈ wg_T := wg_T_of (wg_t1 (List.mem_of_getElem? (i := 128) rfl)) rfl
theorem wq_1_130 : Cond.laysFinal "WornWigs$Judges" "WornWigs$Judges" "mind" "[I" ∈ wg_T := wg_T_of (wg_t1 (List.mem_of_getElem? (i := 130) rfl)) rfl
theorem wq_1_132 : Cond.laysFinal "WornWigs$Judges" "WornWigs$Judges" "worn" "[I" ∈ wg_T := wg_T_of (wg_t1 (List.mem_of_getElem? (i := 132) rfl)) rfl
theorem wq_1_134 : Cond.laysFinal "WornWigs$Judges" "WornWigs$Judges" "dead" "[I" ∈ wg_T := wg_T_of (wg_t1 (List.mem_of_getElem? (i := 134) rfl)) rfl
theorem wq_1_136 : Cond.laysFinal "WornWigs$Judges" "WornWigs$Judges" "tried" "[I" ∈ wg_T := wg_T_of (wg_t1 (List.mem_of_getElem? (i := 136) rfl)) rfl
theorem wq_1_138 : Cond.lays "WornWigs$Judges" "WornWigs$Judges" "count" "I" ∈ wg_T := wg_T_of (wg_t1 (List.mem_of_getElem? (i := 138) rfl)) rfl
theorem wq_2_16 : Cond.laysFinal "WornWigs$Law" "WornWigs$Law" "sign" "[I" ∈ wg_T := wg_T_of (wg_t2 (List.mem_of_getElem? (i := 16) rfl)) rfl
theorem wq_2_18 : Cond.laysFinal "WornWigs$Law" "WornWigs$Law" "value" "[I" ∈ wg_T := wg_T_of (wg_t2 (List.mem_of_getElem? (i := 18) rfl)) rfl
theorem wq_2_20 : Cond.lays "WornWigs$Law" "WornWigs$Law" "size" "I" ∈ wg_T := wg_T_of (wg_t2 (List.mem_of_getElem? (i := 20) rfl)) rfl
theorem wq_2_22 : Cond.laysFinal "WornWigs$Law" "WornWigs$Law" "word" "[I" ∈ wg_T := wg_T_of (wg_t2 (List.mem_of_getElem? (i := 22) rfl)) rfl
theorem wq_2_24 : Cond.laysFinal "WornWigs$Law" "WornWigs$Law" "sumEnd" "[I" ∈ wg_T := wg_T_of (wg_t2 (List.mem_of_getElem? (i := 24) rfl)) rfl
theorem wq_2_26 : Cond.laysFinal "WornWigs$Law" "WornWigs$Law" "whenEnd" "[I" ∈ wg_T := wg_T_of (wg_t2 (List.mem_of_getElem? (i := 26) rfl)) rfl
theorem wq_2_28 : Cond.lays "WornWigs$Law" "WornWigs$Law" "lines" "I" ∈ wg_T := wg_T_of (wg_t2 (List.mem_of_getElem? (i := 28) rfl)) rfl
theorem wq_2_30 : Cond.laysFinal "WornWigs$Law" "WornWigs$Law" "facts" "[I" ∈ wg_T := wg_T_of (wg_t2 (List.mem_of_getElem? (i := 30) rfl)) rfl
theorem wq_2_32 : Cond.laysFinal "WornWigs$Law" "WornWigs$Law" "stack" "[I" ∈ wg_T := wg_T_of (wg_t2 (List.mem_of_getElem? (i := 32) rfl)) rfl
theorem wq_1_223 : Cond.laysFinal "WornWigs$Lines" "WornWigs$Lines" "year" "[I" ∈ wg_T := wg_T_of (wg_t1 (List.mem_of_getElem? (i := 223) rfl)) rfl
theorem wq_1_225 : Cond.laysFinal "WornWigs$Lines" "WornWigs$Lines" "what" "[I" ∈ wg_T := wg_T_of (wg_t1 (List.mem_of_getElem? (i := 225) rfl)) rfl
theorem wq_1_227 : Cond.laysFinal "WornWigs$Lines" "WornWigs$Lines" "first" "[I" ∈ wg_T := wg_T_of (wg_t1 (List.mem_of_getElem? (i := 227) rfl)) rfl
theorem wq_1_229 : Cond.laysFinal "WornWigs$Lines" "WornWigs$Lines" "second" "[I" ∈ wg_T := wg_T_of (wg_t1 (List.mem_of_getElem? (i := 229) rfl)) rfl
theorem wq_1_231 : Cond.lays "WornWigs$Lines" "WornWigs$Lines" "count" "I" ∈ wg_T := wg_T_of (wg_t1 (List.mem_of_getElem? (i := 231) rfl)) rfl
theorem wq_2_141 : Cond.laysFinal "WornWigs$Past" "WornWigs$Past" "kept" "[LWornWigs$Bench;" ∈ wg_T := wg_T_of (wg_t2 (List.mem_of_getElem? (i := 141) rfl)) rfl
theorem wq_2_143 : Cond.lays "WornWigs$Past" "WornWigs$Past" "next" "I" ∈ wg_T := wg_T_of (wg_t2 (List.mem_of_getElem? (i := 143) rfl)) rfl
theorem wq_2_145 : Cond.lays "WornWigs$Past" "WornWigs$Past" "count" "I" ∈ wg_T := wg_T_of (wg_t2 (List.mem_of_getElem? (i := 145) rfl)) rfl
theorem wq_2_178 : Cond.laysFinal "WornWigs$Reader" "WornWigs$Reader" "world" "LWornWigs$World;" ∈ wg_T := wg_T_of (wg_t2 (List.mem_of_getElem? (i := 178) rfl)) rfl
theorem wq_2_180 : Cond.laysFinal "WornWigs$Reader" "WornWigs$Reader" "tape" "[I" ∈ wg_T := wg_T_of (wg_t2 (List.mem_of_getElem? (i := 180) rfl)) rfl
theorem wq_2_182 : Cond.lays "WornWigs$Reader" "WornWigs$Reader" "length" "I" ∈ wg_T := wg_T_of (wg_t2 (List.mem_of_getElem? (i := 182) rfl)) rfl
theorem wq_2_184 : Cond.laysFinal "WornWigs$Reader" "WornWigs$Reader" "kind" "[I" ∈ wg_T := wg_T_of (wg_t2 (List.mem_of_getElem? (i := 184) rfl)) rfl
theorem wq_2_186 : Cond.laysFinal "WornWigs$Reader" "WornWigs$Reader" "value" "[I" ∈ wg_T := wg_T_of (wg_t2 (List.mem_of_getElem? (i := 186) rfl)) rfl
theorem wq_2_188 : Cond.laysFinal "WornWigs$Reader" "WornWigs$Reader" "place" "[I" ∈ wg_T := wg_T_of (wg_t2 (List.mem_of_getElem? (i := 188) rfl)) rfl
theorem wq_2_190 : Cond.lays "WornWigs$Reader" "WornWigs$Reader" "tokens" "I" ∈ wg_T := wg_T_of (wg_t2 (List.mem_of_getElem? (i := 190) rfl)) rfl
theorem wq_2_192 : Cond.lays "WornWigs$Reader" "WornWigs$Reader" "at" "I" ∈ wg_T := wg_T_of (wg_t2 (List.mem_of_getElem? (i := 192) rfl)) rfl
theorem wq_2_194 : Cond.lays "WornWigs$Reader" "WornWigs$Reader" "faultFound" "I" ∈ wg_T := wg_T_of (wg_t2 (List.mem_of_getElem? (i := 194) rfl)) rfl
theorem wq_2_196 : Cond.lays "WornWigs$Reader" "WornWigs$Reader" "faultPlace" "I" ∈ wg_T := wg_T_of (wg_t2 (List.mem_of_getElem? (i := 196) rfl)) rfl
theorem wq_2_198 : Cond.laysFinal "WornWigs$Reader" "WornWigs$Reader" "law" "LWornWigs$Law;" ∈ wg_T := wg_T_of (wg_t2 (List.mem_of_getElem? (i := 198) rfl)) rfl
theorem wq_2_200 : Cond.laysFinal "WornWigs$Reader" "WornWigs$Reader" "lines" "LWornWigs$Lines;" ∈ wg_T := wg_T_of (wg_t2 (List.mem_of_getElem? (i := 200) rfl)) rfl
theorem wq_2_202 : Cond.laysFinal "WornWigs$Reader" "WornWigs$Reader" "waiting" "[I" ∈ wg_T := wg_T_of (wg_t2 (List.mem_of_getElem? (i := 202) rfl)) rfl
theorem wq_2_204 : Cond.lays "WornWigs$Reader" "WornWigs$Reader" "waits" "I" ∈ wg_T := wg_T_of (wg_t2 (List.mem_of_getElem? (i := 204) rfl)) rfl
theorem wq_2_206 : Cond.lays "WornWigs$Reader" "WornWigs$Reader" "open" "I" ∈ wg_T := wg_T_of (wg_t2 (List.mem_of_getElem? (i := 206) rfl)) rfl
theorem wq_2_208 : Cond.lays "WornWigs$Reader" "WornWigs$Reader" "brackets" "I" ∈ wg_T := wg_T_of (wg_t2 (List.mem_of_getElem? (i := 208) rfl)) rfl
theorem wq_3_9 : Cond.laysFinal "WornWigs$Thought" "WornWigs$Thought" "world" "LWornWigs$World;" ∈ wg_T := wg_T_of (wg_t3 (List.mem_of_getElem? (i := 9) rfl)) rfl
theorem wq_3_11 : Cond.laysFinal "WornWigs$Thought" "WornWigs$Thought" "court" "LWornWigs$Court;" ∈ wg_T := wg_T_of (wg_t3 (List.mem_of_getElem? (i := 11) rfl)) rfl
theorem wq_2_61 : Cond.laysFinal "WornWigs$Told" "WornWigs$Told" "traitWhat" "[I" ∈ wg_T := wg_T_of (wg_t2 (List.mem_of_getElem? (i := 61) rfl)) rfl
theorem wq_2_63 : Cond.laysFinal "WornWigs$Told" "WornWigs$Told" "traitValue" "[I" ∈ wg_T := wg_T_of (wg_t2 (List.mem_of_getElem? (i := 63) rfl)) rfl
theorem wq_2_65 : Cond.laysFinal "WornWigs$Told" "WornWigs$Told" "traitIs" "[I" ∈ wg_T := wg_T_of (wg_t2 (List.mem_of_getElem? (i := 65) rfl)) rfl
theorem wq_2_67 : Cond.lays "WornWigs$Told" "WornWigs$Told" "traits" "I" ∈ wg_T := wg_T_of (wg_t2 (List.mem_of_getElem? (i := 67) rfl)) rfl
theorem wq_2_69 : Cond.laysFinal "WornWigs$Told" "WornWigs$Told" "citing" "[I" ∈ wg_T := wg_T_of (wg_t2 (List.mem_of_getElem? (i := 69) rfl)) rfl
theorem wq_2_71 : Cond.laysFinal "WornWigs$Told" "WornWigs$Told" "cited" "[I" ∈ wg_T := wg_T_of (wg_t2 (List.mem_of_getElem? (i := 71) rfl)) rfl
theorem wq_2_73 : Cond.lays "WornWigs$Told" "WornWigs$Told" "cites" "I" ∈ wg_T := wg_T_of (wg_t2 (List.mem_of_getElem? (i := 73) rfl)) rfl
theorem wq_2_75 : Cond.laysFinal "WornWigs$Told" "WornWigs$Told" "worth" "[I" ∈ wg_T := wg_T_of (wg_t2 (List.mem_of_getElem? (i := 75) rfl)) rfl
theorem wq_2_77 : Cond.laysFinal "WornWigs$Told" "WornWigs$Told" "hours" "[I" ∈ wg_T := wg_T_of (wg_t2 (List.mem_of_getElem? (i := 77) rfl)) rfl
theorem wq_2_79 : Cond.laysFinal "WornWigs$Told" "WornWigs$Told" "due" "[I" ∈ wg_T := wg_T_of (wg_t2 (List.mem_of_getElem? (i := 79) rfl)) rfl
theorem wq_2_81 : Cond.lays "WornWigs$Told" "WornWigs$Told" "hards" "I" ∈ wg_T := wg_T_of (wg_t2 (List.mem_of_getElem? (i := 81) rfl)) rfl
theorem wq_2_83 : Cond.laysFinal "WornWigs$Told" "WornWigs$Told" "rowFrom" "[I" ∈ wg_T := wg_T_of (wg_t2 (List.mem_of_getElem? (i := 83) rfl)) rfl
theorem wq_1_82 : Cond.laysFinal "WornWigs$Wigs" "WornWigs$Wigs" "colour" "[I" ∈ wg_T := wg_T_of (wg_t1 (List.mem_of_getElem? (i := 82) rfl)) rfl
theorem wq_1_84 : Cond.laysFinal "WornWigs$Wigs" "WornWigs$Wigs" "hair" "[I" ∈ wg_T := wg_T_of (wg_t1 (List.mem_of_getElem? (i := 84) rfl)) rfl
theorem wq_1_86 : Cond.laysFinal "WornWigs$Wigs" "WornWigs$Wigs" "itch" "[I" ∈ wg_T := wg_T_of (wg_t1 (List.mem_of_getElem? (i := 86) rfl)) rfl
theorem wq_1_88 : Cond.laysFinal "WornWigs$Wigs" "WornWigs$Wigs" "lent" "[I" ∈ wg_T := wg_T_of (wg_t1 (List.mem_of_getElem? (i := 88) rfl)) rfl
theorem wq_1_90 : Cond.laysFinal "WornWigs$Wigs" "WornWigs$Wigs" "rules" "[I" ∈ wg_T := wg_T_of (wg_t1 (List.mem_of_getElem? (i := 90) rfl)) rfl
theorem wq_1_92 : Cond.laysFinal "WornWigs$Wigs" "WornWigs$Wigs" "cause" "[I" ∈ wg_T := wg_T_of (wg_t1 (List.mem_of_getElem? (i := 92) rfl)) rfl
theorem wq_1_94 : Cond.laysFinal "WornWigs$Wigs" "WornWigs$Wigs" "ruling" "[I" ∈ wg_T := wg_T_of (wg_t1 (List.mem_of_getElem? (i := 94) rfl)) rfl
theorem wq_1_96 : Cond.laysFinal "WornWigs$Wigs" "WornWigs$Wigs" "weight" "[I" ∈ wg_T := wg_T_of (wg_t1 (List.mem_of_getElem? (i := 96) rfl)) rfl
theorem wq_1_98 : Cond.lays "WornWigs$Wigs" "WornWigs$Wigs" "count" "I" ∈ wg_T := wg_T_of (wg_t1 (List.mem_of_getElem? (i := 98) rfl)) rfl
theorem wq_2_113 : Cond.laysFinal "WornWigs$World" "WornWigs$World" "bench" "LWornWigs$Bench;" ∈ wg_T := wg_T_of (wg_t2 (List.mem_of_getElem? (i := 113) rfl)) rfl
theorem wq_2_115 : Cond.laysFinal "WornWigs$World" "WornWigs$World" "pages" "LWornWigs$Lines;" ∈ wg_T := wg_T_of (wg_t2 (List.mem_of_getElem? (i := 115) rfl)) rfl
theorem wq_2_117 : Cond.laysFinal "WornWigs$World" "WornWigs$World" "law" "LWornWigs$Law;" ∈ wg_T := wg_T_of (wg_t2 (List.mem_of_getElem? (i := 117) rfl)) rfl
theorem wq_2_119 : Cond.laysFinal "WornWigs$World" "WornWigs$World" "docket" "LWornWigs$Lines;" ∈ wg_T := wg_T_of (wg_t2 (List.mem_of_getElem? (i := 119) rfl)) rfl
theorem wq_2_121 : Cond.laysFinal "WornWigs$World" "WornWigs$World" "loans" "LWornWigs$Lines;" ∈ wg_T := wg_T_of (wg_t2 (List.mem_of_getElem? (i := 121) rfl)) rfl
theorem wq_2_123 : Cond.laysFinal "WornWigs$World" "WornWigs$World" "descent" "LWornWigs$Lines;" ∈ wg_T := wg_T_of (wg_t2 (List.mem_of_getElem? (i := 123) rfl)) rfl
theorem wq_2_125 : Cond.laysFinal "WornWigs$World" "WornWigs$World" "told" "LWornWigs$Told;" ∈ wg_T := wg_T_of (wg_t2 (List.mem_of_getElem? (i := 125) rfl)) rfl
theorem wq_3_21 : Cond.laysFinal "WornWigs" "WornWigs" "now" "LWornWigs$World;" ∈ wg_T := wg_T_of (wg_t3 (List.mem_of_getElem? (i := 21) rfl)) rfl
theorem wq_3_23 : Cond.laysFinal "WornWigs" "WornWigs" "asTaken" "LWornWigs$World;" ∈ wg_T := wg_T_of (wg_t3 (List.mem_of_getElem? (i := 23) rfl)) rfl
theorem wq_3_25 : Cond.laysFinal "WornWigs" "WornWigs" "past" "LWornWigs$Past;" ∈ wg_T := wg_T_of (wg_t3 (List.mem_of_getElem? (i := 25) rfl)) rfl
theorem wq_3_27 : Cond.laysFinal "WornWigs" "WornWigs" "reader" "LWornWigs$Reader;" ∈ wg_T := wg_T_of (wg_t3 (List.mem_of_getElem? (i := 27) rfl)) rfl
theorem wq_3_29 : Cond.laysFinal "WornWigs" "WornWigs" "court" "LWornWigs$Court;" ∈ wg_T := wg_T_of (wg_t3 (List.mem_of_getElem? (i := 29) rfl)) rfl
theorem wq_3_31 : Cond.laysFinal "WornWigs" "WornWigs" "thought" "LWornWigs$Thought;" ∈ wg_T := wg_T_of (wg_t3 (List.mem_of_getElem? (i := 31) rfl)) rfl
theorem wq_3_33 : Cond.lays "WornWigs" "WornWigs" "hasImage" "Z" ∈ wg_T := wg_T_of (wg_t3 (List.mem_of_getElem? (i := 33) rfl)) rfl
theorem wq_6_187 : Cond.lays "WornWigsModel" "WornWigsModel" "told" "I" ∈ wg_T := wg_T_of (wg_t6 (List.mem_of_getElem? (i := 187) rfl)) rfl
theorem wq_6_189 : Cond.laysFinal "WornWigsModel" "WornWigsModel" "now" "[I" ∈ wg_T := wg_T_of (wg_t6 (List.mem_of_getElem? (i := 189) rfl)) rfl
theorem wq_6_191 : Cond.laysFinal "WornWigsModel" "WornWigsModel" "rows" "[I" ∈ wg_T := wg_T_of (wg_t6 (List.mem_of_getElem? (i := 191) rfl)) rfl
theorem wq_6_193 : Cond.lays "WornWigsModel" "WornWigsModel" "undoable" "I" ∈ wg_T := wg_T_of (wg_t6 (List.mem_of_getElem? (i := 193) rfl)) rfl
theorem wq_6_195 : Cond.laysFinal "WornWigsModel" "WornWigsModel" "waiting" "[I" ∈ wg_T := wg_T_of (wg_t6 (List.mem_of_getElem? (i := 195) rfl)) rfl
theorem wq_6_197 : Cond.lays "WornWigsModel" "WornWigsModel" "isThought" "Z" ∈ wg_T := wg_T_of (wg_t6 (List.mem_of_getElem? (i := 197) rfl)) rfl
theorem wq_6_199 : Cond.lays "WornWigsModel" "WornWigsModel" "wigs" "I" ∈ wg_T := wg_T_of (wg_t6 (List.mem_of_getElem? (i := 199) rfl)) rfl
theorem wq_6_201 : Cond.lays "WornWigsModel" "WornWigsModel" "judges" "I" ∈ wg_T := wg_T_of (wg_t6 (List.mem_of_getElem? (i := 201) rfl)) rfl
theorem wq_6_203 : Cond.lays "WornWigsModel" "WornWigsModel" "trials" "I" ∈ wg_T := wg_T_of (wg_t6 (List.mem_of_getElem? (i := 203) rfl)) rfl
theorem wq_6_205 : Cond.laysFinal "WornWigsModel" "WornWigsModel" "colour" "[I" ∈ wg_T := wg_T_of (wg_t6 (List.mem_of_getElem? (i := 205) rfl)) rfl
theorem wq_6_207 : Cond.laysFinal "WornWigsModel" "WornWigsModel" "mind" "[I" ∈ wg_T := wg_T_of (wg_t6 (List.mem_of_getElem? (i := 207) rfl)) rfl
theorem wq_6_209 : Cond.laysFinal "WornWigsModel" "WornWigsModel" "cause" "[I" ∈ wg_T := wg_T_of (wg_t6 (List.mem_of_getElem? (i := 209) rfl)) rfl
theorem wq_6_211 : Cond.laysFinal "WornWigsModel" "WornWigsModel" "merit" "[I" ∈ wg_T := wg_T_of (wg_t6 (List.mem_of_getElem? (i := 211) rfl)) rfl
theorem wq_6_213 : Cond.laysFinal "WornWigsModel" "WornWigsModel" "book" "[I" ∈ wg_T := wg_T_of (wg_t6 (List.mem_of_getElem? (i := 213) rfl)) rfl
theorem wq_6_215 : Cond.laysFinal "WornWigsModel" "WornWigsModel" "tape" "[I" ∈ wg_T := wg_T_of (wg_t6 (List.mem_of_getElem? (i := 215) rfl)) rfl
theorem wq_6_217 : Cond.lays "WornWigsModel" "WornWigsModel" "taped" "I" ∈ wg_T := wg_T_of (wg_t6 (List.mem_of_getElem? (i := 217) rfl)) rfl
theorem wq_6_219 : Cond.lays "WornWigsModel" "WornWigsModel" "spot" "I" ∈ wg_T := wg_T_of (wg_t6 (List.mem_of_getElem? (i := 219) rfl)) rfl
theorem wq_6_221 : Cond.lays "WornWigsModel" "WornWigsModel" "from" "I" ∈ wg_T := wg_T_of (wg_t6 (List.mem_of_getElem? (i := 221) rfl)) rfl
theorem wq_6_223 : Cond.lays "WornWigsModel" "WornWigsModel" "token" "I" ∈ wg_T := wg_T_of (wg_t6 (List.mem_of_getElem? (i := 223) rfl)) rfl
theorem wq_6_225 : Cond.lays "WornWigsModel" "WornWigsModel" "value" "I" ∈ wg_T := wg_T_of (wg_t6 (List.mem_of_getElem? (i := 225) rfl)) rfl
theorem wq_6_227 : Cond.laysFinal "WornWigsModel" "WornWigsModel" "words" "[I" ∈ wg_T := wg_T_of (wg_t6 (List.mem_of_getElem? (i := 227) rfl)) rfl
theorem wq_6_229 : Cond.laysFinal "WornWigsModel" "WornWigsModel" "lineMany" "[I" ∈ wg_T := wg_T_of (wg_t6 (List.mem_of_getElem? (i := 229) rfl)) rfl
theorem wq_6_231 : Cond.laysFinal "WornWigsModel" "WornWigsModel" "lineWord" "[I" ∈ wg_T := wg_T_of (wg_t6 (List.mem_of_getElem? (i := 231) rfl)) rfl
theorem wq_6_233 : Cond.laysFinal "WornWigsModel" "WornWigsModel" "lineFrom" "[I" ∈ wg_T := wg_T_of (wg_t6 (List.mem_of_getElem? (i := 233) rfl)) rfl
theorem wq_6_235 : Cond.laysFinal "WornWigsModel" "WornWigsModel" "lineWhen" "[I" ∈ wg_T := wg_T_of (wg_t6 (List.mem_of_getElem? (i := 235) rfl)) rfl
theorem wq_6_237 : Cond.laysFinal "WornWigsModel" "WornWigsModel" "lineTo" "[I" ∈ wg_T := wg_T_of (wg_t6 (List.mem_of_getElem? (i := 237) rfl)) rfl
theorem wq_6_239 : Cond.laysFinal "WornWigsModel" "WornWigsModel" "op" "[I" ∈ wg_T := wg_T_of (wg_t6 (List.mem_of_getElem? (i := 239) rfl)) rfl
theorem wq_7_1 : Cond.laysFinal "WornWigsModel" "WornWigsModel" "arg" "[I" ∈ wg_T := wg_T_of (wg_t7 (List.mem_of_getElem? (i := 1) rfl)) rfl
theorem wq_7_3 : Cond.lays "WornWigsModel" "WornWigsModel" "which" "I" ∈ wg_T := wg_T_of (wg_t7 (List.mem_of_getElem? (i := 3) rfl)) rfl
theorem wq_7_5 : Cond.lays "WornWigsModel" "WornWigsModel" "codes" "I" ∈ wg_T := wg_T_of (wg_t7 (List.mem_of_getElem? (i := 5) rfl)) rfl
theorem wq_7_7 : Cond.lays "WornWigsModel" "WornWigsModel" "open" "I" ∈ wg_T := wg_T_of (wg_t7 (List.mem_of_getElem? (i := 7) rfl)) rfl
theorem wq_7_9 : Cond.laysFinal "WornWigsModel" "WornWigsModel" "pending" "[I" ∈ wg_T := wg_T_of (wg_t7 (List.mem_of_getElem? (i := 9) rfl)) rfl
theorem wq_7_11 : Cond.lays "WornWigsModel" "WornWigsModel" "pendings" "I" ∈ wg_T := wg_T_of (wg_t7 (List.mem_of_getElem? (i := 11) rfl)) rfl
theorem wq_7_13 : Cond.lays "WornWigsModel" "WornWigsModel" "readFault" "I" ∈ wg_T := wg_T_of (wg_t7 (List.mem_of_getElem? (i := 13) rfl)) rfl
theorem wq_7_15 : Cond.lays "WornWigsModel" "WornWigsModel" "readPlace" "I" ∈ wg_T := wg_T_of (wg_t7 (List.mem_of_getElem? (i := 15) rfl)) rfl
theorem wq_7_17 : Cond.lays "WornWigsModel" "WornWigsModel" "faultKind" "I" ∈ wg_T := wg_T_of (wg_t7 (List.mem_of_getElem? (i := 17) rfl)) rfl
theorem wq_7_19 : Cond.lays "WornWigsModel" "WornWigsModel" "faultPlace" "I" ∈ wg_T := wg_T_of (wg_t7 (List.mem_of_getElem? (i := 19) rfl)) rfl
theorem wq_7_21 : Cond.lays "WornWigsModel" "WornWigsModel" "docketMany" "I" ∈ wg_T := wg_T_of (wg_t7 (List.mem_of_getElem? (i := 21) rfl)) rfl
theorem wq_7_23 : Cond.laysFinal "WornWigsModel" "WornWigsModel" "docket" "[I" ∈ wg_T := wg_T_of (wg_t7 (List.mem_of_getElem? (i := 23) rfl)) rfl
theorem wq_7_25 : Cond.lays "WornWigsModel" "WornWigsModel" "loanMany" "I" ∈ wg_T := wg_T_of (wg_t7 (List.mem_of_getElem? (i := 25) rfl)) rfl
theorem wq_7_27 : Cond.laysFinal "WornWigsModel" "WornWigsModel" "loans" "[I" ∈ wg_T := wg_T_of (wg_t7 (List.mem_of_getElem? (i := 27) rfl)) rfl
theorem wq_7_29 : Cond.lays "WornWigsModel" "WornWigsModel" "kinMany" "I" ∈ wg_T := wg_T_of (wg_t7 (List.mem_of_getElem? (i := 29) rfl)) rfl
theorem wq_7_31 : Cond.laysFinal "WornWigsModel" "WornWigsModel" "afterUp" "[I" ∈ wg_T := wg_T_of (wg_t7 (List.mem_of_getElem? (i := 31) rfl)) rfl
theorem wq_7_33 : Cond.laysFinal "WornWigsModel" "WornWigsModel" "asked" "[I" ∈ wg_T := wg_T_of (wg_t7 (List.mem_of_getElem? (i := 33) rfl)) rfl
theorem wq_7_35 : Cond.laysFinal "WornWigsModel" "WornWigsModel" "stack" "[I" ∈ wg_T := wg_T_of (wg_t7 (List.mem_of_getElem? (i := 35) rfl)) rfl
theorem wq_7_37 : Cond.lays "WornWigsModel" "WornWigsModel" "traitMany" "I" ∈ wg_T := wg_T_of (wg_t7 (List.mem_of_getElem? (i := 37) rfl)) rfl
theorem wq_7_39 : Cond.laysFinal "WornWigsModel" "WornWigsModel" "traitWhat" "[I" ∈ wg_T := wg_T_of (wg_t7 (List.mem_of_getElem? (i := 39) rfl)) rfl
theorem wq_7_41 : Cond.laysFinal "WornWigsModel" "WornWigsModel" "traitFor" "[I" ∈ wg_T := wg_T_of (wg_t7 (List.mem_of_getElem? (i := 41) rfl)) rfl
theorem wq_7_43 : Cond.laysFinal "WornWigsModel" "WornWigsModel" "traitIs" "[I" ∈ wg_T := wg_T_of (wg_t7 (List.mem_of_getElem? (i := 43) rfl)) rfl
theorem wq_7_45 : Cond.lays "WornWigsModel" "WornWigsModel" "citeMany" "I" ∈ wg_T := wg_T_of (wg_t7 (List.mem_of_getElem? (i := 45) rfl)) rfl
theorem wq_7_47 : Cond.laysFinal "WornWigsModel" "WornWigsModel" "cites" "[I" ∈ wg_T := wg_T_of (wg_t7 (List.mem_of_getElem? (i := 47) rfl)) rfl
theorem wq_7_49 : Cond.laysFinal "WornWigsModel" "WornWigsModel" "chained" "[I" ∈ wg_T := wg_T_of (wg_t7 (List.mem_of_getElem? (i := 49) rfl)) rfl
theorem wq_7_51 : Cond.laysFinal "WornWigsModel" "WornWigsModel" "parcels" "[I" ∈ wg_T := wg_T_of (wg_t7 (List.mem_of_getElem? (i := 51) rfl)) rfl
theorem wq_7_53 : Cond.lays "WornWigsModel" "WornWigsModel" "hardMany" "I" ∈ wg_T := wg_T_of (wg_t7 (List.mem_of_getElem? (i := 53) rfl)) rfl
theorem wq_7_55 : Cond.laysFinal "WornWigsModel" "WornWigsModel" "hardHours" "[I" ∈ wg_T := wg_T_of (wg_t7 (List.mem_of_getElem? (i := 55) rfl)) rfl
theorem wq_7_57 : Cond.laysFinal "WornWigsModel" "WornWigsModel" "hardDue" "[I" ∈ wg_T := wg_T_of (wg_t7 (List.mem_of_getElem? (i := 57) rfl)) rfl
theorem wq_7_59 : Cond.laysFinal "WornWigsModel" "WornWigsModel" "lateFrom" "[I" ∈ wg_T := wg_T_of (wg_t7 (List.mem_of_getElem? (i := 59) rfl)) rfl
theorem wq_7_61 : Cond.lays "WornWigsModel" "WornWigsModel" "isTaking" "Z" ∈ wg_T := wg_T_of (wg_t7 (List.mem_of_getElem? (i := 61) rfl)) rfl
theorem wq_7_63 : Cond.lays "WornWigsModel" "WornWigsModel" "hasImage" "Z" ∈ wg_T := wg_T_of (wg_t7 (List.mem_of_getElem? (i := 63) rfl)) rfl
theorem wq_7_65 : Cond.lays "WornWigsModel" "WornWigsModel" "keptAt" "I" ∈ wg_T := wg_T_of (wg_t7 (List.mem_of_getElem? (i := 65) rfl)) rfl
theorem wq_7_67 : Cond.laysFinal "WornWigsModel" "WornWigsModel" "images" "[I" ∈ wg_T := wg_T_of (wg_t7 (List.mem_of_getElem? (i := 67) rfl)) rfl
theorem wu_0 : ∀ w ∈ u_ws RX0 TX0 10, w ∈ wg_T := by
  intro w hw
  obtain ⟨k, hk, rfl⟩ := List.mem_map.mp hw
  have hk := List.mem_range.mp hk
  match k, hk with
  | 0, _ => exact wq_1_174
  | 1, _ => exact wq_1_176
  | 2, _ => exact wq_1_178
  | 3, _ => exact wq_1_180
  | 4, _ => exact wq_1_182
  | 5, _ => exact wq_1_184
  | 6, _ => exact wq_1_186
  | 7, _ => exact wq_1_188
  | 8, _ => exact wq_1_190
  | 9, _ => exact wq_1_192
  | k + 10, h => omega
theorem wc_0 : wg_C 0 RX0 TX0 10 tyX0 := ⟨rfl, wu_0, tyX0_ok, nmX0, by decide⟩
theorem wu_1 : ∀ w ∈ u_ws RX1 TX1 7, w ∈ wg_T := by
  intro w hw
  obtain ⟨k, hk, rfl⟩ := List.mem_map.mp hw
  have hk := List.mem_range.mp hk
  match k, hk with
  | 0, _ => exact wq_2_226
  | 1, _ => exact wq_2_228
  | 2, _ => exact wq_2_230
  | 3, _ => exact wq_2_232
  | 4, _ => exact wq_2_234
  | 5, _ => exact wq_2_236
  | 6, _ => exact wq_2_238
  | k + 7, h => omega
theorem wc_1 : wg_C 1 RX1 TX1 7 tyX1 := ⟨rfl, wu_1, tyX1_ok, nmX1, by decide⟩
theorem wu_2 : ∀ w ∈ u_ws RX2 TX2 6, w ∈ wg_T := by
  intro w hw
  obtain ⟨k, hk, rfl⟩ := List.mem_map.mp hw
  have hk := List.mem_range.mp hk
  match k, hk with
  | 0, _ => exact wq_1_128
  | 1, _ => exact wq_1_130
  | 2, _ => exact wq_1_132
  | 3, _ => exact wq_1_134
  | 4, _ => exact wq_1_136
  | 5, _ => exact wq_1_138
  | k + 6, h => omega
theorem wc_2 : wg_C 2 RX2 TX2 6 tyX2 := ⟨rfl, wu_2, tyX2_ok, nmX2, by decide⟩
theorem wu_3 : ∀ w ∈ u_ws RX3 TX3 9, w ∈ wg_T := by
  intro w hw
  obtain ⟨k, hk, rfl⟩ := List.mem_map.mp hw
  have hk := List.mem_range.mp hk
  match k, hk with
  | 0, _ => exact wq_2_16
  | 1, _ => exact wq_2_18
  | 2, _ => exact wq_2_20
  | 3, _ => exact wq_2_22
  | 4, _ => exact wq_2_24
  | 5, _ => exact wq_2_26
  | 6, _ => exact wq_2_28
  | 7, _ => exact wq_2_30
  | 8, _ => exact wq_2_32
  | k + 9, h => omega
theorem wc_3 : wg_C 3 RX3 TX3 9 tyX3 := ⟨rfl, wu_3, tyX3_ok, nmX3, by decide⟩
theorem wu_4 : ∀ w ∈ u_ws RX4 TX4 5, w ∈ wg_T := by
  intro w hw
  obtain ⟨k, hk, rfl⟩ := List.mem_map.mp hw
  have hk := List.mem_range.mp hk
  match k, hk with
  | 0, _ => exact wq_1_223
  | 1, _ => exact wq_1_225
  | 2, _ => exact wq_1_227
  | 3, _ => exact wq_1_229
  | 4, _ => exact wq_1_231
  | k + 5, h => omega
theorem wc_4 : wg_C 4 RX4 TX4 5 tyX4 := ⟨rfl, wu_4, tyX4_ok, nmX4, by decide⟩
theorem wu_5 : ∀ w ∈ u_ws RX5 TX5 3, w ∈ wg_T := by
  intro w hw
  obtain ⟨k, hk, rfl⟩ := List.mem_map.mp hw
  have hk := List.mem_range.mp hk
  match k, hk with
  | 0, _ => exact wq_2_141
  | 1, _ => exact wq_2_143
  | 2, _ => exact wq_2_145
  | k + 3, h => omega
theorem wc_5 : wg_C 5 RX5 TX5 3 tyX5 := ⟨rfl, wu_5, tyX5_ok, nmX5, by decide⟩
theorem wu_6 : ∀ w ∈ u_ws RX6 TX6 16, w ∈ wg_T := by
  intro w hw
  obtain ⟨k, hk, rfl⟩ := List.mem_map.mp hw
  have hk := List.mem_range.mp hk
  match k, hk with
  | 0, _ => exact wq_2_178
  | 1, _ => exact wq_2_180
  | 2, _ => exact wq_2_182
  | 3, _ => exact wq_2_184
  | 4, _ => exact wq_2_186
  | 5, _ => exact wq_2_188
  | 6, _ => exact wq_2_190
  | 7, _ => exact wq_2_192
  | 8, _ => exact wq_2_194
  | 9, _ => exact wq_2_196
  | 10, _ => exact wq_2_198
  | 11, _ => exact wq_2_200
  | 12, _ => exact wq_2_202
  | 13, _ => exact wq_2_204
  | 14, _ => exact wq_2_206
  | 15, _ => exact wq_2_208
  | k + 16, h => omega
theorem wc_6 : wg_C 6 RX6 TX6 16 tyX6 := ⟨rfl, wu_6, tyX6_ok, nmX6, by decide⟩
theorem wu_7 : ∀ w ∈ u_ws RX7 TX7 2, w ∈ wg_T := by
  intro w hw
  obtain ⟨k, hk, rfl⟩ := List.mem_map.mp hw
  have hk := List.mem_range.mp hk
  match k, hk with
  | 0, _ => exact wq_3_9
  | 1, _ => exact wq_3_11
  | k + 2, h => omega
theorem wc_7 : wg_C 7 RX7 TX7 2 tyX7 := ⟨rfl, wu_7, tyX7_ok, nmX7, by decide⟩
theorem wu_8 : ∀ w ∈ u_ws RX8 TX8 12, w ∈ wg_T := by
  intro w hw
  obtain ⟨k, hk, rfl⟩ := List.mem_map.mp hw
  have hk := List.mem_range.mp hk
  match k, hk with
  | 0, _ => exact wq_2_61
  | 1, _ => exact wq_2_63
  | 2, _ => exact wq_2_65
  | 3, _ => exact wq_2_67
  | 4, _ => exact wq_2_69
  | 5, _ => exact wq_2_71
  | 6, _ => exact wq_2_73
  | 7, _ => exact wq_2_75
  | 8, _ => exact wq_2_77
  | 9, _ => exact wq_2_79
  | 10, _ => exact wq_2_81
  | 11, _ => exact wq_2_83
  | k + 12, h => omega
theorem wc_8 : wg_C 8 RX8 TX8 12 tyX8 := ⟨rfl, wu_8, tyX8_ok, nmX8, by decide⟩
theorem wu_9 : ∀ w ∈ u_ws RX9 TX9 9, w ∈ wg_T := by
  intro w hw
  obtain ⟨k, hk, rfl⟩ := List.mem_map.mp hw
  have hk := List.mem_range.mp hk
  match k, hk with
  | 0, _ => exact wq_1_82
  | 1, _ => exact wq_1_84
  | 2, _ => exact wq_1_86
  | 3, _ => exact wq_1_88
  | 4, _ => exact wq_1_90
  | 5, _ => exact wq_1_92
  | 6, _ => exact wq_1_94
  | 7, _ => exact wq_1_96
  | 8, _ => exact wq_1_98
  | k + 9, h => omega
theorem wc_9 : wg_C 9 RX9 TX9 9 tyX9 := ⟨rfl, wu_9, tyX9_ok, nmX9, by decide⟩
theorem wu_10 : ∀ w ∈ u_ws RX10 TX10 7, w ∈ wg_T := by
  intro w hw
  obtain ⟨k, hk, rfl⟩ := List.mem_map.mp hw
  have hk := List.mem_range.mp hk
  match k, hk with
  | 0, _ => exact wq_2_113
  | 1, _ => exact wq_2_115
  | 2, _ => exact wq_2_117
  | 3, _ => exact wq_2_119
  | 4, _ => exact wq_2_121
  | 5, _ => exact wq_2_123
  | 6, _ => exact wq_2_125
  | k + 7, h => omega
theorem wc_10 : wg_C 10 RX10 TX10 7 tyX10 := ⟨rfl, wu_10, tyX10_ok, nmX10, by decide⟩
theorem wu_11 : ∀ w ∈ u_ws RX11 TX11 7, w ∈ wg_T := by
  intro w hw
  obtain ⟨k, hk, rfl⟩ := List.mem_map.mp hw
  have hk := List.mem_range.mp hk
  match k, hk with
  | 0, _ => exact wq_3_21
  | 1, _ => exact wq_3_23
  | 2, _ => exact wq_3_25
  | 3, _ => exact wq_3_27
  | 4, _ => exact wq_3_29
  | 5, _ => exact wq_3_31
  | 6, _ => exact wq_3_33
  | k + 7, h => omega
theorem wc_11 : wg_C 11 RX11 TX11 7 tyX11 := ⟨rfl, wu_11, tyX11_ok, nmX11, by decide⟩
theorem wu_12 : ∀ w ∈ u_ws RX12 TX12 61, w ∈ wg_T := by
  intro w hw
  obtain ⟨k, hk, rfl⟩ := List.mem_map.mp hw
  have hk := List.mem_range.mp hk
  match k, hk with
  | 0, _ => exact wq_6_187
  | 1, _ => exact wq_6_189
  | 2, _ => exact wq_6_191
  | 3, _ => exact wq_6_193
  | 4, _ => exact wq_6_195
  | 5, _ => exact wq_6_197
  | 6, _ => exact wq_6_199
  | 7, _ => exact wq_6_201
  | 8, _ => exact wq_6_203
  | 9, _ => exact wq_6_205
  | 10, _ => exact wq_6_207
  | 11, _ => exact wq_6_209
  | 12, _ => exact wq_6_211
  | 13, _ => exact wq_6_213
  | 14, _ => exact wq_6_215
  | 15, _ => exact wq_6_217
  | 16, _ => exact wq_6_219
  | 17, _ => exact wq_6_221
  | 18, _ => exact wq_6_223
  | 19, _ => exact wq_6_225
  | 20, _ => exact wq_6_227
  | 21, _ => exact wq_6_229
  | 22, _ => exact wq_6_231
  | 23, _ => exact wq_6_233
  | 24, _ => exact wq_6_235
  | 25, _ => exact wq_6_237
  | 26, _ => exact wq_6_239
  | 27, _ => exact wq_7_1
  | 28, _ => exact wq_7_3
  | 29, _ => exact wq_7_5
  | 30, _ => exact wq_7_7
  | 31, _ => exact wq_7_9
  | 32, _ => exact wq_7_11
  | 33, _ => exact wq_7_13
  | 34, _ => exact wq_7_15
  | 35, _ => exact wq_7_17
  | 36, _ => exact wq_7_19
  | 37, _ => exact wq_7_21
  | 38, _ => exact wq_7_23
  | 39, _ => exact wq_7_25
  | 40, _ => exact wq_7_27
  | 41, _ => exact wq_7_29
  | 42, _ => exact wq_7_31
  | 43, _ => exact wq_7_33
  | 44, _ => exact wq_7_35
  | 45, _ => exact wq_7_37
  | 46, _ => exact wq_7_39
  | 47, _ => exact wq_7_41
  | 48, _ => exact wq_7_43
  | 49, _ => exact wq_7_45
  | 50, _ => exact wq_7_47
  | 51, _ => exact wq_7_49
  | 52, _ => exact wq_7_51
  | 53, _ => exact wq_7_53
  | 54, _ => exact wq_7_55
  | 55, _ => exact wq_7_57
  | 56, _ => exact wq_7_59
  | 57, _ => exact wq_7_61
  | 58, _ => exact wq_7_63
  | 59, _ => exact wq_7_65
  | 60, _ => exact wq_7_67
  | k + 61, h => omega
theorem wc_12 : wg_C 12 RX12 TX12 61 tyX12 := ⟨rfl, wu_12, tyX12_ok, nmX12, by decide⟩
theorem wf_X9_9 : wg_F "WornWigs$Wigs" 9 9 0 1 := ⟨RX9, TX9, 9, tyX9, wc_9, by decide, wq_1_48, rfl⟩
theorem wf_X9_15 : wg_F "WornWigs$Wigs" 15 9 1 1 := ⟨RX9, TX9, 9, tyX9, wc_9, by decide, wq_1_52, rfl⟩
theorem wf_X9_18 : wg_F "WornWigs$Wigs" 18 9 2 1 := ⟨RX9, TX9, 9, tyX9, wc_9, by decide, wq_1_56, rfl⟩
theorem wf_X9_21 : wg_F "WornWigs$Wigs" 21 9 3 1 := ⟨RX9, TX9, 9, tyX9, wc_9, by decide, wq_1_59, rfl⟩
theorem wf_X9_24 : wg_F "WornWigs$Wigs" 24 9 4 1 := ⟨RX9, TX9, 9, tyX9, wc_9, by decide, wq_1_63, rfl⟩
theorem wf_X9_27 : wg_F "WornWigs$Wigs" 27 9 5 1 := ⟨RX9, TX9, 9, tyX9, wc_9, by decide, wq_1_67, rfl⟩
theorem wf_X9_30 : wg_F "WornWigs$Wigs" 30 9 6 1 := ⟨RX9, TX9, 9, tyX9, wc_9, by decide, wq_1_70, rfl⟩
theorem wf_X9_33 : wg_F "WornWigs$Wigs" 33 9 7 1 := ⟨RX9, TX9, 9, tyX9, wc_9, by decide, wq_1_73, rfl⟩
theorem wf_X9_40 : wg_F "WornWigs$Wigs" 40 9 8 0 := ⟨RX9, TX9, 9, tyX9, wc_9, by decide, wq_1_76, rfl⟩
theorem wfp_X9_40 : wg_FP "WornWigs$Wigs" 40 9 8 .int := ⟨RX9, TX9, 9, tyX9, wc_9, by decide, wq_1_76, rfl, rfl, rfl⟩
theorem wf_X2_9 : wg_F "WornWigs$Judges" 9 2 0 1 := ⟨RX2, TX2, 6, tyX2, wc_2, by decide, wq_1_108, rfl⟩
theorem wf_X2_15 : wg_F "WornWigs$Judges" 15 2 1 1 := ⟨RX2, TX2, 6, tyX2, wc_2, by decide, wq_1_111, rfl⟩
theorem wf_X2_18 : wg_F "WornWigs$Judges" 18 2 2 1 := ⟨RX2, TX2, 6, tyX2, wc_2, by decide, wq_1_114, rfl⟩
theorem wf_X2_21 : wg_F "WornWigs$Judges" 21 2 3 1 := ⟨RX2, TX2, 6, tyX2, wc_2, by decide, wq_1_117, rfl⟩
theorem wf_X2_24 : wg_F "WornWigs$Judges" 24 2 4 1 := ⟨RX2, TX2, 6, tyX2, wc_2, by decide, wq_1_120, rfl⟩
theorem wf_X2_31 : wg_F "WornWigs$Judges" 31 2 5 0 := ⟨RX2, TX2, 6, tyX2, wc_2, by decide, wq_1_124, rfl⟩
theorem wfp_X2_31 : wg_FP "WornWigs$Judges" 31 2 5 .int := ⟨RX2, TX2, 6, tyX2, wc_2, by decide, wq_1_124, rfl, rfl, rfl⟩
theorem wf_X0_12 : wg_F "WornWigs$Bench" 12 0 0 12 := ⟨RX0, TX0, 10, tyX0, wc_0, by decide, wq_1_141, rfl⟩
theorem wf_X0_21 : wg_F "WornWigs$Bench" 21 0 1 5 := ⟨RX0, TX0, 10, tyX0, wc_0, by decide, wq_1_146, rfl⟩
theorem wf_X0_25 : wg_F "WornWigs$Bench" 25 0 2 1 := ⟨RX0, TX0, 10, tyX0, wc_0, by decide, wq_1_151, rfl⟩
theorem wf_X0_29 : wg_F "WornWigs$Bench" 29 0 3 1 := ⟨RX0, TX0, 10, tyX0, wc_0, by decide, wq_1_154, rfl⟩
theorem wf_X0_32 : wg_F "WornWigs$Bench" 32 0 4 1 := ⟨RX0, TX0, 10, tyX0, wc_0, by decide, wq_1_157, rfl⟩
theorem wf_X0_35 : wg_F "WornWigs$Bench" 35 0 5 1 := ⟨RX0, TX0, 10, tyX0, wc_0, by decide, wq_1_160, rfl⟩
theorem wf_X0_49 : wg_F "WornWigs$Bench" 49 0 6 0 := ⟨RX0, TX0, 10, tyX0, wc_0, by decide, wq_1_163, rfl⟩
theorem wfp_X0_49 : wg_FP "WornWigs$Bench" 49 0 6 .int := ⟨RX0, TX0, 10, tyX0, wc_0, by decide, wq_1_163, rfl, rfl, rfl⟩
theorem wf_X0_53 : wg_F "WornWigs$Bench" 53 0 7 0 := ⟨RX0, TX0, 10, tyX0, wc_0, by decide, wq_1_166, rfl⟩
theorem wfp_X0_53 : wg_FP "WornWigs$Bench" 53 0 7 .int := ⟨RX0, TX0, 10, tyX0, wc_0, by decide, wq_1_166, rfl, rfl, rfl⟩
theorem wf_X0_56 : wg_F "WornWigs$Bench" 56 0 8 0 := ⟨RX0, TX0, 10, tyX0, wc_0, by decide, wq_1_170, rfl⟩
theorem wfp_X0_56 : wg_FP "WornWigs$Bench" 56 0 8 .int := ⟨RX0, TX0, 10, tyX0, wc_0, by decide, wq_1_170, rfl, rfl, rfl⟩
theorem wf_X0_59 : wg_F "WornWigs$Bench" 59 0 9 0 := ⟨RX0, TX0, 10, tyX0, wc_0, by decide, wq_1_171, rfl⟩
theorem wfp_X0_59 : wg_FP "WornWigs$Bench" 59 0 9 .int := ⟨RX0, TX0, 10, tyX0, wc_0, by decide, wq_1_171, rfl, rfl, rfl⟩
theorem wf_X0_75 : wg_F "WornWigs$Bench" 75 9 8 0 := ⟨RX9, TX9, 9, tyX9, wc_9, by decide, wq_1_78, rfl⟩
theorem wf_X0_84 : wg_F "WornWigs$Bench" 84 9 4 1 := ⟨RX9, TX9, 9, tyX9, wc_9, by decide, wq_1_65, rfl⟩
theorem wf_X1_12 : wg_F "WornWigs$Court" 12 1 5 3 := ⟨RX1, TX1, 7, tyX1, wc_1, by decide, wq_2_224, rfl⟩
theorem wf_X1_27 : wg_F "WornWigs$Court" 27 1 1 3 := ⟨RX1, TX1, 7, tyX1, wc_1, by decide, wq_2_220, rfl⟩
theorem wfp_X1_47 : wg_FP "WornWigs$Court" 47 1 6 .boolean := ⟨RX1, TX1, 7, tyX1, wc_1, by decide, wq_2_225, rfl, rfl, rfl⟩
theorem wf_X4_34 : wg_F "WornWigs$Lines" 34 4 4 0 := ⟨RX4, TX4, 5, tyX4, wc_4, by decide, wq_1_218, rfl⟩
theorem wf_X4_13 : wg_F "WornWigs$Lines" 13 4 0 1 := ⟨RX4, TX4, 5, tyX4, wc_4, by decide, wq_1_204, rfl⟩
theorem wf_X4_19 : wg_F "WornWigs$Lines" 19 4 1 1 := ⟨RX4, TX4, 5, tyX4, wc_4, by decide, wq_1_207, rfl⟩
theorem wf_X4_22 : wg_F "WornWigs$Lines" 22 4 2 1 := ⟨RX4, TX4, 5, tyX4, wc_4, by decide, wq_1_210, rfl⟩
theorem wf_X4_25 : wg_F "WornWigs$Lines" 25 4 3 1 := ⟨RX4, TX4, 5, tyX4, wc_4, by decide, wq_1_214, rfl⟩
theorem wfp_X4_34 : wg_FP "WornWigs$Lines" 34 4 4 .int := ⟨RX4, TX4, 5, tyX4, wc_4, by decide, wq_1_218, rfl, rfl, rfl⟩
theorem wf_X1_47 : wg_F "WornWigs$Court" 47 1 6 0 := ⟨RX1, TX1, 7, tyX1, wc_1, by decide, wq_2_225, rfl⟩
theorem wf_X1_18 : wg_F "WornWigs$Court" 18 1 0 13 := ⟨RX1, TX1, 7, tyX1, wc_1, by decide, wq_2_219, rfl⟩
theorem wf_X1_51 : wg_F "WornWigs$Court" 51 10 1 7 := ⟨RX10, TX10, 7, tyX10, wc_10, by decide, wq_2_92, rfl⟩
theorem wf_X1_55 : wg_F "WornWigs$Court" 55 0 9 0 := ⟨RX0, TX0, 10, tyX0, wc_0, by decide, wq_1_172, rfl⟩
theorem wfp_X1_59 : wg_FP "WornWigs$Court" 59 4 4 .int := ⟨RX4, TX4, 5, tyX4, wc_4, by decide, wq_1_219, rfl, rfl, rfl⟩
theorem wf_X1_64 : wg_F "WornWigs$Court" 64 0 7 0 := ⟨RX0, TX0, 10, tyX0, wc_0, by decide, wq_1_167, rfl⟩
theorem wf_X1_59 : wg_F "WornWigs$Court" 59 4 4 0 := ⟨RX4, TX4, 5, tyX4, wc_4, by decide, wq_1_219, rfl⟩
theorem wfp_X1_55 : wg_FP "WornWigs$Court" 55 0 9 .int := ⟨RX0, TX0, 10, tyX0, wc_0, by decide, wq_1_172, rfl, rfl, rfl⟩
theorem wf_X1_42 : wg_F "WornWigs$Court" 42 1 4 6 := ⟨RX1, TX1, 7, tyX1, wc_1, by decide, wq_2_223, rfl⟩
theorem wf_X1_71 : wg_F "WornWigs$Court" 71 3 7 1 := ⟨RX3, TX3, 9, tyX3, wc_3, by decide, wq_2_14, rfl⟩
theorem wf_X1_37 : wg_F "WornWigs$Court" 37 1 3 5 := ⟨RX1, TX1, 7, tyX1, wc_1, by decide, wq_2_222, rfl⟩
theorem wf_X1_83 : wg_F "WornWigs$Court" 83 2 0 1 := ⟨RX2, TX2, 6, tyX2, wc_2, by decide, wq_1_109, rfl⟩
theorem wf_X1_88 : wg_F "WornWigs$Court" 88 2 1 1 := ⟨RX2, TX2, 6, tyX2, wc_2, by decide, wq_1_112, rfl⟩
theorem wf_X1_91 : wg_F "WornWigs$Court" 91 2 4 1 := ⟨RX2, TX2, 6, tyX2, wc_2, by decide, wq_1_121, rfl⟩
theorem wf_X1_32 : wg_F "WornWigs$Court" 32 1 2 12 := ⟨RX1, TX1, 7, tyX1, wc_1, by decide, wq_2_221, rfl⟩
theorem wf_X1_94 : wg_F "WornWigs$Court" 94 9 0 1 := ⟨RX9, TX9, 9, tyX9, wc_9, by decide, wq_1_49, rfl⟩
theorem wf_X1_99 : wg_F "WornWigs$Court" 99 9 1 1 := ⟨RX9, TX9, 9, tyX9, wc_9, by decide, wq_1_53, rfl⟩
theorem wf_X1_102 : wg_F "WornWigs$Court" 102 9 2 1 := ⟨RX9, TX9, 9, tyX9, wc_9, by decide, wq_1_57, rfl⟩
theorem wf_X1_105 : wg_F "WornWigs$Court" 105 9 3 1 := ⟨RX9, TX9, 9, tyX9, wc_9, by decide, wq_1_60, rfl⟩
theorem wf_X3_30 : wg_F "WornWigs$Law" 30 3 8 1 := ⟨RX3, TX3, 9, tyX3, wc_3, by decide, wq_2_15, rfl⟩
theorem wf_X3_27 : wg_F "WornWigs$Law" 27 3 7 1 := ⟨RX3, TX3, 9, tyX3, wc_3, by decide, wq_2_13, rfl⟩
theorem wf_X3_15 : wg_F "WornWigs$Law" 15 3 1 1 := ⟨RX3, TX3, 9, tyX3, wc_3, by decide, wq_2_1, rfl⟩
theorem wf_X3_9 : wg_F "WornWigs$Law" 9 3 0 1 := ⟨RX3, TX3, 9, tyX3, wc_3, by decide, wq_2_0, rfl⟩
theorem wf_X3_24 : wg_F "WornWigs$Law" 24 3 5 1 := ⟨RX3, TX3, 9, tyX3, wc_3, by decide, wq_2_8, rfl⟩
theorem wf_X3_21 : wg_F "WornWigs$Law" 21 3 4 1 := ⟨RX3, TX3, 9, tyX3, wc_3, by decide, wq_2_6, rfl⟩
theorem wf_X3_41 : wg_F "WornWigs$Law" 41 3 6 0 := ⟨RX3, TX3, 9, tyX3, wc_3, by decide, wq_2_10, rfl⟩
theorem wf_X3_18 : wg_F "WornWigs$Law" 18 3 3 1 := ⟨RX3, TX3, 9, tyX3, wc_3, by decide, wq_2_4, rfl⟩
theorem wf_X1_118 : wg_F "WornWigs$Court" 118 9 5 1 := ⟨RX9, TX9, 9, tyX9, wc_9, by decide, wq_1_68, rfl⟩
theorem wf_X1_121 : wg_F "WornWigs$Court" 121 9 7 1 := ⟨RX9, TX9, 9, tyX9, wc_9, by decide, wq_1_74, rfl⟩
theorem wf_X1_132 : wg_F "WornWigs$Court" 132 2 2 1 := ⟨RX2, TX2, 6, tyX2, wc_2, by decide, wq_1_115, rfl⟩
theorem wf_X1_150 : wg_F "WornWigs$Court" 150 0 2 1 := ⟨RX0, TX0, 10, tyX0, wc_0, by decide, wq_1_152, rfl⟩
theorem wf_X1_151 : wg_F "WornWigs$Court" 151 9 6 1 := ⟨RX9, TX9, 9, tyX9, wc_9, by decide, wq_1_71, rfl⟩
theorem wf_X1_144 : wg_F "WornWigs$Court" 144 0 3 1 := ⟨RX0, TX0, 10, tyX0, wc_0, by decide, wq_1_156, rfl⟩
theorem wf_X1_147 : wg_F "WornWigs$Court" 147 9 4 1 := ⟨RX9, TX9, 9, tyX9, wc_9, by decide, wq_1_66, rfl⟩
theorem wf_X1_163 : wg_F "WornWigs$Court" 163 0 4 1 := ⟨RX0, TX0, 10, tyX0, wc_0, by decide, wq_1_159, rfl⟩
theorem wf_X1_172 : wg_F "WornWigs$Court" 172 0 5 1 := ⟨RX0, TX0, 10, tyX0, wc_0, by decide, wq_1_161, rfl⟩
theorem wf_X1_262 : wg_F "WornWigs$Court" 262 2 3 1 := ⟨RX2, TX2, 6, tyX2, wc_2, by decide, wq_1_119, rfl⟩
theorem wf_X1_252 : wg_F "WornWigs$Court" 252 9 8 0 := ⟨RX9, TX9, 9, tyX9, wc_9, by decide, wq_1_81, rfl⟩
theorem wfp_X1_64 : wg_FP "WornWigs$Court" 64 0 7 .int := ⟨RX0, TX0, 10, tyX0, wc_0, by decide, wq_1_167, rfl, rfl, rfl⟩
theorem wf_X1_245 : wg_F "WornWigs$Court" 245 2 5 0 := ⟨RX2, TX2, 6, tyX2, wc_2, by decide, wq_1_127, rfl⟩
theorem wf_X1_219 : wg_F "WornWigs$Court" 219 4 0 1 := ⟨RX4, TX4, 5, tyX4, wc_4, by decide, wq_1_205, rfl⟩
theorem wf_X1_224 : wg_F "WornWigs$Court" 224 4 2 1 := ⟨RX4, TX4, 5, tyX4, wc_4, by decide, wq_1_212, rfl⟩
theorem wf_X1_227 : wg_F "WornWigs$Court" 227 4 3 1 := ⟨RX4, TX4, 5, tyX4, wc_4, by decide, wq_1_216, rfl⟩
theorem wf_X1_236 : wg_F "WornWigs$Court" 236 10 3 7 := ⟨RX10, TX10, 7, tyX10, wc_10, by decide, wq_2_100, rfl⟩
theorem wf_X1_221 : wg_F "WornWigs$Court" 221 4 1 1 := ⟨RX4, TX4, 5, tyX4, wc_4, by decide, wq_1_208, rfl⟩
theorem wf_X1_216 : wg_F "WornWigs$Court" 216 10 4 7 := ⟨RX10, TX10, 7, tyX10, wc_10, by decide, wq_2_104, rfl⟩
theorem wf_X3_37 : wg_F "WornWigs$Law" 37 3 2 0 := ⟨RX3, TX3, 9, tyX3, wc_3, by decide, wq_2_2, rfl⟩
theorem wfp_X3_37 : wg_FP "WornWigs$Law" 37 3 2 .int := ⟨RX3, TX3, 9, tyX3, wc_3, by decide, wq_2_2, rfl, rfl, rfl⟩
theorem wfp_X3_41 : wg_FP "WornWigs$Law" 41 3 6 .int := ⟨RX3, TX3, 9, tyX3, wc_3, by decide, wq_2_10, rfl, rfl, rfl⟩
theorem wf_X5_11 : wg_F "WornWigs$Past" 11 5 0 2 := ⟨RX5, TX5, 3, tyX5, wc_5, by decide, wq_2_137, rfl⟩
theorem wf_X5_18 : wg_F "WornWigs$Past" 18 5 1 0 := ⟨RX5, TX5, 3, tyX5, wc_5, by decide, wq_2_138, rfl⟩
theorem wfp_X5_18 : wg_FP "WornWigs$Past" 18 5 1 .int := ⟨RX5, TX5, 3, tyX5, wc_5, by decide, wq_2_138, rfl, rfl, rfl⟩
theorem wf_X5_26 : wg_F "WornWigs$Past" 26 5 2 0 := ⟨RX5, TX5, 3, tyX5, wc_5, by decide, wq_2_139, rfl⟩
theorem wfp_X5_26 : wg_FP "WornWigs$Past" 26 5 2 .int := ⟨RX5, TX5, 3, tyX5, wc_5, by decide, wq_2_139, rfl, rfl, rfl⟩
theorem wf_X6_51 : wg_F "WornWigs$Reader" 51 6 2 0 := ⟨RX6, TX6, 16, tyX6, wc_6, by decide, wq_2_160, rfl⟩
theorem wf_X6_9 : wg_F "WornWigs$Reader" 9 6 1 1 := ⟨RX6, TX6, 16, tyX6, wc_6, by decide, wq_2_159, rfl⟩
theorem wfp_X6_51 : wg_FP "WornWigs$Reader" 51 6 2 .int := ⟨RX6, TX6, 16, tyX6, wc_6, by decide, wq_2_160, rfl, rfl, rfl⟩
theorem wf_X6_60 : wg_F "WornWigs$Reader" 60 6 6 0 := ⟨RX6, TX6, 16, tyX6, wc_6, by decide, wq_2_165, rfl⟩
theorem wf_X6_15 : wg_F "WornWigs$Reader" 15 6 3 1 := ⟨RX6, TX6, 16, tyX6, wc_6, by decide, wq_2_162, rfl⟩
theorem wf_X6_18 : wg_F "WornWigs$Reader" 18 6 4 1 := ⟨RX6, TX6, 16, tyX6, wc_6, by decide, wq_2_163, rfl⟩
theorem wf_X6_21 : wg_F "WornWigs$Reader" 21 6 5 1 := ⟨RX6, TX6, 16, tyX6, wc_6, by decide, wq_2_164, rfl⟩
theorem wfp_X6_60 : wg_FP "WornWigs$Reader" 60 6 6 .int := ⟨RX6, TX6, 16, tyX6, wc_6, by decide, wq_2_165, rfl, rfl, rfl⟩
theorem wfp_X6_54 : wg_FP "WornWigs$Reader" 54 6 8 .int := ⟨RX6, TX6, 16, tyX6, wc_6, by decide, wq_2_167, rfl, rfl, rfl⟩
theorem wf_X6_57 : wg_F "WornWigs$Reader" 57 6 7 0 := ⟨RX6, TX6, 16, tyX6, wc_6, by decide, wq_2_166, rfl⟩
theorem wfp_X6_24 : wg_FP "WornWigs$Reader" 24 6 9 .int := ⟨RX6, TX6, 16, tyX6, wc_6, by decide, wq_2_169, rfl, rfl, rfl⟩
theorem wfp_X6_57 : wg_FP "WornWigs$Reader" 57 6 7 .int := ⟨RX6, TX6, 16, tyX6, wc_6, by decide, wq_2_166, rfl, rfl, rfl⟩
theorem wf_X6_47 : wg_F "WornWigs$Reader" 47 6 0 13 := ⟨RX6, TX6, 16, tyX6, wc_6, by decide, wq_2_158, rfl⟩
theorem wf_X6_105 : wg_F "WornWigs$Reader" 105 10 0 3 := ⟨RX10, TX10, 7, tyX10, wc_10, by decide, wq_2_90, rfl⟩
theorem wf_X6_111 : wg_F "WornWigs$Reader" 111 0 0 12 := ⟨RX0, TX0, 10, tyX0, wc_0, by decide, wq_1_145, rfl⟩
theorem wf_X6_117 : wg_F "WornWigs$Reader" 117 9 8 0 := ⟨RX9, TX9, 9, tyX9, wc_9, by decide, wq_1_80, rfl⟩
theorem wf_X6_125 : wg_F "WornWigs$Reader" 125 0 1 5 := ⟨RX0, TX0, 10, tyX0, wc_0, by decide, wq_1_150, rfl⟩
theorem wf_X6_129 : wg_F "WornWigs$Reader" 129 2 5 0 := ⟨RX2, TX2, 6, tyX2, wc_2, by decide, wq_1_126, rfl⟩
theorem wf_X6_40 : wg_F "WornWigs$Reader" 40 6 11 7 := ⟨RX6, TX6, 16, tyX6, wc_6, by decide, wq_2_172, rfl⟩
theorem wf_X6_132 : wg_F "WornWigs$Reader" 132 4 4 0 := ⟨RX4, TX4, 5, tyX4, wc_4, by decide, wq_1_222, rfl⟩
theorem wf_X6_173 : wg_F "WornWigs$Reader" 173 0 6 0 := ⟨RX0, TX0, 10, tyX0, wc_0, by decide, wq_1_165, rfl⟩
theorem wf_X6_150 : wg_F "WornWigs$Reader" 150 10 5 7 := ⟨RX10, TX10, 7, tyX10, wc_10, by decide, wq_2_108, rfl⟩
theorem wf_X6_147 : wg_F "WornWigs$Reader" 147 10 4 7 := ⟨RX10, TX10, 7, tyX10, wc_10, by decide, wq_2_103, rfl⟩
theorem wf_X6_140 : wg_F "WornWigs$Reader" 140 10 3 7 := ⟨RX10, TX10, 7, tyX10, wc_10, by decide, wq_2_99, rfl⟩
theorem wfp_X6_132 : wg_FP "WornWigs$Reader" 132 4 4 .int := ⟨RX4, TX4, 5, tyX4, wc_4, by decide, wq_1_222, rfl, rfl, rfl⟩
theorem wf_X6_31 : wg_F "WornWigs$Reader" 31 6 10 6 := ⟨RX6, TX6, 16, tyX6, wc_6, by decide, wq_2_171, rfl⟩
theorem wf_X6_219 : wg_F "WornWigs$Reader" 219 6 13 0 := ⟨RX6, TX6, 16, tyX6, wc_6, by decide, wq_2_175, rfl⟩
theorem wf_X6_44 : wg_F "WornWigs$Reader" 44 6 12 1 := ⟨RX6, TX6, 16, tyX6, wc_6, by decide, wq_2_174, rfl⟩
theorem wfp_X6_219 : wg_FP "WornWigs$Reader" 219 6 13 .int := ⟨RX6, TX6, 16, tyX6, wc_6, by decide, wq_2_175, rfl, rfl, rfl⟩
theorem wfp_X6_225 : wg_FP "WornWigs$Reader" 225 6 15 .int := ⟨RX6, TX6, 16, tyX6, wc_6, by decide, wq_2_177, rfl, rfl, rfl⟩
theorem wf_X6_222 : wg_F "WornWigs$Reader" 222 6 14 0 := ⟨RX6, TX6, 16, tyX6, wc_6, by decide, wq_2_176, rfl⟩
theorem wfp_X6_222 : wg_FP "WornWigs$Reader" 222 6 14 .int := ⟨RX6, TX6, 16, tyX6, wc_6, by decide, wq_2_176, rfl, rfl, rfl⟩
theorem wf_X6_225 : wg_F "WornWigs$Reader" 225 6 15 0 := ⟨RX6, TX6, 16, tyX6, wc_6, by decide, wq_2_177, rfl⟩
theorem wf_X6_206 : wg_F "WornWigs$Reader" 206 3 5 1 := ⟨RX3, TX3, 9, tyX3, wc_3, by decide, wq_2_9, rfl⟩
theorem wf_X6_200 : wg_F "WornWigs$Reader" 200 3 2 0 := ⟨RX3, TX3, 9, tyX3, wc_3, by decide, wq_2_3, rfl⟩
theorem wf_X6_189 : wg_F "WornWigs$Reader" 189 3 6 0 := ⟨RX3, TX3, 9, tyX3, wc_3, by decide, wq_2_12, rfl⟩
theorem wfp_X6_189 : wg_FP "WornWigs$Reader" 189 3 6 .int := ⟨RX3, TX3, 9, tyX3, wc_3, by decide, wq_2_12, rfl, rfl, rfl⟩
theorem wf_X6_194 : wg_F "WornWigs$Reader" 194 3 3 1 := ⟨RX3, TX3, 9, tyX3, wc_3, by decide, wq_2_5, rfl⟩
theorem wf_X6_197 : wg_F "WornWigs$Reader" 197 3 4 1 := ⟨RX3, TX3, 9, tyX3, wc_3, by decide, wq_2_7, rfl⟩
theorem wf_X6_185 : wg_F "WornWigs$Reader" 185 10 2 6 := ⟨RX10, TX10, 7, tyX10, wc_10, by decide, wq_2_97, rfl⟩
theorem wf_X7_9 : wg_F "WornWigs$Thought" 9 7 0 13 := ⟨RX7, TX7, 2, tyX7, wc_7, by decide, wq_3_7, rfl⟩
theorem wf_X7_19 : wg_F "WornWigs$Thought" 19 10 0 3 := ⟨RX10, TX10, 7, tyX10, wc_10, by decide, wq_2_89, rfl⟩
theorem wf_X7_25 : wg_F "WornWigs$Thought" 25 0 1 5 := ⟨RX0, TX0, 10, tyX0, wc_0, by decide, wq_1_148, rfl⟩
theorem wf_X7_31 : wg_F "WornWigs$Thought" 31 2 5 0 := ⟨RX2, TX2, 6, tyX2, wc_2, by decide, wq_1_123, rfl⟩
theorem wf_X7_15 : wg_F "WornWigs$Thought" 15 7 1 4 := ⟨RX7, TX7, 2, tyX7, wc_7, by decide, wq_3_8, rfl⟩
theorem wf_X7_62 : wg_F "WornWigs$Thought" 62 4 4 0 := ⟨RX4, TX4, 5, tyX4, wc_4, by decide, wq_1_220, rfl⟩
theorem wf_X7_65 : wg_F "WornWigs$Thought" 65 4 2 1 := ⟨RX4, TX4, 5, tyX4, wc_4, by decide, wq_1_211, rfl⟩
theorem wf_X7_69 : wg_F "WornWigs$Thought" 69 4 3 1 := ⟨RX4, TX4, 5, tyX4, wc_4, by decide, wq_1_215, rfl⟩
theorem wf_X7_58 : wg_F "WornWigs$Thought" 58 10 5 7 := ⟨RX10, TX10, 7, tyX10, wc_10, by decide, wq_2_107, rfl⟩
theorem wf_X7_78 : wg_F "WornWigs$Thought" 78 0 0 12 := ⟨RX0, TX0, 10, tyX0, wc_0, by decide, wq_1_144, rfl⟩
theorem wf_X7_82 : wg_F "WornWigs$Thought" 82 9 0 1 := ⟨RX9, TX9, 9, tyX9, wc_9, by decide, wq_1_50, rfl⟩
theorem wf_X7_87 : wg_F "WornWigs$Thought" 87 9 1 1 := ⟨RX9, TX9, 9, tyX9, wc_9, by decide, wq_1_55, rfl⟩
theorem wf_X7_94 : wg_F "WornWigs$Thought" 94 9 3 1 := ⟨RX9, TX9, 9, tyX9, wc_9, by decide, wq_1_61, rfl⟩
theorem wf_X7_101 : wg_F "WornWigs$Thought" 101 8 3 0 := ⟨RX8, TX8, 12, tyX8, wc_8, by decide, wq_2_48, rfl⟩
theorem wf_X7_106 : wg_F "WornWigs$Thought" 106 8 0 1 := ⟨RX8, TX8, 12, tyX8, wc_8, by decide, wq_2_42, rfl⟩
theorem wf_X7_109 : wg_F "WornWigs$Thought" 109 8 1 1 := ⟨RX8, TX8, 12, tyX8, wc_8, by decide, wq_2_44, rfl⟩
theorem wf_X7_116 : wg_F "WornWigs$Thought" 116 8 2 1 := ⟨RX8, TX8, 12, tyX8, wc_8, by decide, wq_2_46, rfl⟩
theorem wf_X7_97 : wg_F "WornWigs$Thought" 97 10 6 11 := ⟨RX10, TX10, 7, tyX10, wc_10, by decide, wq_2_111, rfl⟩
theorem wf_X7_119 : wg_F "WornWigs$Thought" 119 9 8 0 := ⟨RX9, TX9, 9, tyX9, wc_9, by decide, wq_1_79, rfl⟩
theorem wf_X8_9 : wg_F "WornWigs$Told" 9 8 0 1 := ⟨RX8, TX8, 12, tyX8, wc_8, by decide, wq_2_41, rfl⟩
theorem wf_X8_15 : wg_F "WornWigs$Told" 15 8 1 1 := ⟨RX8, TX8, 12, tyX8, wc_8, by decide, wq_2_43, rfl⟩
theorem wf_X8_18 : wg_F "WornWigs$Told" 18 8 2 1 := ⟨RX8, TX8, 12, tyX8, wc_8, by decide, wq_2_45, rfl⟩
theorem wf_X8_43 : wg_F "WornWigs$Told" 43 8 3 0 := ⟨RX8, TX8, 12, tyX8, wc_8, by decide, wq_2_47, rfl⟩
theorem wfp_X8_43 : wg_FP "WornWigs$Told" 43 8 3 .int := ⟨RX8, TX8, 12, tyX8, wc_8, by decide, wq_2_47, rfl, rfl, rfl⟩
theorem wf_X8_21 : wg_F "WornWigs$Told" 21 8 4 1 := ⟨RX8, TX8, 12, tyX8, wc_8, by decide, wq_2_50, rfl⟩
theorem wf_X8_24 : wg_F "WornWigs$Told" 24 8 5 1 := ⟨RX8, TX8, 12, tyX8, wc_8, by decide, wq_2_51, rfl⟩
theorem wf_X8_47 : wg_F "WornWigs$Told" 47 8 6 0 := ⟨RX8, TX8, 12, tyX8, wc_8, by decide, wq_2_52, rfl⟩
theorem wfp_X8_47 : wg_FP "WornWigs$Told" 47 8 6 .int := ⟨RX8, TX8, 12, tyX8, wc_8, by decide, wq_2_52, rfl, rfl, rfl⟩
theorem wf_X8_27 : wg_F "WornWigs$Told" 27 8 7 1 := ⟨RX8, TX8, 12, tyX8, wc_8, by decide, wq_2_54, rfl⟩
theorem wf_X8_30 : wg_F "WornWigs$Told" 30 8 8 1 := ⟨RX8, TX8, 12, tyX8, wc_8, by decide, wq_2_56, rfl⟩
theorem wf_X8_33 : wg_F "WornWigs$Told" 33 8 9 1 := ⟨RX8, TX8, 12, tyX8, wc_8, by decide, wq_2_57, rfl⟩
theorem wf_X8_50 : wg_F "WornWigs$Told" 50 8 10 0 := ⟨RX8, TX8, 12, tyX8, wc_8, by decide, wq_2_58, rfl⟩
theorem wfp_X8_50 : wg_FP "WornWigs$Told" 50 8 10 .int := ⟨RX8, TX8, 12, tyX8, wc_8, by decide, wq_2_58, rfl, rfl, rfl⟩
theorem wf_X8_36 : wg_F "WornWigs$Told" 36 8 11 1 := ⟨RX8, TX8, 12, tyX8, wc_8, by decide, wq_2_60, rfl⟩
theorem wf_X10_12 : wg_F "WornWigs$World" 12 10 0 3 := ⟨RX10, TX10, 7, tyX10, wc_10, by decide, wq_2_86, rfl⟩
theorem wf_X10_23 : wg_F "WornWigs$World" 23 10 1 7 := ⟨RX10, TX10, 7, tyX10, wc_10, by decide, wq_2_91, rfl⟩
theorem wf_X10_30 : wg_F "WornWigs$World" 30 10 2 6 := ⟨RX10, TX10, 7, tyX10, wc_10, by decide, wq_2_94, rfl⟩
theorem wf_X10_34 : wg_F "WornWigs$World" 34 10 3 7 := ⟨RX10, TX10, 7, tyX10, wc_10, by decide, wq_2_98, rfl⟩
theorem wf_X10_37 : wg_F "WornWigs$World" 37 10 4 7 := ⟨RX10, TX10, 7, tyX10, wc_10, by decide, wq_2_102, rfl⟩
theorem wf_X10_40 : wg_F "WornWigs$World" 40 10 5 7 := ⟨RX10, TX10, 7, tyX10, wc_10, by decide, wq_2_106, rfl⟩
theorem wf_X10_46 : wg_F "WornWigs$World" 46 10 6 11 := ⟨RX10, TX10, 7, tyX10, wc_10, by decide, wq_2_110, rfl⟩
theorem wf_X11_12 : wg_F "WornWigs" 12 11 0 13 := ⟨RX11, TX11, 7, tyX11, wc_11, by decide, wq_3_14, rfl⟩
theorem wf_X11_51 : wg_F "WornWigs" 51 10 0 3 := ⟨RX10, TX10, 7, tyX10, wc_10, by decide, wq_2_88, rfl⟩
theorem wf_X11_55 : wg_F "WornWigs" 55 0 8 0 := ⟨RX0, TX0, 10, tyX0, wc_0, by decide, wq_1_169, rfl⟩
theorem wf_X11_22 : wg_F "WornWigs" 22 11 2 8 := ⟨RX11, TX11, 7, tyX11, wc_11, by decide, wq_3_16, rfl⟩
theorem wfp_X11_55 : wg_FP "WornWigs" 55 0 8 .int := ⟨RX0, TX0, 10, tyX0, wc_0, by decide, wq_1_169, rfl, rfl, rfl⟩
theorem wf_X11_64 : wg_F "WornWigs" 64 0 0 12 := ⟨RX0, TX0, 10, tyX0, wc_0, by decide, wq_1_143, rfl⟩
theorem wf_X11_68 : wg_F "WornWigs" 68 9 8 0 := ⟨RX9, TX9, 9, tyX9, wc_9, by decide, wq_1_77, rfl⟩
theorem wf_X11_81 : wg_F "WornWigs" 81 0 1 5 := ⟨RX0, TX0, 10, tyX0, wc_0, by decide, wq_1_149, rfl⟩
theorem wf_X11_85 : wg_F "WornWigs" 85 2 5 0 := ⟨RX2, TX2, 6, tyX2, wc_2, by decide, wq_1_125, rfl⟩
theorem wf_X11_89 : wg_F "WornWigs" 89 0 6 0 := ⟨RX0, TX0, 10, tyX0, wc_0, by decide, wq_1_164, rfl⟩
theorem wf_X11_99 : wg_F "WornWigs" 99 9 4 1 := ⟨RX9, TX9, 9, tyX9, wc_9, by decide, wq_1_64, rfl⟩
theorem wf_X11_108 : wg_F "WornWigs" 108 2 0 1 := ⟨RX2, TX2, 6, tyX2, wc_2, by decide, wq_1_110, rfl⟩
theorem wf_X11_115 : wg_F "WornWigs" 115 2 1 1 := ⟨RX2, TX2, 6, tyX2, wc_2, by decide, wq_1_113, rfl⟩
theorem wf_X11_118 : wg_F "WornWigs" 118 9 1 1 := ⟨RX9, TX9, 9, tyX9, wc_9, by decide, wq_1_54, rfl⟩
theorem wf_X11_124 : wg_F "WornWigs" 124 0 3 1 := ⟨RX0, TX0, 10, tyX0, wc_0, by decide, wq_1_155, rfl⟩
theorem wf_X11_38 : wg_F "WornWigs" 38 11 4 4 := ⟨RX11, TX11, 7, tyX11, wc_11, by decide, wq_3_18, rfl⟩
theorem wf_X11_139 : wg_F "WornWigs" 139 0 4 1 := ⟨RX0, TX0, 10, tyX0, wc_0, by decide, wq_1_158, rfl⟩
theorem wf_X11_149 : wg_F "WornWigs" 149 0 7 0 := ⟨RX0, TX0, 10, tyX0, wc_0, by decide, wq_1_168, rfl⟩
theorem wf_X11_31 : wg_F "WornWigs" 31 11 3 9 := ⟨RX11, TX11, 7, tyX11, wc_11, by decide, wq_3_17, rfl⟩
theorem wf_X11_163 : wg_F "WornWigs" 163 6 2 0 := ⟨RX6, TX6, 16, tyX6, wc_6, by decide, wq_2_161, rfl⟩
theorem wfp_X11_163 : wg_FP "WornWigs" 163 6 2 .int := ⟨RX6, TX6, 16, tyX6, wc_6, by decide, wq_2_161, rfl, rfl, rfl⟩
theorem wf_X11_191 : wg_F "WornWigs" 191 6 8 0 := ⟨RX6, TX6, 16, tyX6, wc_6, by decide, wq_2_168, rfl⟩
theorem wf_X11_194 : wg_F "WornWigs" 194 6 9 0 := ⟨RX6, TX6, 16, tyX6, wc_6, by decide, wq_2_170, rfl⟩
theorem wf_X11_197 : wg_F "WornWigs" 197 9 0 1 := ⟨RX9, TX9, 9, tyX9, wc_9, by decide, wq_1_51, rfl⟩
theorem wf_X11_200 : wg_F "WornWigs" 200 9 2 1 := ⟨RX9, TX9, 9, tyX9, wc_9, by decide, wq_1_58, rfl⟩
theorem wf_X11_203 : wg_F "WornWigs" 203 9 3 1 := ⟨RX9, TX9, 9, tyX9, wc_9, by decide, wq_1_62, rfl⟩
theorem wf_X11_216 : wg_F "WornWigs" 216 9 5 1 := ⟨RX9, TX9, 9, tyX9, wc_9, by decide, wq_1_69, rfl⟩
theorem wf_X11_219 : wg_F "WornWigs" 219 9 6 1 := ⟨RX9, TX9, 9, tyX9, wc_9, by decide, wq_1_72, rfl⟩
theorem wf_X11_222 : wg_F "WornWigs" 222 9 7 1 := ⟨RX9, TX9, 9, tyX9, wc_9, by decide, wq_1_75, rfl⟩
theorem wf_X11_229 : wg_F "WornWigs" 229 2 2 1 := ⟨RX2, TX2, 6, tyX2, wc_2, by decide, wq_1_116, rfl⟩
theorem wf_X11_232 : wg_F "WornWigs" 232 2 3 1 := ⟨RX2, TX2, 6, tyX2, wc_2, by decide, wq_1_118, rfl⟩
theorem wf_X11_235 : wg_F "WornWigs" 235 2 4 1 := ⟨RX2, TX2, 6, tyX2, wc_2, by decide, wq_1_122, rfl⟩
theorem wf_X11_242 : wg_F "WornWigs" 242 0 2 1 := ⟨RX0, TX0, 10, tyX0, wc_0, by decide, wq_1_153, rfl⟩
theorem wf_X11_243 : wg_F "WornWigs" 243 0 5 1 := ⟨RX0, TX0, 10, tyX0, wc_0, by decide, wq_1_162, rfl⟩
theorem wf_X11_246 : wg_F "WornWigs" 246 0 9 0 := ⟨RX0, TX0, 10, tyX0, wc_0, by decide, wq_1_173, rfl⟩
theorem wf_X11_249 : wg_F "WornWigs" 249 10 1 7 := ⟨RX10, TX10, 7, tyX10, wc_10, by decide, wq_2_93, rfl⟩
theorem wf_X11_252 : wg_F "WornWigs" 252 4 0 1 := ⟨RX4, TX4, 5, tyX4, wc_4, by decide, wq_1_206, rfl⟩
theorem wf_X11_254 : wg_F "WornWigs" 254 4 1 1 := ⟨RX4, TX4, 5, tyX4, wc_4, by decide, wq_1_209, rfl⟩
theorem wf_X11_257 : wg_F "WornWigs" 257 4 2 1 := ⟨RX4, TX4, 5, tyX4, wc_4, by decide, wq_1_213, rfl⟩
theorem wf_X11_260 : wg_F "WornWigs" 260 4 3 1 := ⟨RX4, TX4, 5, tyX4, wc_4, by decide, wq_1_217, rfl⟩
theorem wf_X11_47 : wg_F "WornWigs" 47 11 5 10 := ⟨RX11, TX11, 7, tyX11, wc_11, by decide, wq_3_19, rfl⟩
theorem wf_X11_317 : wg_F "WornWigs" 317 10 6 11 := ⟨RX10, TX10, 7, tyX10, wc_10, by decide, wq_2_112, rfl⟩
theorem wfp_X11_321 : wg_FP "WornWigs" 321 8 3 .int := ⟨RX8, TX8, 12, tyX8, wc_8, by decide, wq_2_49, rfl, rfl, rfl⟩
theorem wfp_X11_335 : wg_FP "WornWigs" 335 8 6 .int := ⟨RX8, TX8, 12, tyX8, wc_8, by decide, wq_2_53, rfl, rfl, rfl⟩
theorem wf_X11_345 : wg_F "WornWigs" 345 8 7 1 := ⟨RX8, TX8, 12, tyX8, wc_8, by decide, wq_2_55, rfl⟩
theorem wfp_X11_357 : wg_FP "WornWigs" 357 8 10 .int := ⟨RX8, TX8, 12, tyX8, wc_8, by decide, wq_2_59, rfl, rfl, rfl⟩
theorem wf_X11_357 : wg_F "WornWigs" 357 8 10 0 := ⟨RX8, TX8, 12, tyX8, wc_8, by decide, wq_2_59, rfl⟩
theorem wf_X11_379 : wg_F "WornWigs" 379 11 6 0 := ⟨RX11, TX11, 7, tyX11, wc_11, by decide, wq_3_20, rfl⟩
theorem wf_X11_16 : wg_F "WornWigs" 16 11 1 13 := ⟨RX11, TX11, 7, tyX11, wc_11, by decide, wq_3_15, rfl⟩
theorem wfp_X11_379 : wg_FP "WornWigs" 379 11 6 .boolean := ⟨RX11, TX11, 7, tyX11, wc_11, by decide, wq_3_20, rfl, rfl, rfl⟩
theorem wf_X11_173 : wg_F "WornWigs" 173 10 2 6 := ⟨RX10, TX10, 7, tyX10, wc_10, by decide, wq_2_96, rfl⟩
theorem wf_X11_177 : wg_F "WornWigs" 177 3 6 0 := ⟨RX3, TX3, 9, tyX3, wc_3, by decide, wq_2_11, rfl⟩
theorem wf_X11_389 : wg_F "WornWigs" 389 10 3 7 := ⟨RX10, TX10, 7, tyX10, wc_10, by decide, wq_2_101, rfl⟩
theorem wf_X11_188 : wg_F "WornWigs" 188 4 4 0 := ⟨RX4, TX4, 5, tyX4, wc_4, by decide, wq_1_221, rfl⟩
theorem wf_X11_392 : wg_F "WornWigs" 392 10 4 7 := ⟨RX10, TX10, 7, tyX10, wc_10, by decide, wq_2_105, rfl⟩
theorem wf_X11_395 : wg_F "WornWigs" 395 10 5 7 := ⟨RX10, TX10, 7, tyX10, wc_10, by decide, wq_2_109, rfl⟩
theorem wf_X11_398 : wg_F "WornWigs" 398 5 2 0 := ⟨RX5, TX5, 3, tyX5, wc_5, by decide, wq_2_140, rfl⟩
theorem wf_X12_116 : wg_F "WornWigsModel" 116 12 3 0 := ⟨RX12, TX12, 61, tyX12, wc_12, by decide, wq_6_129, rfl⟩
theorem wfp_X12_116 : wg_FP "WornWigsModel" 116 12 3 .int := ⟨RX12, TX12, 61, tyX12, wc_12, by decide, wq_6_129, rfl, rfl, rfl⟩
theorem wf_X12_13 : wg_F "WornWigsModel" 13 12 2 1 := ⟨RX12, TX12, 61, tyX12, wc_12, by decide, wq_6_128, rfl⟩
theorem wf_X12_7 : wg_F "WornWigsModel" 7 12 1 1 := ⟨RX12, TX12, 61, tyX12, wc_12, by decide, wq_6_127, rfl⟩
theorem wfp_X12_113 : wg_FP "WornWigsModel" 113 12 0 .int := ⟨RX12, TX12, 61, tyX12, wc_12, by decide, wq_6_126, rfl, rfl, rfl⟩
theorem wfp_X12_119 : wg_FP "WornWigsModel" 119 12 5 .boolean := ⟨RX12, TX12, 61, tyX12, wc_12, by decide, wq_6_131, rfl, rfl, rfl⟩
theorem wf_X12_16 : wg_F "WornWigsModel" 16 12 4 1 := ⟨RX12, TX12, 61, tyX12, wc_12, by decide, wq_6_130, rfl⟩
theorem wf_X12_125 : wg_F "WornWigsModel" 125 12 6 0 := ⟨RX12, TX12, 61, tyX12, wc_12, by decide, wq_6_132, rfl⟩
theorem wf_X12_128 : wg_F "WornWigsModel" 128 12 7 0 := ⟨RX12, TX12, 61, tyX12, wc_12, by decide, wq_6_133, rfl⟩
theorem wf_X12_131 : wg_F "WornWigsModel" 131 12 8 0 := ⟨RX12, TX12, 61, tyX12, wc_12, by decide, wq_6_134, rfl⟩
theorem wf_X12_19 : wg_F "WornWigsModel" 19 12 9 1 := ⟨RX12, TX12, 61, tyX12, wc_12, by decide, wq_6_135, rfl⟩
theorem wfp_X12_125 : wg_FP "WornWigsModel" 125 12 6 .int := ⟨RX12, TX12, 61, tyX12, wc_12, by decide, wq_6_132, rfl, rfl, rfl⟩
theorem wf_X12_22 : wg_F "WornWigsModel" 22 12 10 1 := ⟨RX12, TX12, 61, tyX12, wc_12, by decide, wq_6_136, rfl⟩
theorem wfp_X12_128 : wg_FP "WornWigsModel" 128 12 7 .int := ⟨RX12, TX12, 61, tyX12, wc_12, by decide, wq_6_133, rfl, rfl, rfl⟩
theorem wf_X12_25 : wg_F "WornWigsModel" 25 12 11 1 := ⟨RX12, TX12, 61, tyX12, wc_12, by decide, wq_6_137, rfl⟩
theorem wf_X12_28 : wg_F "WornWigsModel" 28 12 12 1 := ⟨RX12, TX12, 61, tyX12, wc_12, by decide, wq_6_138, rfl⟩
theorem wfp_X12_131 : wg_FP "WornWigsModel" 131 12 8 .int := ⟨RX12, TX12, 61, tyX12, wc_12, by decide, wq_6_134, rfl, rfl, rfl⟩
theorem wf_X12_34 : wg_F "WornWigsModel" 34 12 14 1 := ⟨RX12, TX12, 61, tyX12, wc_12, by decide, wq_6_140, rfl⟩
theorem wf_X12_173 : wg_F "WornWigsModel" 173 12 15 0 := ⟨RX12, TX12, 61, tyX12, wc_12, by decide, wq_6_141, rfl⟩
theorem wfp_X12_173 : wg_FP "WornWigsModel" 173 12 15 .int := ⟨RX12, TX12, 61, tyX12, wc_12, by decide, wq_6_141, rfl, rfl, rfl⟩
theorem wf_X12_37 : wg_F "WornWigsModel" 37 12 20 1 := ⟨RX12, TX12, 61, tyX12, wc_12, by decide, wq_6_146, rfl⟩
theorem wf_X12_179 : wg_F "WornWigsModel" 179 12 16 0 := ⟨RX12, TX12, 61, tyX12, wc_12, by decide, wq_6_142, rfl⟩
theorem wfp_X12_179 : wg_FP "WornWigsModel" 179 12 16 .int := ⟨RX12, TX12, 61, tyX12, wc_12, by decide, wq_6_142, rfl, rfl, rfl⟩
theorem wfp_X12_191 : wg_FP "WornWigsModel" 191 12 19 .int := ⟨RX12, TX12, 61, tyX12, wc_12, by decide, wq_6_145, rfl, rfl, rfl⟩
theorem wf_X12_185 : wg_F "WornWigsModel" 185 12 17 0 := ⟨RX12, TX12, 61, tyX12, wc_12, by decide, wq_6_143, rfl⟩
theorem wfp_X12_188 : wg_FP "WornWigsModel" 188 12 18 .int := ⟨RX12, TX12, 61, tyX12, wc_12, by decide, wq_6_144, rfl, rfl, rfl⟩
theorem wf_X12_191 : wg_F "WornWigsModel" 191 12 19 0 := ⟨RX12, TX12, 61, tyX12, wc_12, by decide, wq_6_145, rfl⟩
theorem wfp_X12_185 : wg_FP "WornWigsModel" 185 12 17 .int := ⟨RX12, TX12, 61, tyX12, wc_12, by decide, wq_6_143, rfl, rfl, rfl⟩
theorem wfp_X12_206 : wg_FP "WornWigsModel" 206 12 33 .int := ⟨RX12, TX12, 61, tyX12, wc_12, by decide, wq_6_159, rfl, rfl, rfl⟩
theorem wfp_X12_209 : wg_FP "WornWigsModel" 209 12 34 .int := ⟨RX12, TX12, 61, tyX12, wc_12, by decide, wq_6_160, rfl, rfl, rfl⟩
theorem wf_X12_188 : wg_F "WornWigsModel" 188 12 18 0 := ⟨RX12, TX12, 61, tyX12, wc_12, by decide, wq_6_144, rfl⟩
theorem wf_X12_55 : wg_F "WornWigsModel" 55 12 26 1 := ⟨RX12, TX12, 61, tyX12, wc_12, by decide, wq_6_152, rfl⟩
theorem wf_X12_212 : wg_F "WornWigsModel" 212 12 29 0 := ⟨RX12, TX12, 61, tyX12, wc_12, by decide, wq_6_155, rfl⟩
theorem wf_X12_58 : wg_F "WornWigsModel" 58 12 27 1 := ⟨RX12, TX12, 61, tyX12, wc_12, by decide, wq_6_153, rfl⟩
theorem wfp_X12_212 : wg_FP "WornWigsModel" 212 12 29 .int := ⟨RX12, TX12, 61, tyX12, wc_12, by decide, wq_6_155, rfl, rfl, rfl⟩
theorem wf_X12_61 : wg_F "WornWigsModel" 61 12 31 1 := ⟨RX12, TX12, 61, tyX12, wc_12, by decide, wq_6_157, rfl⟩
theorem wf_X12_241 : wg_F "WornWigsModel" 241 12 32 0 := ⟨RX12, TX12, 61, tyX12, wc_12, by decide, wq_6_158, rfl⟩
theorem wfp_X12_241 : wg_FP "WornWigsModel" 241 12 32 .int := ⟨RX12, TX12, 61, tyX12, wc_12, by decide, wq_6_158, rfl, rfl, rfl⟩
theorem wf_X12_244 : wg_F "WornWigsModel" 244 12 30 0 := ⟨RX12, TX12, 61, tyX12, wc_12, by decide, wq_6_156, rfl⟩
theorem wfp_X12_244 : wg_FP "WornWigsModel" 244 12 30 .int := ⟨RX12, TX12, 61, tyX12, wc_12, by decide, wq_6_156, rfl, rfl, rfl⟩
theorem wf_X12_52 : wg_F "WornWigsModel" 52 12 25 1 := ⟨RX12, TX12, 61, tyX12, wc_12, by decide, wq_6_151, rfl⟩
theorem wf_X12_43 : wg_F "WornWigsModel" 43 12 22 1 := ⟨RX12, TX12, 61, tyX12, wc_12, by decide, wq_6_148, rfl⟩
theorem wf_X12_46 : wg_F "WornWigsModel" 46 12 23 1 := ⟨RX12, TX12, 61, tyX12, wc_12, by decide, wq_6_149, rfl⟩
theorem wf_X12_49 : wg_F "WornWigsModel" 49 12 24 1 := ⟨RX12, TX12, 61, tyX12, wc_12, by decide, wq_6_150, rfl⟩
theorem wf_X12_40 : wg_F "WornWigsModel" 40 12 21 1 := ⟨RX12, TX12, 61, tyX12, wc_12, by decide, wq_6_147, rfl⟩
theorem wf_X12_266 : wg_F "WornWigsModel" 266 12 28 0 := ⟨RX12, TX12, 61, tyX12, wc_12, by decide, wq_6_154, rfl⟩
theorem wf_X12_68 : wg_F "WornWigsModel" 68 12 38 1 := ⟨RX12, TX12, 61, tyX12, wc_12, by decide, wq_6_164, rfl⟩
theorem wf_X12_71 : wg_F "WornWigsModel" 71 12 40 1 := ⟨RX12, TX12, 61, tyX12, wc_12, by decide, wq_6_166, rfl⟩
theorem wf_X12_74 : wg_F "WornWigsModel" 74 12 42 1 := ⟨RX12, TX12, 61, tyX12, wc_12, by decide, wq_6_168, rfl⟩
theorem wfp_X12_266 : wg_FP "WornWigsModel" 266 12 28 .int := ⟨RX12, TX12, 61, tyX12, wc_12, by decide, wq_6_154, rfl, rfl, rfl⟩
theorem wfp_X12_312 : wg_FP "WornWigsModel" 312 12 39 .int := ⟨RX12, TX12, 61, tyX12, wc_12, by decide, wq_6_165, rfl, rfl, rfl⟩
theorem wfp_X12_309 : wg_FP "WornWigsModel" 309 12 37 .int := ⟨RX12, TX12, 61, tyX12, wc_12, by decide, wq_6_163, rfl, rfl, rfl⟩
theorem wfp_X12_306 : wg_FP "WornWigsModel" 306 12 41 .int := ⟨RX12, TX12, 61, tyX12, wc_12, by decide, wq_6_167, rfl, rfl, rfl⟩
theorem wfp_X12_315 : wg_FP "WornWigsModel" 315 12 35 .int := ⟨RX12, TX12, 61, tyX12, wc_12, by decide, wq_6_161, rfl, rfl, rfl⟩
theorem wfp_X12_64 : wg_FP "WornWigsModel" 64 12 36 .int := ⟨RX12, TX12, 61, tyX12, wc_12, by decide, wq_6_162, rfl, rfl, rfl⟩
theorem wf_X12_206 : wg_F "WornWigsModel" 206 12 33 0 := ⟨RX12, TX12, 61, tyX12, wc_12, by decide, wq_6_159, rfl⟩
theorem wf_X12_209 : wg_F "WornWigsModel" 209 12 34 0 := ⟨RX12, TX12, 61, tyX12, wc_12, by decide, wq_6_160, rfl⟩
theorem wf_X12_64 : wg_F "WornWigsModel" 64 12 36 0 := ⟨RX12, TX12, 61, tyX12, wc_12, by decide, wq_6_162, rfl⟩
theorem wf_X12_315 : wg_F "WornWigsModel" 315 12 35 0 := ⟨RX12, TX12, 61, tyX12, wc_12, by decide, wq_6_161, rfl⟩
theorem wf_X12_80 : wg_F "WornWigsModel" 80 12 44 1 := ⟨RX12, TX12, 61, tyX12, wc_12, by decide, wq_6_170, rfl⟩
theorem wf_X12_77 : wg_F "WornWigsModel" 77 12 43 1 := ⟨RX12, TX12, 61, tyX12, wc_12, by decide, wq_6_169, rfl⟩
theorem wf_X12_119 : wg_F "WornWigsModel" 119 12 5 0 := ⟨RX12, TX12, 61, tyX12, wc_12, by decide, wq_6_131, rfl⟩
theorem wf_X12_31 : wg_F "WornWigsModel" 31 12 13 1 := ⟨RX12, TX12, 61, tyX12, wc_12, by decide, wq_6_139, rfl⟩
theorem wf_X12_309 : wg_F "WornWigsModel" 309 12 37 0 := ⟨RX12, TX12, 61, tyX12, wc_12, by decide, wq_6_163, rfl⟩
theorem wf_X12_312 : wg_F "WornWigsModel" 312 12 39 0 := ⟨RX12, TX12, 61, tyX12, wc_12, by decide, wq_6_165, rfl⟩
theorem wf_X12_474 : wg_F "WornWigsModel" 474 12 45 0 := ⟨RX12, TX12, 61, tyX12, wc_12, by decide, wq_6_171, rfl⟩
theorem wfp_X12_474 : wg_FP "WornWigsModel" 474 12 45 .int := ⟨RX12, TX12, 61, tyX12, wc_12, by decide, wq_6_171, rfl, rfl, rfl⟩
theorem wf_X12_83 : wg_F "WornWigsModel" 83 12 46 1 := ⟨RX12, TX12, 61, tyX12, wc_12, by decide, wq_6_172, rfl⟩
theorem wf_X12_86 : wg_F "WornWigsModel" 86 12 47 1 := ⟨RX12, TX12, 61, tyX12, wc_12, by decide, wq_6_173, rfl⟩
theorem wf_X12_89 : wg_F "WornWigsModel" 89 12 48 1 := ⟨RX12, TX12, 61, tyX12, wc_12, by decide, wq_6_174, rfl⟩
theorem wf_X12_92 : wg_F "WornWigsModel" 92 12 50 1 := ⟨RX12, TX12, 61, tyX12, wc_12, by decide, wq_6_176, rfl⟩
theorem wf_X12_484 : wg_F "WornWigsModel" 484 12 49 0 := ⟨RX12, TX12, 61, tyX12, wc_12, by decide, wq_6_175, rfl⟩
theorem wfp_X12_484 : wg_FP "WornWigsModel" 484 12 49 .int := ⟨RX12, TX12, 61, tyX12, wc_12, by decide, wq_6_175, rfl, rfl, rfl⟩
theorem wf_X12_95 : wg_F "WornWigsModel" 95 12 51 1 := ⟨RX12, TX12, 61, tyX12, wc_12, by decide, wq_6_177, rfl⟩
theorem wf_X12_98 : wg_F "WornWigsModel" 98 12 52 1 := ⟨RX12, TX12, 61, tyX12, wc_12, by decide, wq_6_178, rfl⟩
theorem wf_X12_499 : wg_F "WornWigsModel" 499 12 53 0 := ⟨RX12, TX12, 61, tyX12, wc_12, by decide, wq_6_179, rfl⟩
theorem wf_X12_101 : wg_F "WornWigsModel" 101 12 54 1 := ⟨RX12, TX12, 61, tyX12, wc_12, by decide, wq_6_180, rfl⟩
theorem wf_X12_104 : wg_F "WornWigsModel" 104 12 55 1 := ⟨RX12, TX12, 61, tyX12, wc_12, by decide, wq_6_181, rfl⟩
theorem wfp_X12_499 : wg_FP "WornWigsModel" 499 12 53 .int := ⟨RX12, TX12, 61, tyX12, wc_12, by decide, wq_6_179, rfl, rfl, rfl⟩
theorem wf_X12_107 : wg_F "WornWigsModel" 107 12 56 1 := ⟨RX12, TX12, 61, tyX12, wc_12, by decide, wq_6_182, rfl⟩
theorem wf_X12_508 : wg_F "WornWigsModel" 508 12 59 0 := ⟨RX12, TX12, 61, tyX12, wc_12, by decide, wq_6_185, rfl⟩
theorem wfp_X12_508 : wg_FP "WornWigsModel" 508 12 59 .int := ⟨RX12, TX12, 61, tyX12, wc_12, by decide, wq_6_185, rfl, rfl, rfl⟩
theorem wf_X12_511 : wg_F "WornWigsModel" 511 12 57 0 := ⟨RX12, TX12, 61, tyX12, wc_12, by decide, wq_6_183, rfl⟩
theorem wf_X12_110 : wg_F "WornWigsModel" 110 12 60 1 := ⟨RX12, TX12, 61, tyX12, wc_12, by decide, wq_6_186, rfl⟩
theorem wf_X12_306 : wg_F "WornWigsModel" 306 12 41 0 := ⟨RX12, TX12, 61, tyX12, wc_12, by decide, wq_6_167, rfl⟩
theorem wfp_X12_511 : wg_FP "WornWigsModel" 511 12 57 .boolean := ⟨RX12, TX12, 61, tyX12, wc_12, by decide, wq_6_183, rfl, rfl, rfl⟩
theorem wfp_X12_517 : wg_FP "WornWigsModel" 517 12 58 .boolean := ⟨RX12, TX12, 61, tyX12, wc_12, by decide, wq_6_184, rfl, rfl, rfl⟩
theorem wf_X12_517 : wg_F "WornWigsModel" 517 12 58 0 := ⟨RX12, TX12, 61, tyX12, wc_12, by decide, wq_6_184, rfl⟩
theorem wf_X11_185 : wg_F "WornWigs" 185 6 11 7 := ⟨RX6, TX6, 16, tyX6, wc_6, by decide, wq_2_173, rfl⟩
theorem wy_J3_checkIndex_8e157 : wg_Y yJ3_checkIndex_8e157 cJ3_checkIndex_8e157 3 (Option.some Jvm.ClassFile.FieldType.int) 3 := ⟨wq_1_20, wq_4_126, by decide +kernel⟩
theorem wy_J0_checkIndex_df160 : wg_Y yJ0_checkIndex_df160 cJ0_checkIndex_df160 2 (none) 2 := ⟨wq_1_18, wq_4_121, by decide +kernel⟩
theorem wy_J0_coder_7d493 : wg_Y yJ0_coder_7d493 cJ0_coder_7d493 1 (Option.some Jvm.ClassFile.FieldType.byte) 0 := ⟨wq_1_18, wq_4_105, by decide +kernel⟩
theorem wy_J0_isLatin1_aae02 : wg_Y yJ0_isLatin1_aae02 cJ0_isLatin1_aae02 1 (Option.some Jvm.ClassFile.FieldType.boolean) 0 := ⟨wq_1_18, wq_4_115, by decide +kernel⟩
theorem wy_J1_charAt_3b067 : wg_Y yJ1_charAt_3b067 cJ1_charAt_3b067 2 (Option.some Jvm.ClassFile.FieldType.char) 2 := ⟨wq_1_19, wq_4_118, by decide +kernel⟩
theorem wy_X11_state : wg_Y yX11_state cX11_state 3 (Option.some Jvm.ClassFile.FieldType.int) 1 := ⟨wq_1_1, wq_3_39, by decide +kernel⟩
theorem wy_X12_state : wg_Y yX12_state cX12_state 3 (Option.some Jvm.ClassFile.FieldType.int) 1 := ⟨wq_1_14, wq_7_77, by decide +kernel⟩
theorem wy_X11_wig : wg_Y yX11_wig cX11_wig 4 (Option.some Jvm.ClassFile.FieldType.int) 2 := ⟨wq_1_1, wq_3_47, by decide +kernel⟩
theorem wy_X12_wig : wg_Y yX12_wig cX12_wig 3 (Option.some Jvm.ClassFile.FieldType.int) 2 := ⟨wq_1_14, wq_7_81, by decide +kernel⟩
theorem wy_X11_judge : wg_Y yX11_judge cX11_judge 4 (Option.some Jvm.ClassFile.FieldType.int) 2 := ⟨wq_1_1, wq_3_58, by decide +kernel⟩
theorem wy_X12_judge : wg_Y yX12_judge cX12_judge 3 (Option.some Jvm.ClassFile.FieldType.int) 2 := ⟨wq_1_14, wq_7_89, by decide +kernel⟩
theorem wy_X11_trial : wg_Y yX11_trial cX11_trial 4 (Option.some Jvm.ClassFile.FieldType.int) 2 := ⟨wq_1_1, wq_3_66, by decide +kernel⟩
theorem wy_X12_trial : wg_Y yX12_trial cX12_trial 3 (Option.some Jvm.ClassFile.FieldType.int) 2 := ⟨wq_1_14, wq_7_93, by decide +kernel⟩
theorem wy_X11_rule : wg_Y yX11_rule cX11_rule 6 (Option.some Jvm.ClassFile.FieldType.int) 4 := ⟨wq_1_1, wq_3_74, by decide +kernel⟩
theorem wy_X12_rule : wg_Y yX12_rule cX12_rule 5 (Option.some Jvm.ClassFile.FieldType.int) 4 := ⟨wq_1_14, wq_7_97, by decide +kernel⟩
theorem wy_X11_set : wg_Y yX11_set cX11_set 5 (Option.some Jvm.ClassFile.FieldType.boolean) 3 := ⟨wq_1_1, wq_3_103, by decide +kernel⟩
theorem wy_X12_set : wg_Y yX12_set cX12_set 4 (Option.some Jvm.ClassFile.FieldType.boolean) 3 := ⟨wq_1_14, wq_7_125, by decide +kernel⟩
theorem wy_X11_tries : wg_Y yX11_tries cX11_tries 3 (Option.some Jvm.ClassFile.FieldType.int) 2 := ⟨wq_1_1, wq_3_119, by decide +kernel⟩
theorem wy_X12_tries : wg_Y yX12_tries cX12_tries 3 (Option.some Jvm.ClassFile.FieldType.int) 2 := ⟨wq_1_14, wq_8_57, by decide +kernel⟩
theorem wy_X11_act : wg_Y yX11_act cX11_act 4 (Option.some Jvm.ClassFile.FieldType.boolean) 3 := ⟨wq_1_1, wq_3_226, by decide +kernel⟩
theorem wy_X12_act : wg_Y yX12_act cX12_act 4 (Option.some Jvm.ClassFile.FieldType.boolean) 3 := ⟨wq_1_14, wq_8_129, by decide +kernel⟩
theorem wy_X11_years : wg_Y yX11_years cX11_years 4 (Option.some Jvm.ClassFile.FieldType.int) 1 := ⟨wq_1_1, wq_4_25, by decide +kernel⟩
theorem wy_X12_years : wg_Y yX12_years cX12_years 4 (Option.some Jvm.ClassFile.FieldType.int) 1 := ⟨wq_1_14, wq_8_169, by decide +kernel⟩
theorem wy_X11_feed : wg_Y yX11_feed cX11_feed 6 (Option.some Jvm.ClassFile.FieldType.int) 5 := ⟨wq_1_1, wq_4_68, by decide +kernel⟩
theorem wy_X12_feed : wg_Y yX12_feed cX12_feed 6 (Option.some Jvm.ClassFile.FieldType.int) 5 := ⟨wq_1_14, wq_7_141, by decide +kernel⟩
theorem wy_X11_end : wg_Y yX11_end cX11_end 2 (Option.some Jvm.ClassFile.FieldType.boolean) 1 := ⟨wq_1_1, wq_4_80, by decide +kernel⟩
theorem wy_X12_end : wg_Y yX12_end cX12_end 2 (Option.some Jvm.ClassFile.FieldType.boolean) 1 := ⟨wq_1_14, wq_7_149, by decide +kernel⟩
theorem wy_X11_text : wg_Y yX11_text cX11_text 2 (Option.some Jvm.ClassFile.FieldType.int) 1 := ⟨wq_1_1, wq_4_84, by decide +kernel⟩
theorem wy_X12_text : wg_Y yX12_text cX12_text 3 (Option.some Jvm.ClassFile.FieldType.int) 1 := ⟨wq_1_14, wq_7_153, by decide +kernel⟩
theorem wy_X11_fault : wg_Y yX11_fault cX11_fault 2 (Option.some Jvm.ClassFile.FieldType.int) 1 := ⟨wq_1_1, wq_5_35, by decide +kernel⟩
theorem wy_X12_fault : wg_Y yX12_fault cX12_fault 2 (Option.some Jvm.ClassFile.FieldType.int) 1 := ⟨wq_1_14, wq_8_53, by decide +kernel⟩
theorem wy_X11_of : wg_Y yX11_of cX11_of 4 (Option.some Jvm.ClassFile.FieldType.int) 2 := ⟨wq_1_1, wq_5_39, by decide +kernel⟩
theorem wy_X12_of : wg_Y yX12_of cX12_of 3 (Option.some Jvm.ClassFile.FieldType.int) 2 := ⟨wq_1_14, wq_8_207, by decide +kernel⟩
theorem wy_X11_ruleOf : wg_Y yX11_ruleOf cX11_ruleOf 7 (Option.some Jvm.ClassFile.FieldType.int) 3 := ⟨wq_1_1, wq_5_45, by decide +kernel⟩
theorem wy_X12_ruleOf : wg_Y yX12_ruleOf cX12_ruleOf 4 (Option.some Jvm.ClassFile.FieldType.int) 3 := ⟨wq_1_14, wq_8_211, by decide +kernel⟩
theorem wy_X11_who : wg_Y yX11_who cX11_who 4 (Option.some Jvm.ClassFile.FieldType.int) 2 := ⟨wq_1_1, wq_5_55, by decide +kernel⟩
theorem wy_X12_who : wg_Y yX12_who cX12_who 3 (Option.some Jvm.ClassFile.FieldType.int) 2 := ⟨wq_1_14, wq_8_215, by decide +kernel⟩
theorem wy_X11_trialOf : wg_Y yX11_trialOf cX11_trialOf 4 (Option.some Jvm.ClassFile.FieldType.int) 2 := ⟨wq_1_1, wq_5_60, by decide +kernel⟩
theorem wy_X12_trialOf : wg_Y yX12_trialOf cX12_trialOf 3 (Option.some Jvm.ClassFile.FieldType.int) 2 := ⟨wq_1_14, wq_8_219, by decide +kernel⟩
theorem wy_X11_book : wg_Y yX11_book cX11_book 3 (Option.some Jvm.ClassFile.FieldType.int) 2 := ⟨wq_1_1, wq_5_65, by decide +kernel⟩
theorem wy_X12_book : wg_Y yX12_book cX12_book 3 (Option.some Jvm.ClassFile.FieldType.int) 2 := ⟨wq_1_14, wq_8_224, by decide +kernel⟩
theorem wy_X11_goes : wg_Y yX11_goes cX11_goes 4 (Option.some Jvm.ClassFile.FieldType.int) 2 := ⟨wq_1_1, wq_5_69, by decide +kernel⟩
theorem wy_X12_goes : wg_Y yX12_goes cX12_goes 7 (Option.some Jvm.ClassFile.FieldType.int) 2 := ⟨wq_1_14, wq_8_228, by decide +kernel⟩
theorem wy_X11_would : wg_Y yX11_would cX11_would 3 (Option.some Jvm.ClassFile.FieldType.int) 2 := ⟨wq_1_1, wq_5_103, by decide +kernel⟩
theorem wy_X12_would : wg_Y yX12_would cX12_would 3 (Option.some Jvm.ClassFile.FieldType.int) 2 := ⟨wq_1_14, wq_9_8, by decide +kernel⟩
theorem wy_X11_forum : wg_Y yX11_forum cX11_forum 3 (Option.some Jvm.ClassFile.FieldType.int) 2 := ⟨wq_1_1, wq_5_109, by decide +kernel⟩
theorem wy_X12_forum : wg_Y yX12_forum cX12_forum 5 (Option.some Jvm.ClassFile.FieldType.int) 2 := ⟨wq_1_14, wq_9_12, by decide +kernel⟩
theorem wy_X11_combs : wg_Y yX11_combs cX11_combs 4 (Option.some Jvm.ClassFile.FieldType.int) 2 := ⟨wq_1_1, wq_5_119, by decide +kernel⟩
theorem wy_X12_combs : wg_Y yX12_combs cX12_combs 5 (Option.some Jvm.ClassFile.FieldType.int) 2 := ⟨wq_1_14, wq_9_16, by decide +kernel⟩
theorem wy_X11_alike : wg_Y yX11_alike cX11_alike 4 (Option.some Jvm.ClassFile.FieldType.int) 2 := ⟨wq_1_1, wq_5_128, by decide +kernel⟩
theorem wy_X12_alike : wg_Y yX12_alike cX12_alike 5 (Option.some Jvm.ClassFile.FieldType.int) 2 := ⟨wq_1_14, wq_9_28, by decide +kernel⟩
theorem wy_X11_heir : wg_Y yX11_heir cX11_heir 3 (Option.some Jvm.ClassFile.FieldType.int) 2 := ⟨wq_1_1, wq_5_148, by decide +kernel⟩
theorem wy_X12_heir : wg_Y yX12_heir cX12_heir 4 (Option.some Jvm.ClassFile.FieldType.int) 2 := ⟨wq_1_14, wq_9_40, by decide +kernel⟩
theorem wy_X11_kin : wg_Y yX11_kin cX11_kin 4 (Option.some Jvm.ClassFile.FieldType.int) 2 := ⟨wq_1_1, wq_5_158, by decide +kernel⟩
theorem wy_X12_kin : wg_Y yX12_kin cX12_kin 3 (Option.some Jvm.ClassFile.FieldType.int) 2 := ⟨wq_1_14, wq_9_44, by decide +kernel⟩
theorem wy_X11_saves : wg_Y yX11_saves cX11_saves 4 (Option.some Jvm.ClassFile.FieldType.int) 2 := ⟨wq_1_1, wq_5_178, by decide +kernel⟩
theorem wy_X12_saves : wg_Y yX12_saves cX12_saves 5 (Option.some Jvm.ClassFile.FieldType.int) 2 := ⟨wq_1_14, wq_9_64, by decide +kernel⟩
theorem wy_X11_panels : wg_Y yX11_panels cX11_panels 3 (Option.some Jvm.ClassFile.FieldType.int) 2 := ⟨wq_1_1, wq_5_192, by decide +kernel⟩
theorem wy_X12_panels : wg_Y yX12_panels cX12_panels 7 (Option.some Jvm.ClassFile.FieldType.int) 2 := ⟨wq_1_14, wq_9_76, by decide +kernel⟩
theorem wy_X11_trait : wg_Y yX11_trait cX11_trait 4 (Option.some Jvm.ClassFile.FieldType.int) 3 := ⟨wq_1_1, wq_5_208, by decide +kernel⟩
theorem wy_X12_trait : wg_Y yX12_trait cX12_trait 4 (Option.some Jvm.ClassFile.FieldType.int) 3 := ⟨wq_1_14, wq_9_84, by decide +kernel⟩
theorem wy_X11_whose : wg_Y yX11_whose cX11_whose 2 (Option.some Jvm.ClassFile.FieldType.int) 1 := ⟨wq_1_1, wq_5_217, by decide +kernel⟩
theorem wy_X12_whose : wg_Y yX12_whose cX12_whose 9 (Option.some Jvm.ClassFile.FieldType.int) 1 := ⟨wq_1_14, wq_9_88, by decide +kernel⟩
theorem wy_X11_cite : wg_Y yX11_cite cX11_cite 3 (Option.some Jvm.ClassFile.FieldType.int) 2 := ⟨wq_1_1, wq_6_5, by decide +kernel⟩
theorem wy_X12_cite : wg_Y yX12_cite cX12_cite 4 (Option.some Jvm.ClassFile.FieldType.int) 2 := ⟨wq_1_14, wq_9_101, by decide +kernel⟩
theorem wy_X11_chain : wg_Y yX11_chain cX11_chain 2 (Option.some Jvm.ClassFile.FieldType.int) 1 := ⟨wq_1_1, wq_6_13, by decide +kernel⟩
theorem wy_X12_chain : wg_Y yX12_chain cX12_chain 4 (Option.some Jvm.ClassFile.FieldType.int) 1 := ⟨wq_1_14, wq_9_105, by decide +kernel⟩
theorem wy_X11_parcel : wg_Y yX11_parcel cX11_parcel 4 (Option.some Jvm.ClassFile.FieldType.boolean) 3 := ⟨wq_1_1, wq_6_26, by decide +kernel⟩
theorem wy_X12_parcel : wg_Y yX12_parcel cX12_parcel 4 (Option.some Jvm.ClassFile.FieldType.boolean) 3 := ⟨wq_1_14, wq_9_117, by decide +kernel⟩
theorem wy_X11_cut : wg_Y yX11_cut cX11_cut 2 (Option.some Jvm.ClassFile.FieldType.int) 1 := ⟨wq_1_1, wq_6_30, by decide +kernel⟩
theorem wy_X12_cut : wg_Y yX12_cut cX12_cut 4 (Option.some Jvm.ClassFile.FieldType.int) 1 := ⟨wq_1_14, wq_9_121, by decide +kernel⟩
theorem wy_X11_hard : wg_Y yX11_hard cX11_hard 3 (Option.some Jvm.ClassFile.FieldType.int) 2 := ⟨wq_1_1, wq_6_53, by decide +kernel⟩
theorem wy_X12_hard : wg_Y yX12_hard cX12_hard 3 (Option.some Jvm.ClassFile.FieldType.int) 2 := ⟨wq_1_14, wq_9_133, by decide +kernel⟩
theorem wy_X11_hears : wg_Y yX11_hears cX11_hears 2 (Option.some Jvm.ClassFile.FieldType.int) 1 := ⟨wq_1_1, wq_6_61, by decide +kernel⟩
theorem wy_X12_hears : wg_Y yX12_hears cX12_hears 5 (Option.some Jvm.ClassFile.FieldType.int) 1 := ⟨wq_1_14, wq_9_137, by decide +kernel⟩
theorem wy_X11_game : wg_Y yX11_game cX11_game 2 (Option.some Jvm.ClassFile.FieldType.int) 1 := ⟨wq_1_1, wq_6_82, by decide +kernel⟩
theorem wy_X12_game : wg_Y yX12_game cX12_game 5 (Option.some Jvm.ClassFile.FieldType.int) 1 := ⟨wq_1_14, wq_9_149, by decide +kernel⟩
theorem wy_X11_undo : wg_Y yX11_undo cX11_undo 1 (Option.some Jvm.ClassFile.FieldType.boolean) 0 := ⟨wq_1_1, wq_6_90, by decide +kernel⟩
theorem wy_X12_undo : wg_Y yX12_undo cX12_undo 2 (Option.some Jvm.ClassFile.FieldType.boolean) 0 := ⟨wq_1_14, wq_7_73, by decide +kernel⟩
theorem wy_X11_image : wg_Y yX11_image cX11_image 2 (Option.some Jvm.ClassFile.FieldType.boolean) 1 := ⟨wq_1_1, wq_6_98, by decide +kernel⟩
theorem wy_X12_image : wg_Y yX12_image cX12_image 3 (Option.some Jvm.ClassFile.FieldType.boolean) 1 := ⟨wq_1_14, wq_9_153, by decide +kernel⟩
theorem wy_X11_look : wg_Y yX11_look cX11_look 3 (Option.some Jvm.ClassFile.FieldType.int) 1 := ⟨wq_1_1, wq_6_114, by decide +kernel⟩
theorem wy_X12_look : wg_Y yX12_look cX12_look 2 (Option.some Jvm.ClassFile.FieldType.int) 1 := ⟨wq_1_14, wq_9_173, by decide +kernel⟩
theorem wy_J9_min_7cf53 : wg_Y yJ9_min_7cf53 cJ9_min_7cf53 2 (Option.some Jvm.ClassFile.FieldType.int) 2 := ⟨wq_1_7, wq_3_99, by decide +kernel⟩
theorem wy_X11_copyRow : wg_Y yX11_copyRow cX11_copyRow 2 (none) 2 := ⟨wq_1_1, wq_3_144, by decide +kernel⟩
theorem wy_X9_copyFrom : wg_Y yX9_copyFrom cX9_copyFrom 2 (none) 1 := ⟨wq_1_4, wq_3_141, by decide +kernel⟩
theorem wy_X2_copyFrom : wg_Y yX2_copyFrom cX2_copyFrom 2 (none) 1 := ⟨wq_1_5, wq_3_152, by decide +kernel⟩
theorem wy_X2_deadSet : wg_Y yX2_deadSet cX2_deadSet 3 (Option.some Jvm.ClassFile.FieldType.int) 0 := ⟨wq_1_5, wq_5_82, by decide +kernel⟩
theorem wy_J6_bitCount_0f7a4 : wg_Y yJ6_bitCount_0f7a4 cJ6_bitCount_0f7a4 1 (Option.some Jvm.ClassFile.FieldType.int) 1 := ⟨wq_1_15, wq_3_93, by decide +kernel⟩
theorem wy_X0_allRules : wg_Y yX0_allRules cX0_allRules 3 (Option.some Jvm.ClassFile.FieldType.int) 0 := ⟨wq_1_3, wq_5_87, by decide +kernel⟩
theorem wy_X9_hairOf : wg_Y yX9_hairOf cX9_hairOf 4 (Option.some Jvm.ClassFile.FieldType.int) 1 := ⟨wq_1_4, wq_5_91, by decide +kernel⟩
theorem wy_X0_verdictsAbove : wg_Y yX0_verdictsAbove cX0_verdictsAbove 3 (Option.some Jvm.ClassFile.FieldType.int) 0 := ⟨wq_1_3, wq_5_95, by decide +kernel⟩
theorem wy_X0_copyFrom : wg_Y yX0_copyFrom cX0_copyFrom 2 (none) 1 := ⟨wq_1_3, wq_3_137, by decide +kernel⟩
theorem wy_X4_add : wg_Y yX4_add cX4_add 5 (none) 4 := ⟨wq_1_6, wq_3_222, by decide +kernel⟩
theorem wy_J7_fill_53178 : wg_Y yJ7_fill_53178 cJ7_fill_53178 4 (none) 2 := ⟨wq_1_17, wq_3_175, by decide +kernel⟩
theorem wy_X3_joined : wg_Y yX3_joined cX3_joined 3 (Option.some Jvm.ClassFile.FieldType.int) 3 := ⟨wq_1_8, wq_3_194, by decide +kernel⟩
theorem wy_X3_run : wg_Y yX3_run cX3_run 6 (Option.some Jvm.ClassFile.FieldType.int) 2 := ⟨wq_1_8, wq_3_191, by decide +kernel⟩
theorem wy_J9_max_7cf53 : wg_Y yJ9_max_7cf53 cJ9_max_7cf53 2 (Option.some Jvm.ClassFile.FieldType.int) 2 := ⟨wq_1_7, wq_1_203, by decide +kernel⟩
theorem wy_X1_askNobody : wg_Y yX1_askNobody cX1_askNobody 1 (none) 0 := ⟨wq_1_12, wq_3_172, by decide +kernel⟩
theorem wy_X1_askJudge : wg_Y yX1_askJudge cX1_askJudge 2 (none) 1 := ⟨wq_1_12, wq_3_179, by decide +kernel⟩
theorem wy_X1_askWig : wg_Y yX1_askWig cX1_askWig 2 (none) 1 := ⟨wq_1_12, wq_3_183, by decide +kernel⟩
theorem wy_X3_tell : wg_Y yX3_tell cX3_tell 6 (Option.some Jvm.ClassFile.FieldType.int) 2 := ⟨wq_1_8, wq_3_187, by decide +kernel⟩
theorem wy_X11_held : wg_Y yX11_held cX11_held 3 (Option.some Jvm.ClassFile.FieldType.int) 3 := ⟨wq_1_1, wq_3_197, by decide +kernel⟩
theorem wy_X9_has : wg_Y yX9_has cX9_has 2 (Option.some Jvm.ClassFile.FieldType.boolean) 1 := ⟨wq_1_4, wq_3_78, by decide +kernel⟩
theorem wy_X1_countsOf : wg_Y yX1_countsOf cX1_countsOf 5 (Option.some Jvm.ClassFile.FieldType.int) 3 := ⟨wq_1_12, wq_3_168, by decide +kernel⟩
theorem wy_J9_floorDiv_7cf53 : wg_Y yJ9_floorDiv_7cf53 cJ9_floorDiv_7cf53 3 (Option.some Jvm.ClassFile.FieldType.int) 2 := ⟨wq_1_7, wq_3_201, by decide +kernel⟩
theorem wy_X2_has : wg_Y yX2_has cX2_has 2 (Option.some Jvm.ClassFile.FieldType.boolean) 1 := ⟨wq_1_5, wq_3_107, by decide +kernel⟩
theorem wy_X0_hasCase : wg_Y yX0_hasCase cX0_hasCase 2 (Option.some Jvm.ClassFile.FieldType.boolean) 1 := ⟨wq_1_3, wq_3_115, by decide +kernel⟩
theorem wy_X2_lives : wg_Y yX2_lives cX2_lives 2 (Option.some Jvm.ClassFile.FieldType.boolean) 1 := ⟨wq_1_5, wq_3_128, by decide +kernel⟩
theorem wy_X9_rulesFor : wg_Y yX9_rulesFor cX9_rulesFor 7 (Option.some Jvm.ClassFile.FieldType.int) 3 := ⟨wq_1_4, wq_3_90, by decide +kernel⟩
theorem wy_X9_itchAnew : wg_Y yX9_itchAnew cX9_itchAnew 4 (none) 1 := ⟨wq_1_4, wq_3_86, by decide +kernel⟩
theorem wy_X9_moveRule : wg_Y yX9_moveRule cX9_moveRule 3 (none) 2 := ⟨wq_1_4, wq_3_213, by decide +kernel⟩
theorem wy_X1_note : wg_Y yX1_note cX1_note 5 (none) 3 := ⟨wq_1_12, wq_3_218, by decide +kernel⟩
theorem wy_X9_addRule : wg_Y yX9_addRule cX9_addRule 6 (none) 4 := ⟨wq_1_4, wq_3_82, by decide +kernel⟩
theorem wy_X1_verdictOf : wg_Y yX1_verdictOf cX1_verdictOf 8 (Option.some Jvm.ClassFile.FieldType.int) 2 := ⟨wq_1_12, wq_3_163, by decide +kernel⟩
theorem wy_X9_lightestRule : wg_Y yX9_lightestRule cX9_lightestRule 4 (Option.some Jvm.ClassFile.FieldType.int) 1 := ⟨wq_1_4, wq_3_205, by decide +kernel⟩
theorem wy_X9_dropRule : wg_Y yX9_dropRule cX9_dropRule 5 (none) 2 := ⟨wq_1_4, wq_3_209, by decide +kernel⟩
theorem wy_X2_wearer : wg_Y yX2_wearer cX2_wearer 3 (Option.some Jvm.ClassFile.FieldType.int) 1 := ⟨wq_1_5, wq_3_234, by decide +kernel⟩
theorem wy_X9_knows : wg_Y yX9_knows cX9_knows 4 (Option.some Jvm.ClassFile.FieldType.boolean) 2 := ⟨wq_1_4, wq_3_238, by decide +kernel⟩
theorem wy_X11_within : wg_Y yX11_within cX11_within 3 (Option.some Jvm.ClassFile.FieldType.boolean) 3 := ⟨wq_1_1, wq_3_50, by decide +kernel⟩
theorem wy_X1_takeOff : wg_Y yX1_takeOff cX1_takeOff 3 (none) 1 := ⟨wq_1_12, wq_4_11, by decide +kernel⟩
theorem wy_X1_putOn : wg_Y yX1_putOn cX1_putOn 3 (none) 2 := ⟨wq_1_12, wq_4_7, by decide +kernel⟩
theorem wy_X9_dropCause : wg_Y yX9_dropCause cX9_dropCause 6 (Option.some Jvm.ClassFile.FieldType.int) 2 := ⟨wq_1_4, wq_4_15, by decide +kernel⟩
theorem wy_X9_weigh : wg_Y yX9_weigh cX9_weigh 5 (none) 2 := ⟨wq_1_4, wq_4_20, by decide +kernel⟩
theorem wy_X1_diesOf : wg_Y yX1_diesOf cX1_diesOf 2 (Option.some Jvm.ClassFile.FieldType.int) 1 := ⟨wq_1_12, wq_4_41, by decide +kernel⟩
theorem wy_X0_draw : wg_Y yX0_draw cX0_draw 2 (Option.some Jvm.ClassFile.FieldType.int) 1 := ⟨wq_1_3, wq_4_46, by decide +kernel⟩
theorem wy_X2_youngestBare : wg_Y yX2_youngestBare cX2_youngestBare 5 (Option.some Jvm.ClassFile.FieldType.int) 1 := ⟨wq_1_5, wq_4_56, by decide +kernel⟩
theorem wy_X1_mothOf : wg_Y yX1_mothOf cX1_mothOf 2 (Option.some Jvm.ClassFile.FieldType.int) 1 := ⟨wq_1_12, wq_4_64, by decide +kernel⟩
theorem wy_X1_wearOut : wg_Y yX1_wearOut cX1_wearOut 3 (none) 1 := ⟨wq_1_12, wq_4_60, by decide +kernel⟩
theorem wy_X1_growsOldAndDies : wg_Y yX1_growsOldAndDies cX1_growsOldAndDies 4 (Option.some Jvm.ClassFile.FieldType.boolean) 1 := ⟨wq_1_12, wq_4_37, by decide +kernel⟩
theorem wy_X1_passOn : wg_Y yX1_passOn cX1_passOn 4 (none) 1 := ⟨wq_1_12, wq_4_52, by decide +kernel⟩
theorem wy_X1_canTry : wg_Y yX1_canTry cX1_canTry 3 (Option.some Jvm.ClassFile.FieldType.boolean) 2 := ⟨wq_1_12, wq_3_123, by decide +kernel⟩
theorem wy_X1_tryCase : wg_Y yX1_tryCase cX1_tryCase 5 (none) 2 := ⟨wq_1_12, wq_3_159, by decide +kernel⟩
theorem wy_X1_canDo : wg_Y yX1_canDo cX1_canDo 4 (Option.some Jvm.ClassFile.FieldType.boolean) 3 := ⟨wq_1_12, wq_3_230, by decide +kernel⟩
theorem wy_X1_doTo : wg_Y yX1_doTo cX1_doTo 4 (none) 3 := ⟨wq_1_12, wq_4_3, by decide +kernel⟩
theorem wy_X6_fail : wg_Y yX6_fail cX6_fail 2 (Option.some Jvm.ClassFile.FieldType.boolean) 1 := ⟨wq_1_11, wq_4_179, by decide +kernel⟩
theorem wy_X6_readNumber : wg_Y yX6_readNumber cX6_readNumber 3 (Option.some Jvm.ClassFile.FieldType.int) 2 := ⟨wq_1_11, wq_4_199, by decide +kernel⟩
theorem wy_X6_expect : wg_Y yX6_expect cX6_expect 2 (Option.some Jvm.ClassFile.FieldType.boolean) 1 := ⟨wq_1_11, wq_4_227, by decide +kernel⟩
theorem wy_X6_readWig : wg_Y yX6_readWig cX6_readWig 1 (Option.some Jvm.ClassFile.FieldType.int) 0 := ⟨wq_1_11, wq_5_8, by decide +kernel⟩
theorem wy_X6_expectFirst : wg_Y yX6_expectFirst cX6_expectFirst 3 (Option.some Jvm.ClassFile.FieldType.boolean) 2 := ⟨wq_1_11, wq_5_4, by decide +kernel⟩
theorem wy_X6_readJudge : wg_Y yX6_readJudge cX6_readJudge 1 (Option.some Jvm.ClassFile.FieldType.int) 0 := ⟨wq_1_11, wq_5_21, by decide +kernel⟩
theorem wy_X6_readLoan : wg_Y yX6_readLoan cX6_readLoan 6 (Option.some Jvm.ClassFile.FieldType.boolean) 1 := ⟨wq_1_11, wq_5_25, by decide +kernel⟩
theorem wy_X6_readHearing : wg_Y yX6_readHearing cX6_readHearing 4 (Option.some Jvm.ClassFile.FieldType.boolean) 1 := ⟨wq_1_11, wq_5_17, by decide +kernel⟩
theorem wy_X4_copyFrom : wg_Y yX4_copyFrom cX4_copyFrom 2 (none) 1 := ⟨wq_1_6, wq_5_29, by decide +kernel⟩
theorem wy_X6_readPlanLine : wg_Y yX6_readPlanLine cX6_readPlanLine 4 (Option.some Jvm.ClassFile.FieldType.boolean) 1 := ⟨wq_1_11, wq_5_13, by decide +kernel⟩
theorem wy_X6_readKinLine : wg_Y yX6_readKinLine cX6_readKinLine 3 (Option.some Jvm.ClassFile.FieldType.boolean) 0 := ⟨wq_1_11, wq_5_0, by decide +kernel⟩
theorem wy_X3_put : wg_Y yX3_put cX3_put 3 (none) 2 := ⟨wq_1_8, wq_4_195, by decide +kernel⟩
theorem wy_X6_readUnit : wg_Y yX6_readUnit cX6_readUnit 1 (Option.some Jvm.ClassFile.FieldType.boolean) 0 := ⟨wq_1_11, wq_4_191, by decide +kernel⟩
theorem wy_X6_readProduct : wg_Y yX6_readProduct cX6_readProduct 3 (Option.some Jvm.ClassFile.FieldType.boolean) 0 := ⟨wq_1_11, wq_4_187, by decide +kernel⟩
theorem wy_X6_await : wg_Y yX6_await cX6_await 2 (none) 1 := ⟨wq_1_11, wq_4_211, by decide +kernel⟩
theorem wy_X6_isAwaited : wg_Y yX6_isAwaited cX6_isAwaited 2 (Option.some Jvm.ClassFile.FieldType.boolean) 1 := ⟨wq_1_11, wq_4_223, by decide +kernel⟩
theorem wy_X6_settle : wg_Y yX6_settle cX6_settle 1 (none) 0 := ⟨wq_1_11, wq_4_219, by decide +kernel⟩
theorem wy_X6_readSum : wg_Y yX6_readSum cX6_readSum 2 (Option.some Jvm.ClassFile.FieldType.boolean) 0 := ⟨wq_1_11, wq_4_183, by decide +kernel⟩
theorem wy_X6_readClosing : wg_Y yX6_readClosing cX6_readClosing 1 (none) 0 := ⟨wq_1_11, wq_4_215, by decide +kernel⟩
theorem wy_X6_readOpening : wg_Y yX6_readOpening cX6_readOpening 1 (Option.some Jvm.ClassFile.FieldType.boolean) 0 := ⟨wq_1_11, wq_4_207, by decide +kernel⟩
theorem wy_X6_readCondition : wg_Y yX6_readCondition cX6_readCondition 2 (Option.some Jvm.ClassFile.FieldType.boolean) 0 := ⟨wq_1_11, wq_4_203, by decide +kernel⟩
theorem wy_X3_copyFrom : wg_Y yX3_copyFrom cX3_copyFrom 2 (none) 1 := ⟨wq_1_8, wq_4_231, by decide +kernel⟩
theorem wy_X6_readLawLine : wg_Y yX6_readLawLine cX6_readLawLine 3 (Option.some Jvm.ClassFile.FieldType.boolean) 0 := ⟨wq_1_11, wq_4_175, by decide +kernel⟩
theorem wy_X3_clear : wg_Y yX3_clear cX3_clear 1 (none) 0 := ⟨wq_1_8, wq_4_171, by decide +kernel⟩
theorem wy_X7_finders : wg_Y yX7_finders cX7_finders 7 (Option.some Jvm.ClassFile.FieldType.int) 3 := ⟨wq_1_13, wq_5_200, by decide +kernel⟩
theorem wy_X7_madeAfter : wg_Y yX7_madeAfter cX7_madeAfter 4 (Option.some Jvm.ClassFile.FieldType.int) 1 := ⟨wq_1_13, wq_5_166, by decide +kernel⟩
theorem wy_X7_backSet : wg_Y yX7_backSet cX7_backSet 5 (Option.some Jvm.ClassFile.FieldType.int) 1 := ⟨wq_1_13, wq_5_174, by decide +kernel⟩
theorem wy_X7_hasTrait : wg_Y yX7_hasTrait cX7_hasTrait 5 (Option.some Jvm.ClassFile.FieldType.boolean) 3 := ⟨wq_1_13, wq_5_229, by decide +kernel⟩
theorem wy_X7_isAsTold : wg_Y yX7_isAsTold cX7_isAsTold 4 (Option.some Jvm.ClassFile.FieldType.boolean) 1 := ⟨wq_1_13, wq_5_225, by decide +kernel⟩
theorem wy_X7_knowers : wg_Y yX7_knowers cX7_knowers 5 (Option.some Jvm.ClassFile.FieldType.int) 2 := ⟨wq_1_13, wq_6_0, by decide +kernel⟩
theorem wy_X7_whoseSet : wg_Y yX7_whoseSet cX7_whoseSet 3 (Option.some Jvm.ClassFile.FieldType.int) 0 := ⟨wq_1_13, wq_5_221, by decide +kernel⟩
theorem wy_X8_measureRows : wg_Y yX8_measureRows cX8_measureRows 4 (Option.some Jvm.ClassFile.FieldType.boolean) 0 := ⟨wq_1_9, wq_6_21, by decide +kernel⟩
theorem wy_X8_worthOf : wg_Y yX8_worthOf cX8_worthOf 6 (Option.some Jvm.ClassFile.FieldType.int) 3 := ⟨wq_1_9, wq_6_38, by decide +kernel⟩
theorem wy_X8_cutPlace : wg_Y yX8_cutPlace cX8_cutPlace 5 (Option.some Jvm.ClassFile.FieldType.int) 0 := ⟨wq_1_9, wq_6_34, by decide +kernel⟩
theorem wy_X8_soonestDue : wg_Y yX8_soonestDue cX8_soonestDue 4 (Option.some Jvm.ClassFile.FieldType.int) 1 := ⟨wq_1_9, wq_6_69, by decide +kernel⟩
theorem wy_X8_lateness : wg_Y yX8_lateness cX8_lateness 8 (Option.some Jvm.ClassFile.FieldType.int) 2 := ⟨wq_1_9, wq_6_65, by decide +kernel⟩
theorem wy_X8_leastThatKeeps : wg_Y yX8_leastThatKeeps cX8_leastThatKeeps 7 (Option.some Jvm.ClassFile.FieldType.int) 3 := ⟨wq_1_9, wq_6_78, by decide +kernel⟩
theorem wy_X9_rulingsOn : wg_Y yX9_rulingsOn cX9_rulingsOn 5 (Option.some Jvm.ClassFile.FieldType.int) 2 := ⟨wq_1_4, wq_5_140, by decide +kernel⟩
theorem wy_J9_abs_0f7a4 : wg_Y yJ9_abs_0f7a4 cJ9_abs_0f7a4 1 (Option.some Jvm.ClassFile.FieldType.int) 1 := ⟨wq_1_7, wq_5_143, by decide +kernel⟩
theorem wy_X9_apart : wg_Y yX9_apart cX9_apart 5 (Option.some Jvm.ClassFile.FieldType.int) 2 := ⟨wq_1_4, wq_5_136, by decide +kernel⟩
theorem wy_X9_worthOf : wg_Y yX9_worthOf cX9_worthOf 4 (Option.some Jvm.ClassFile.FieldType.int) 1 := ⟨wq_1_4, wq_5_187, by decide +kernel⟩
theorem wy_X8_copyFrom : wg_Y yX8_copyFrom cX8_copyFrom 2 (none) 1 := ⟨wq_1_9, wq_6_109, by decide +kernel⟩
theorem wy_X5_forget : wg_Y yX5_forget cX5_forget 1 (none) 0 := ⟨wq_1_10, wq_3_43, by decide +kernel⟩
theorem wy_X9_add : wg_Y yX9_add cX9_add 3 (Option.some Jvm.ClassFile.FieldType.int) 2 := ⟨wq_1_4, wq_3_54, by decide +kernel⟩
theorem wy_X2_add : wg_Y yX2_add cX2_add 3 (Option.some Jvm.ClassFile.FieldType.int) 2 := ⟨wq_1_5, wq_3_62, by decide +kernel⟩
theorem wy_X0_addCase : wg_Y yX0_addCase cX0_addCase 3 (Option.some Jvm.ClassFile.FieldType.int) 2 := ⟨wq_1_3, wq_3_70, by decide +kernel⟩
theorem wy_X11_tellAnew : wg_Y yX11_tellAnew cX11_tellAnew 6 (Option.some Jvm.ClassFile.FieldType.boolean) 5 := ⟨wq_1_1, wq_3_111, by decide +kernel⟩
theorem wy_X5_remember : wg_Y yX5_remember cX5_remember 2 (none) 1 := ⟨wq_1_10, wq_3_133, by decide +kernel⟩
theorem wy_X1_passYear : wg_Y yX1_passYear cX1_passYear 5 (Option.some Jvm.ClassFile.FieldType.int) 0 := ⟨wq_1_12, wq_4_29, by decide +kernel⟩
theorem wy_X6_hasRoomFor : wg_Y yX6_hasRoomFor cX6_hasRoomFor 2 (Option.some Jvm.ClassFile.FieldType.boolean) 1 := ⟨wq_1_11, wq_4_72, by decide +kernel⟩
theorem wy_X6_addNumber : wg_Y yX6_addNumber cX6_addNumber 3 (none) 1 := ⟨wq_1_11, wq_4_76, by decide +kernel⟩
theorem wy_X9_hasRule : wg_Y yX9_hasRule cX9_hasRule 3 (Option.some Jvm.ClassFile.FieldType.boolean) 2 := ⟨wq_1_4, wq_5_49, by decide +kernel⟩
theorem wy_X0_sumUp : wg_Y yX0_sumUp cX0_sumUp 2 (Option.some Jvm.ClassFile.FieldType.int) 1 := ⟨wq_1_3, wq_5_78, by decide +kernel⟩
theorem wy_X1_endThought : wg_Y yX1_endThought cX1_endThought 1 (none) 0 := ⟨wq_1_12, wq_5_99, by decide +kernel⟩
theorem wy_X1_beginThought : wg_Y yX1_beginThought cX1_beginThought 1 (none) 0 := ⟨wq_1_12, wq_5_73, by decide +kernel⟩
theorem wy_X7_forumOf : wg_Y yX7_forumOf cX7_forumOf 8 (Option.some Jvm.ClassFile.FieldType.int) 2 := ⟨wq_1_13, wq_5_113, by decide +kernel⟩
theorem wy_X9_toComb : wg_Y yX9_toComb cX9_toComb 8 (Option.some Jvm.ClassFile.FieldType.int) 1 := ⟨wq_1_4, wq_5_123, by decide +kernel⟩
theorem wy_X9_nearest : wg_Y yX9_nearest cX9_nearest 6 (Option.some Jvm.ClassFile.FieldType.int) 1 := ⟨wq_1_4, wq_5_132, by decide +kernel⟩
theorem wy_X7_heirOf : wg_Y yX7_heirOf cX7_heirOf 7 (Option.some Jvm.ClassFile.FieldType.int) 2 := ⟨wq_1_13, wq_5_152, by decide +kernel⟩
theorem wy_X7_commonOf : wg_Y yX7_commonOf cX7_commonOf 6 (Option.some Jvm.ClassFile.FieldType.int) 2 := ⟨wq_1_13, wq_5_170, by decide +kernel⟩
theorem wy_X7_rootOf : wg_Y yX7_rootOf cX7_rootOf 6 (Option.some Jvm.ClassFile.FieldType.int) 1 := ⟨wq_1_13, wq_5_162, by decide +kernel⟩
theorem wy_X9_toSave : wg_Y yX9_toSave cX9_toSave 5 (Option.some Jvm.ClassFile.FieldType.int) 1 := ⟨wq_1_4, wq_5_182, by decide +kernel⟩
theorem wy_X7_turnsOf : wg_Y yX7_turnsOf cX7_turnsOf 3 (Option.some Jvm.ClassFile.FieldType.int) 2 := ⟨wq_1_13, wq_5_204, by decide +kernel⟩
theorem wy_X7_panelsFor : wg_Y yX7_panelsFor cX7_panelsFor 4 (Option.some Jvm.ClassFile.FieldType.int) 1 := ⟨wq_1_13, wq_5_196, by decide +kernel⟩
theorem wy_X8_addTrait : wg_Y yX8_addTrait cX8_addTrait 5 (Option.some Jvm.ClassFile.FieldType.int) 3 := ⟨wq_1_9, wq_5_212, by decide +kernel⟩
theorem wy_X7_causeToLookAt : wg_Y yX7_causeToLookAt cX7_causeToLookAt 8 (Option.some Jvm.ClassFile.FieldType.int) 0 := ⟨wq_1_13, wq_5_234, by decide +kernel⟩
theorem wy_X8_addCite : wg_Y yX8_addCite cX8_addCite 4 (Option.some Jvm.ClassFile.FieldType.int) 2 := ⟨wq_1_9, wq_6_9, by decide +kernel⟩
theorem wy_X8_longestRow : wg_Y yX8_longestRow cX8_longestRow 4 (Option.some Jvm.ClassFile.FieldType.int) 1 := ⟨wq_1_9, wq_6_17, by decide +kernel⟩
theorem wy_X8_otherHas : wg_Y yX8_otherHas cX8_otherHas 2 (Option.some Jvm.ClassFile.FieldType.int) 0 := ⟨wq_1_9, wq_6_43, by decide +kernel⟩
theorem wy_X8_oneHas : wg_Y yX8_oneHas cX8_oneHas 3 (Option.some Jvm.ClassFile.FieldType.int) 0 := ⟨wq_1_9, wq_6_49, by decide +kernel⟩
theorem wy_X8_addHard : wg_Y yX8_addHard cX8_addHard 3 (Option.some Jvm.ClassFile.FieldType.int) 2 := ⟨wq_1_9, wq_6_57, by decide +kernel⟩
theorem wy_X8_heardAt : wg_Y yX8_heardAt cX8_heardAt 7 (Option.some Jvm.ClassFile.FieldType.int) 1 := ⟨wq_1_9, wq_6_73, by decide +kernel⟩
theorem wy_X9_wellPulled : wg_Y yX9_wellPulled cX9_wellPulled 5 (Option.some Jvm.ClassFile.FieldType.int) 1 := ⟨wq_1_4, wq_6_86, by decide +kernel⟩
theorem wy_X5_goBack : wg_Y yX5_goBack cX5_goBack 2 (Option.some Jvm.ClassFile.FieldType.boolean) 1 := ⟨wq_1_10, wq_6_94, by decide +kernel⟩
theorem wy_X10_copyFrom : wg_Y yX10_copyFrom cX10_copyFrom 2 (none) 1 := ⟨wq_1_2, wq_6_102, by decide +kernel⟩
theorem wy_X0_openSet : wg_Y yX0_openSet cX0_openSet 3 (Option.some Jvm.ClassFile.FieldType.int) 0 := ⟨wq_1_3, wq_6_119, by decide +kernel⟩
theorem wy_X12_wigOf : wg_Y yX12_wigOf cX12_wigOf 2 (Option.some Jvm.ClassFile.FieldType.int) 1 := ⟨wq_1_14, wq_8_81, by decide +kernel⟩
theorem wy_X12_ruleAt : wg_Y yX12_ruleAt cX12_ruleAt 3 (Option.some Jvm.ClassFile.FieldType.int) 2 := ⟨wq_1_14, wq_7_109, by decide +kernel⟩
theorem wy_X12_isItching : wg_Y yX12_isItching cX12_isItching 6 (Option.some Jvm.ClassFile.FieldType.boolean) 3 := ⟨wq_1_14, wq_7_117, by decide +kernel⟩
theorem wy_X12_lesser : wg_Y yX12_lesser cX12_lesser 3 (Option.some Jvm.ClassFile.FieldType.int) 2 := ⟨wq_1_14, wq_7_121, by decide +kernel⟩
theorem wy_X12_itches : wg_Y yX12_itches cX12_itches 5 (none) 1 := ⟨wq_1_14, wq_7_113, by decide +kernel⟩
theorem wy_X12_isIn : wg_Y yX12_isIn cX12_isIn 4 (Option.some Jvm.ClassFile.FieldType.boolean) 3 := ⟨wq_1_14, wq_7_85, by decide +kernel⟩
theorem wy_X12_isWig : wg_Y yX12_isWig cX12_isWig 2 (Option.some Jvm.ClassFile.FieldType.boolean) 1 := ⟨wq_1_14, wq_7_101, by decide +kernel⟩
theorem wy_X12_comesRule : wg_Y yX12_comesRule cX12_comesRule 6 (none) 4 := ⟨wq_1_14, wq_7_105, by decide +kernel⟩
theorem wy_X12_isTrial : wg_Y yX12_isTrial cX12_isTrial 2 (Option.some Jvm.ClassFile.FieldType.boolean) 1 := ⟨wq_1_14, wq_7_137, by decide +kernel⟩
theorem wy_X12_isJudge : wg_Y yX12_isJudge cX12_isJudge 2 (Option.some Jvm.ClassFile.FieldType.boolean) 1 := ⟨wq_1_14, wq_7_133, by decide +kernel⟩
theorem wy_X12_canSet : wg_Y yX12_canSet cX12_canSet 4 (Option.some Jvm.ClassFile.FieldType.boolean) 3 := ⟨wq_1_14, wq_7_129, by decide +kernel⟩
theorem wy_X12_types : wg_Y yX12_types cX12_types 3 (none) 1 := ⟨wq_1_14, wq_7_145, by decide +kernel⟩
theorem wy_X12_raw : wg_Y yX12_raw cX12_raw 2 (Option.some Jvm.ClassFile.FieldType.int) 1 := ⟨wq_1_14, wq_7_165, by decide +kernel⟩
theorem wy_X12_isDigit : wg_Y yX12_isDigit cX12_isDigit 2 (Option.some Jvm.ClassFile.FieldType.boolean) 1 := ⟨wq_1_14, wq_7_177, by decide +kernel⟩
theorem wy_X12_isLetter : wg_Y yX12_isLetter cX12_isLetter 2 (Option.some Jvm.ClassFile.FieldType.boolean) 1 := ⟨wq_1_14, wq_7_169, by decide +kernel⟩
theorem wy_X12_wordAt : wg_Y yX12_wordAt cX12_wordAt 6 (Option.some Jvm.ClassFile.FieldType.int) 2 := ⟨wq_1_14, wq_7_173, by decide +kernel⟩
theorem wy_X12_isMarkSign : wg_Y yX12_isMarkSign cX12_isMarkSign 2 (Option.some Jvm.ClassFile.FieldType.boolean) 1 := ⟨wq_1_14, wq_7_181, by decide +kernel⟩
theorem wy_X12_emits : wg_Y yX12_emits cX12_emits 3 (none) 2 := ⟨wq_1_14, wq_8_25, by decide +kernel⟩
theorem wy_X12_reads : wg_Y yX12_reads cX12_reads 2 (none) 0 := ⟨wq_1_14, wq_7_161, by decide +kernel⟩
theorem wy_X12_errs : wg_Y yX12_errs cX12_errs 2 (Option.some Jvm.ClassFile.FieldType.int) 1 := ⟨wq_1_14, wq_7_193, by decide +kernel⟩
theorem wy_X12_canAsk : wg_Y yX12_canAsk cX12_canAsk 2 (Option.some Jvm.ClassFile.FieldType.boolean) 1 := ⟨wq_1_14, wq_8_21, by decide +kernel⟩
theorem wy_X12_readUnit : wg_Y yX12_readUnit cX12_readUnit 2 (Option.some Jvm.ClassFile.FieldType.int) 0 := ⟨wq_1_14, wq_8_17, by decide +kernel⟩
theorem wy_X12_isSign : wg_Y yX12_isSign cX12_isSign 2 (Option.some Jvm.ClassFile.FieldType.boolean) 1 := ⟨wq_1_14, wq_7_213, by decide +kernel⟩
theorem wy_X12_readProduct : wg_Y yX12_readProduct cX12_readProduct 2 (Option.some Jvm.ClassFile.FieldType.int) 0 := ⟨wq_1_14, wq_8_13, by decide +kernel⟩
theorem wy_X12_readSum : wg_Y yX12_readSum cX12_readSum 2 (Option.some Jvm.ClassFile.FieldType.int) 0 := ⟨wq_1_14, wq_8_9, by decide +kernel⟩
theorem wy_X12_waits : wg_Y yX12_waits cX12_waits 2 (none) 1 := ⟨wq_1_14, wq_8_33, by decide +kernel⟩
theorem wy_X12_isWord : wg_Y yX12_isWord cX12_isWord 2 (Option.some Jvm.ClassFile.FieldType.boolean) 1 := ⟨wq_1_14, wq_7_189, by decide +kernel⟩
theorem wy_X12_settles : wg_Y yX12_settles cX12_settles 2 (none) 1 := ⟨wq_1_14, wq_8_41, by decide +kernel⟩
theorem wy_X12_readCompared : wg_Y yX12_readCompared cX12_readCompared 2 (Option.some Jvm.ClassFile.FieldType.int) 0 := ⟨wq_1_14, wq_8_37, by decide +kernel⟩
theorem wy_X12_isLineWord : wg_Y yX12_isLineWord cX12_isLineWord 1 (Option.some Jvm.ClassFile.FieldType.boolean) 0 := ⟨wq_1_14, wq_8_5, by decide +kernel⟩
theorem wy_X12_readAny : wg_Y yX12_readAny cX12_readAny 4 (Option.some Jvm.ClassFile.FieldType.int) 0 := ⟨wq_1_14, wq_8_29, by decide +kernel⟩
theorem wy_X12_readNumber : wg_Y yX12_readNumber cX12_readNumber 4 (Option.some Jvm.ClassFile.FieldType.int) 2 := ⟨wq_1_14, wq_7_205, by decide +kernel⟩
theorem wy_X12_readTold : wg_Y yX12_readTold cX12_readTold 4 (Option.some Jvm.ClassFile.FieldType.int) 3 := ⟨wq_1_14, wq_7_201, by decide +kernel⟩
theorem wy_X12_readMark : wg_Y yX12_readMark cX12_readMark 2 (Option.some Jvm.ClassFile.FieldType.int) 1 := ⟨wq_1_14, wq_7_209, by decide +kernel⟩
theorem wy_X12_readDocketLine : wg_Y yX12_readDocketLine cX12_readDocketLine 2 (Option.some Jvm.ClassFile.FieldType.int) 1 := ⟨wq_1_14, wq_7_197, by decide +kernel⟩
theorem wy_X12_kindOfLoan : wg_Y yX12_kindOfLoan cX12_kindOfLoan 1 (Option.some Jvm.ClassFile.FieldType.int) 0 := ⟨wq_1_14, wq_7_225, by decide +kernel⟩
theorem wy_X12_readLoanMore : wg_Y yX12_readLoanMore cX12_readLoanMore 2 (Option.some Jvm.ClassFile.FieldType.int) 1 := ⟨wq_1_14, wq_7_229, by decide +kernel⟩
theorem wy_X12_readLoan : wg_Y yX12_readLoan cX12_readLoan 3 (Option.some Jvm.ClassFile.FieldType.int) 1 := ⟨wq_1_14, wq_7_221, by decide +kernel⟩
theorem wy_X12_readKinLine : wg_Y yX12_readKinLine cX12_readKinLine 3 (Option.some Jvm.ClassFile.FieldType.int) 0 := ⟨wq_1_14, wq_7_237, by decide +kernel⟩
theorem wy_X12_readLaw : wg_Y yX12_readLaw cX12_readLaw 3 (Option.some Jvm.ClassFile.FieldType.int) 0 := ⟨wq_1_14, wq_8_1, by decide +kernel⟩
theorem wy_X12_readKin : wg_Y yX12_readKin cX12_readKin 2 (Option.some Jvm.ClassFile.FieldType.int) 0 := ⟨wq_1_14, wq_7_233, by decide +kernel⟩
theorem wy_X12_readLoans : wg_Y yX12_readLoans cX12_readLoans 2 (Option.some Jvm.ClassFile.FieldType.int) 0 := ⟨wq_1_14, wq_7_217, by decide +kernel⟩
theorem wy_X12_readDocket : wg_Y yX12_readDocket cX12_readDocket 2 (Option.some Jvm.ClassFile.FieldType.int) 0 := ⟨wq_1_14, wq_7_185, by decide +kernel⟩
theorem wy_X12_takesOther : wg_Y yX12_takesOther cX12_takesOther 4 (none) 2 := ⟨wq_1_14, wq_8_49, by decide +kernel⟩
theorem wy_X12_takesLaw : wg_Y yX12_takesLaw cX12_takesLaw 3 (none) 1 := ⟨wq_1_14, wq_8_45, by decide +kernel⟩
theorem wy_X12_readsText : wg_Y yX12_readsText cX12_readsText 2 (Option.some Jvm.ClassFile.FieldType.int) 1 := ⟨wq_1_14, wq_7_157, by decide +kernel⟩
theorem wy_X12_twoOf : wg_Y yX12_twoOf cX12_twoOf 4 (Option.some Jvm.ClassFile.FieldType.int) 3 := ⟨wq_1_14, wq_8_105, by decide +kernel⟩
theorem wy_X12_runs : wg_Y yX12_runs cX12_runs 6 (Option.some Jvm.ClassFile.FieldType.int) 3 := ⟨wq_1_14, wq_8_101, by decide +kernel⟩
theorem wy_X12_held : wg_Y yX12_held cX12_held 4 (Option.some Jvm.ClassFile.FieldType.int) 3 := ⟨wq_1_14, wq_8_109, by decide +kernel⟩
theorem wy_X12_lineOf : wg_Y yX12_lineOf cX12_lineOf 3 (Option.some Jvm.ClassFile.FieldType.int) 1 := ⟨wq_1_14, wq_8_97, by decide +kernel⟩
theorem wy_X12_asks : wg_Y yX12_asks cX12_asks 3 (none) 2 := ⟨wq_1_14, wq_8_89, by decide +kernel⟩
theorem wy_X12_lawTells : wg_Y yX12_lawTells cX12_lawTells 5 (Option.some Jvm.ClassFile.FieldType.int) 3 := ⟨wq_1_14, wq_8_93, by decide +kernel⟩
theorem wy_X12_greater : wg_Y yX12_greater cX12_greater 3 (Option.some Jvm.ClassFile.FieldType.int) 2 := ⟨wq_1_14, wq_8_165, by decide +kernel⟩
theorem wy_X12_countsOf : wg_Y yX12_countsOf cX12_countsOf 4 (Option.some Jvm.ClassFile.FieldType.int) 3 := ⟨wq_1_14, wq_8_85, by decide +kernel⟩
theorem wy_X12_partOf : wg_Y yX12_partOf cX12_partOf 3 (Option.some Jvm.ClassFile.FieldType.int) 2 := ⟨wq_1_14, wq_8_113, by decide +kernel⟩
theorem wy_X12_isAlive : wg_Y yX12_isAlive cX12_isAlive 2 (Option.some Jvm.ClassFile.FieldType.boolean) 1 := ⟨wq_1_14, wq_8_65, by decide +kernel⟩
theorem wy_X12_verdictOf : wg_Y yX12_verdictOf cX12_verdictOf 6 (Option.some Jvm.ClassFile.FieldType.int) 2 := ⟨wq_1_14, wq_8_77, by decide +kernel⟩
theorem wy_X12_notes : wg_Y yX12_notes cX12_notes 5 (none) 3 := ⟨wq_1_14, wq_8_117, by decide +kernel⟩
theorem wy_X12_lightest : wg_Y yX12_lightest cX12_lightest 4 (Option.some Jvm.ClassFile.FieldType.int) 1 := ⟨wq_1_14, wq_8_121, by decide +kernel⟩
theorem wy_X12_goesRule : wg_Y yX12_goesRule cX12_goesRule 4 (none) 2 := ⟨wq_1_14, wq_8_125, by decide +kernel⟩
theorem wy_X12_canTry : wg_Y yX12_canTry cX12_canTry 3 (Option.some Jvm.ClassFile.FieldType.boolean) 2 := ⟨wq_1_14, wq_8_61, by decide +kernel⟩
theorem wy_X12_keepsAhead : wg_Y yX12_keepsAhead cX12_keepsAhead 2 (none) 0 := ⟨wq_1_14, wq_8_69, by decide +kernel⟩
theorem wy_X12_judgesCase : wg_Y yX12_judgesCase cX12_judgesCase 5 (Option.some Jvm.ClassFile.FieldType.int) 2 := ⟨wq_1_14, wq_8_73, by decide +kernel⟩
theorem wy_X12_rulesFor : wg_Y yX12_rulesFor cX12_rulesFor 5 (Option.some Jvm.ClassFile.FieldType.int) 2 := ⟨wq_1_14, wq_8_145, by decide +kernel⟩
theorem wy_X12_wearerOf : wg_Y yX12_wearerOf cX12_wearerOf 3 (Option.some Jvm.ClassFile.FieldType.int) 1 := ⟨wq_1_14, wq_8_141, by decide +kernel⟩
theorem wy_X12_brushes : wg_Y yX12_brushes cX12_brushes 4 (none) 2 := ⟨wq_1_14, wq_8_161, by decide +kernel⟩
theorem wy_X12_combsOut : wg_Y yX12_combsOut cX12_combsOut 4 (none) 2 := ⟨wq_1_14, wq_8_157, by decide +kernel⟩
theorem wy_X12_isOn : wg_Y yX12_isOn cX12_isOn 4 (none) 2 := ⟨wq_1_14, wq_8_153, by decide +kernel⟩
theorem wy_X12_isWorth : wg_Y yX12_isWorth cX12_isWorth 3 (Option.some Jvm.ClassFile.FieldType.boolean) 2 := ⟨wq_1_14, wq_8_133, by decide +kernel⟩
theorem wy_X12_canAct : wg_Y yX12_canAct cX12_canAct 4 (Option.some Jvm.ClassFile.FieldType.boolean) 3 := ⟨wq_1_14, wq_8_137, by decide +kernel⟩
theorem wy_X12_acts : wg_Y yX12_acts cX12_acts 4 (none) 3 := ⟨wq_1_14, wq_8_149, by decide +kernel⟩
theorem wy_X12_youngest : wg_Y yX12_youngest cX12_youngest 3 (Option.some Jvm.ClassFile.FieldType.int) 0 := ⟨wq_1_14, wq_8_195, by decide +kernel⟩
theorem wy_X12_draw : wg_Y yX12_draw cX12_draw 2 (Option.some Jvm.ClassFile.FieldType.int) 1 := ⟨wq_1_14, wq_8_185, by decide +kernel⟩
theorem wy_X12_diesOf : wg_Y yX12_diesOf cX12_diesOf 2 (Option.some Jvm.ClassFile.FieldType.int) 1 := ⟨wq_1_14, wq_8_181, by decide +kernel⟩
theorem wy_X12_mothOf : wg_Y yX12_mothOf cX12_mothOf 2 (Option.some Jvm.ClassFile.FieldType.int) 1 := ⟨wq_1_14, wq_8_203, by decide +kernel⟩
theorem wy_X12_wears : wg_Y yX12_wears cX12_wears 3 (none) 1 := ⟨wq_1_14, wq_8_199, by decide +kernel⟩
theorem wy_X12_isEnding : wg_Y yX12_isEnding cX12_isEnding 4 (Option.some Jvm.ClassFile.FieldType.boolean) 1 := ⟨wq_1_14, wq_8_177, by decide +kernel⟩
theorem wy_X12_dies : wg_Y yX12_dies cX12_dies 3 (none) 1 := ⟨wq_1_14, wq_8_191, by decide +kernel⟩
theorem wy_X12_goesBy : wg_Y yX12_goesBy cX12_goesBy 3 (Option.some Jvm.ClassFile.FieldType.int) 0 := ⟨wq_1_14, wq_8_173, by decide +kernel⟩
theorem wy_X12_endsThought : wg_Y yX12_endsThought cX12_endsThought 2 (none) 0 := ⟨wq_1_14, wq_9_4, by decide +kernel⟩
theorem wy_X12_deadSet : wg_Y yX12_deadSet cX12_deadSet 3 (Option.some Jvm.ClassFile.FieldType.int) 0 := ⟨wq_1_14, wq_8_236, by decide +kernel⟩
theorem wy_X12_onesOf : wg_Y yX12_onesOf cX12_onesOf 4 (Option.some Jvm.ClassFile.FieldType.int) 1 := ⟨wq_1_14, wq_9_0, by decide +kernel⟩
theorem wy_X12_thinks : wg_Y yX12_thinks cX12_thinks 2 (none) 0 := ⟨wq_1_14, wq_8_232, by decide +kernel⟩
theorem wy_X12_has : wg_Y yX12_has cX12_has 3 (Option.some Jvm.ClassFile.FieldType.boolean) 2 := ⟨wq_1_14, wq_9_24, by decide +kernel⟩
theorem wy_X12_agrees : wg_Y yX12_agrees cX12_agrees 5 (Option.some Jvm.ClassFile.FieldType.boolean) 2 := ⟨wq_1_14, wq_9_20, by decide +kernel⟩
theorem wy_X12_rulingFor : wg_Y yX12_rulingFor cX12_rulingFor 5 (Option.some Jvm.ClassFile.FieldType.int) 2 := ⟨wq_1_14, wq_9_36, by decide +kernel⟩
theorem wy_X12_unlike : wg_Y yX12_unlike cX12_unlike 6 (Option.some Jvm.ClassFile.FieldType.int) 2 := ⟨wq_1_14, wq_9_32, by decide +kernel⟩
theorem wy_X12_afterOf : wg_Y yX12_afterOf cX12_afterOf 2 (Option.some Jvm.ClassFile.FieldType.int) 1 := ⟨wq_1_14, wq_9_52, by decide +kernel⟩
theorem wy_X12_backFrom : wg_Y yX12_backFrom cX12_backFrom 4 (Option.some Jvm.ClassFile.FieldType.int) 1 := ⟨wq_1_14, wq_9_60, by decide +kernel⟩
theorem wy_X12_commonOf : wg_Y yX12_commonOf cX12_commonOf 6 (Option.some Jvm.ClassFile.FieldType.int) 2 := ⟨wq_1_14, wq_9_56, by decide +kernel⟩
theorem wy_X12_rootOf : wg_Y yX12_rootOf cX12_rootOf 4 (Option.some Jvm.ClassFile.FieldType.int) 1 := ⟨wq_1_14, wq_9_48, by decide +kernel⟩
theorem wy_X12_savedBy : wg_Y yX12_savedBy cX12_savedBy 4 (Option.some Jvm.ClassFile.FieldType.int) 1 := ⟨wq_1_14, wq_9_72, by decide +kernel⟩
theorem wy_X12_hairOf : wg_Y yX12_hairOf cX12_hairOf 4 (Option.some Jvm.ClassFile.FieldType.int) 1 := ⟨wq_1_14, wq_9_68, by decide +kernel⟩
theorem wy_X12_findingSet : wg_Y yX12_findingSet cX12_findingSet 4 (Option.some Jvm.ClassFile.FieldType.int) 1 := ⟨wq_1_14, wq_9_80, by decide +kernel⟩
theorem wy_X12_hasTrait : wg_Y yX12_hasTrait cX12_hasTrait 4 (Option.some Jvm.ClassFile.FieldType.boolean) 3 := ⟨wq_1_14, wq_9_96, by decide +kernel⟩
theorem wy_X12_whoseSet : wg_Y yX12_whoseSet cX12_whoseSet 5 (Option.some Jvm.ClassFile.FieldType.int) 0 := ⟨wq_1_14, wq_9_92, by decide +kernel⟩
theorem wy_X12_longestFrom : wg_Y yX12_longestFrom cX12_longestFrom 4 (Option.some Jvm.ClassFile.FieldType.int) 1 := ⟨wq_1_14, wq_9_113, by decide +kernel⟩
theorem wy_X12_findsChained : wg_Y yX12_findsChained cX12_findsChained 3 (Option.some Jvm.ClassFile.FieldType.boolean) 0 := ⟨wq_1_14, wq_9_109, by decide +kernel⟩
theorem wy_X12_worthOf : wg_Y yX12_worthOf cX12_worthOf 6 (Option.some Jvm.ClassFile.FieldType.int) 3 := ⟨wq_1_14, wq_9_129, by decide +kernel⟩
theorem wy_X12_lesserPart : wg_Y yX12_lesserPart cX12_lesserPart 2 (Option.some Jvm.ClassFile.FieldType.int) 1 := ⟨wq_1_14, wq_9_125, by decide +kernel⟩
theorem wy_X12_lateBy : wg_Y yX12_lateBy cX12_lateBy 5 (Option.some Jvm.ClassFile.FieldType.int) 2 := ⟨wq_1_14, wq_9_145, by decide +kernel⟩
theorem wy_X12_findsLate : wg_Y yX12_findsLate cX12_findsLate 4 (none) 0 := ⟨wq_1_14, wq_9_141, by decide +kernel⟩
theorem wy_X12_keeps : wg_Y yX12_keeps cX12_keeps 2 (Option.some Jvm.ClassFile.FieldType.int) 1 := ⟨wq_1_14, wq_9_157, by decide +kernel⟩
theorem wy_X12_keepsLaw : wg_Y yX12_keepsLaw cX12_keepsLaw 2 (none) 0 := ⟨wq_1_14, wq_9_169, by decide +kernel⟩
theorem wy_X12_keepsMany : wg_Y yX12_keepsMany cX12_keepsMany 1 (none) 0 := ⟨wq_1_14, wq_9_161, by decide +kernel⟩
theorem wy_X12_keepsTold : wg_Y yX12_keepsTold cX12_keepsTold 2 (none) 0 := ⟨wq_1_14, wq_9_165, by decide +kernel⟩
theorem wy_X12_openSet : wg_Y yX12_openSet cX12_openSet 3 (Option.some Jvm.ClassFile.FieldType.int) 0 := ⟨wq_1_14, wq_9_177, by decide +kernel⟩
theorem wy_J0_charAt_5068e : wg_Y yJ0_charAt_5068e cJ0_charAt_5068e 2 (Option.some Jvm.ClassFile.FieldType.char) 1 := ⟨wq_1_18, wq_4_111, by decide +kernel⟩
theorem wy_J0_length_8abf5 : wg_Y yJ0_length_8abf5 cJ0_length_8abf5 1 (Option.some Jvm.ClassFile.FieldType.int) 0 := ⟨wq_1_18, wq_4_101, by decide +kernel⟩
theorem wy_X6_isSpelt : wg_Y yX6_isSpelt cX6_isSpelt 5 (Option.some Jvm.ClassFile.FieldType.boolean) 3 := ⟨wq_1_11, wq_4_149, by decide +kernel⟩
theorem wy_X6_numberAt : wg_Y yX6_numberAt cX6_numberAt 5 (Option.some Jvm.ClassFile.FieldType.int) 2 := ⟨wq_1_11, wq_4_160, by decide +kernel⟩
theorem wy_X6_addToken : wg_Y yX6_addToken cX6_addToken 4 (none) 3 := ⟨wq_1_11, wq_4_153, by decide +kernel⟩
theorem wy_X6_isDigit : wg_Y yX6_isDigit cX6_isDigit 1 (Option.some Jvm.ClassFile.FieldType.boolean) 1 := ⟨wq_1_11, wq_4_156, by decide +kernel⟩
theorem wy_X6_wordAt : wg_Y yX6_wordAt cX6_wordAt 6 (Option.some Jvm.ClassFile.FieldType.int) 2 := ⟨wq_1_11, wq_4_96, by decide +kernel⟩
theorem wy_X6_isLetter : wg_Y yX6_isLetter cX6_isLetter 1 (Option.some Jvm.ClassFile.FieldType.boolean) 1 := ⟨wq_1_11, wq_4_91, by decide +kernel⟩
theorem wy_X6_isSign : wg_Y yX6_isSign cX6_isSign 1 (Option.some Jvm.ClassFile.FieldType.boolean) 1 := ⟨wq_1_11, wq_4_163, by decide +kernel⟩
theorem wy_X6_begin : wg_Y yX6_begin cX6_begin 3 (none) 0 := ⟨wq_1_11, wq_4_88, by decide +kernel⟩
theorem wy_X6_readLines : wg_Y yX6_readLines cX6_readLines 4 (Option.some Jvm.ClassFile.FieldType.boolean) 1 := ⟨wq_1_11, wq_4_236, by decide +kernel⟩
theorem wy_X6_readLaw : wg_Y yX6_readLaw cX6_readLaw 2 (Option.some Jvm.ClassFile.FieldType.boolean) 0 := ⟨wq_1_11, wq_4_167, by decide +kernel⟩
