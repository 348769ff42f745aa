theorem kw_0 : Cond.selects R_H y_H_forgetPlan y_H_forgetPlan ∈ ct_tb := ct_in (i := 0) (by decide +kernel) rfl
theorem kw_1 : Cond.selects R_H y_H_makePlan y_H_makePlan ∈ ct_tb := ct_in (i := 1) (by decide +kernel) rfl
theorem kw_2 : Cond.selects R_P y_P_noteLabels y_P_noteLabels ∈ ct_tb := ct_in (i := 2) (by decide +kernel) rfl
theorem kw_3 : Cond.selects R_P y_P_noteLeaves y_P_noteLeaves ∈ ct_tb := ct_in (i := 3) (by decide +kernel) rfl
theorem kw_4 : Cond.selects R_P y_P_choosePart y_P_choosePart ∈ ct_tb := ct_in (i := 4) (by decide +kernel) rfl
theorem kw_5 : Cond.selects R_P y_P_listSteps y_P_listSteps ∈ ct_tb := ct_in (i := 5) (by decide +kernel) rfl
theorem kw_6 : Cond.selects R_H y_H_allOperands y_H_allOperands ∈ ct_tb := ct_in (i := 6) (by decide +kernel) rfl
theorem kw_8 : Cond.selects R_H y_H_aTableHas y_H_aTableHas ∈ ct_tb := ct_in (i := 8) (by decide +kernel) rfl
theorem kw_9 : Cond.selects R_H y_H_isTable y_H_isTable ∈ ct_tb := ct_in (i := 9) (by decide +kernel) rfl
theorem kw_10 : Cond.selects R_H y_H_countSteps y_H_countSteps ∈ ct_tb := ct_in (i := 10) (by decide +kernel) rfl
theorem kw_11 : Cond.selects R_H y_H_sumAlone y_H_sumAlone ∈ ct_tb := ct_in (i := 11) (by decide +kernel) rfl
theorem kw_12 : Cond.selects R_R y_R_layOut y_R_layOut ∈ ct_tb := ct_in (i := 12) (by decide +kernel) rfl
theorem kw_13 : Cond.selects R_H y_H_followPlan y_H_followPlan ∈ ct_tb := ct_in (i := 13) (by decide +kernel) rfl
theorem kw_14 : Cond.selects R_H y_H_joinParts y_H_joinParts ∈ ct_tb := ct_in (i := 14) (by decide +kernel) rfl
theorem kw_15 : Cond.selects R_M y_M_refuse y_M_refuse ∈ ct_tb := ct_in (i := 15) (by decide +kernel) rfl
theorem kw_16 : Cond.selects R_M y_M_isTable y_M_isTable ∈ ct_tb := ct_in (i := 16) (by decide +kernel) rfl
theorem kw_17 : Cond.selects R_M y_M_product y_M_product ∈ ct_tb := ct_in (i := 17) (by decide +kernel) rfl
theorem kw_18 : Cond.selects R_M y_M_plan y_M_plan ∈ ct_tb := ct_in (i := 18) (by decide +kernel) rfl
theorem kw_19 : Cond.selects R_M y_M_joins y_M_joins ∈ ct_tb := ct_in (i := 19) (by decide +kernel) rfl
theorem kw_20 : Cond.selects R_M y_M_leaves y_M_leaves ∈ ct_tb := ct_in (i := 20) (by decide +kernel) rfl
theorem kw_21 : Cond.selects R_M y_M_has y_M_has ∈ ct_tb := ct_in (i := 21) (by decide +kernel) rfl
theorem kw_22 : Cond.selects R_M y_M_list y_M_list ∈ ct_tb := ct_in (i := 22) (by decide +kernel) rfl
theorem kw_23 : Cond.selects R_M y_M_at y_M_at ∈ ct_tb := ct_in (i := 23) (by decide +kernel) rfl
theorem kw_24 : Cond.selects R_M y_M_next y_M_next ∈ ct_tb := ct_in (i := 24) (by decide +kernel) rfl
theorem kw_25 : Cond.initialized R_L ∈ ct_tb := ct_in (i := 25) (by decide +kernel) rfl
theorem kw_26 : Cond.initialized R_H ∈ ct_tb := ct_in (i := 26) (by decide +kernel) rfl
theorem kw_27 : Cond.initialized R_S ∈ ct_tb := ct_in (i := 27) (by decide +kernel) rfl
theorem kw_28 : Cond.initialized R_P ∈ ct_tb := ct_in (i := 28) (by decide +kernel) rfl
theorem kw_29 : Cond.initialized R_R ∈ ct_tb := ct_in (i := 29) (by decide +kernel) rfl
theorem kw_30 : Cond.initialized R_M ∈ ct_tb := ct_in (i := 30) (by decide +kernel) rfl
theorem kw_31 : Cond.initialized "java/lang/Throwable" ∈ ct_tb := ct_in (i := 31) (by decide +kernel) rfl
theorem kw_32 : Cond.initialized "java/lang/Exception" ∈ ct_tb := ct_in (i := 32) (by decide +kernel) rfl
theorem kw_33 : Cond.initialized "java/lang/RuntimeException" ∈ ct_tb := ct_in (i := 33) (by decide +kernel) rfl
theorem kw_34 : Cond.initialized "java/lang/IllegalArgumentException" ∈ ct_tb := ct_in (i := 34) (by decide +kernel) rfl
theorem kw_35 : Cond.initialized "java/lang/IllegalStateException" ∈ ct_tb := ct_in (i := 35) (by decide +kernel) rfl
theorem kw_36 : Cond.initialized "java/lang/UnsupportedOperationException" ∈ ct_tb := ct_in (i := 36) (by decide +kernel) rfl
theorem kw_37 : Cond.initialized "java/lang/IndexOutOfBoundsException" ∈ ct_tb := ct_in (i := 37) (by decide +kernel) rfl
theorem kw_38 : Cond.initialized R_I ∈ ct_tb := ct_in (i := 38) (by decide +kernel) rfl
theorem kw_39 : Cond.initialized R_Ma ∈ ct_tb := ct_in (i := 39) (by decide +kernel) rfl
theorem kw_40 : Cond.initialized R_Ar ∈ ct_tb := ct_in (i := 40) (by decide +kernel) rfl
theorem kw_41 : Cond.initialized R_Sy ∈ ct_tb := ct_in (i := 41) (by decide +kernel) rfl
theorem kw_42 : Cond.classLink R_L 8 R_H ∈ ct_tb := ct_in (i := 42) (by decide +kernel) rfl
theorem kw_43 : Cond.instantiable R_H 12 ∈ ct_tb := ct_in (i := 43) (by decide +kernel) rfl
theorem kw_44 : Cond.methodLink R_L 49 y_H_init ∈ ct_tb := ct_in (i := 44) (by decide +kernel) rfl
theorem kw_45 : Cond.instanceMethod y_H_init ∈ ct_tb := ct_in (i := 45) (by decide +kernel) rfl
theorem kw_46 : k_H_init ∈ ct_tb := ct_in (i := 46) (by decide +kernel) rfl
theorem kw_47 : Cond.methodLink R_H 3 objectInit ∈ ct_tb := ct_in (i := 47) (by decide +kernel) rfl
theorem kw_48 : Cond.instanceMethod objectInit ∈ ct_tb := ct_in (i := 48) (by decide +kernel) rfl
theorem kw_49 : Cond.code objectInit ⟨#[0xb1]⟩ 1 none ∈ ct_tb := ct_in (i := 49) (by decide +kernel) rfl
theorem kw_50 : Cond.classLink R_H 9 R_S ∈ ct_tb := ct_in (i := 50) (by decide +kernel) rfl
theorem kw_51 : Cond.instantiable R_S 1 ∈ ct_tb := ct_in (i := 51) (by decide +kernel) rfl
theorem kw_52 : Cond.methodLink R_H 11 y_S_init ∈ ct_tb := ct_in (i := 52) (by decide +kernel) rfl
theorem kw_53 : Cond.instanceMethod y_S_init ∈ ct_tb := ct_in (i := 53) (by decide +kernel) rfl
theorem kw_54 : k_S_init ∈ ct_tb := ct_in (i := 54) (by decide +kernel) rfl
theorem kw_55 : Cond.methodLink R_S 3 objectInit ∈ ct_tb := ct_in (i := 55) (by decide +kernel) rfl
theorem kw_56 : Cond.fieldLink R_S 9 "ContractHouse$Sizes" "sizes" "[I" ∈ ct_tb := ct_in (i := 56) (by decide +kernel) rfl
theorem kw_60 : Cond.arrayClass .int ∈ ct_tb := ct_in (i := 60) (by decide +kernel) rfl
theorem kw_61 : Cond.classLink R_H 16 R_P ∈ ct_tb := ct_in (i := 61) (by decide +kernel) rfl
theorem kw_62 : Cond.instantiable R_P 6 ∈ ct_tb := ct_in (i := 62) (by decide +kernel) rfl
theorem kw_63 : Cond.methodLink R_H 18 y_P_init ∈ ct_tb := ct_in (i := 63) (by decide +kernel) rfl
theorem kw_64 : Cond.instanceMethod y_P_init ∈ ct_tb := ct_in (i := 64) (by decide +kernel) rfl
theorem kw_65 : k_P_init ∈ ct_tb := ct_in (i := 65) (by decide +kernel) rfl
theorem kw_66 : Cond.methodLink R_P 3 objectInit ∈ ct_tb := ct_in (i := 66) (by decide +kernel) rfl
theorem kw_67 : Cond.fieldLink R_P 9 "ContractHouse$Plan" "sizes" "LContractHouse$Sizes;" ∈ ct_tb := ct_in (i := 67) (by decide +kernel) rfl
theorem kw_68 : Cond.fieldLink R_P 15 "ContractHouse$Plan" "has" "[I" ∈ ct_tb := ct_in (i := 68) (by decide +kernel) rfl
theorem kw_69 : Cond.fieldLink R_P 19 "ContractHouse$Plan" "leaves" "[I" ∈ ct_tb := ct_in (i := 69) (by decide +kernel) rfl
theorem kw_70 : Cond.fieldLink R_P 22 "ContractHouse$Plan" "costs" "[I" ∈ ct_tb := ct_in (i := 70) (by decide +kernel) rfl
theorem kw_71 : Cond.fieldLink R_P 25 "ContractHouse$Plan" "parts" "[I" ∈ ct_tb := ct_in (i := 71) (by decide +kernel) rfl
theorem kw_72 : Cond.fieldLink R_P 28 "ContractHouse$Plan" "joinedSets" "[I" ∈ ct_tb := ct_in (i := 72) (by decide +kernel) rfl
theorem kw_86 : Cond.classLink R_H 25 R_R ∈ ct_tb := ct_in (i := 86) (by decide +kernel) rfl
theorem kw_87 : Cond.instantiable R_R 7 ∈ ct_tb := ct_in (i := 87) (by decide +kernel) rfl
theorem kw_88 : Cond.methodLink R_H 27 y_R_init ∈ ct_tb := ct_in (i := 88) (by decide +kernel) rfl
theorem kw_89 : Cond.instanceMethod y_R_init ∈ ct_tb := ct_in (i := 89) (by decide +kernel) rfl
theorem kw_90 : k_R_init ∈ ct_tb := ct_in (i := 90) (by decide +kernel) rfl
theorem kw_91 : Cond.methodLink R_R 3 objectInit ∈ ct_tb := ct_in (i := 91) (by decide +kernel) rfl
theorem kw_92 : Cond.fieldLink R_R 9 "ContractHouse$Row" "sizes" "LContractHouse$Sizes;" ∈ ct_tb := ct_in (i := 92) (by decide +kernel) rfl
theorem kw_93 : Cond.fieldLink R_R 15 "ContractHouse$Row" "cells" "[I" ∈ ct_tb := ct_in (i := 93) (by decide +kernel) rfl
theorem kw_94 : Cond.fieldLink R_R 19 "ContractHouse$Row" "ends" "[I" ∈ ct_tb := ct_in (i := 94) (by decide +kernel) rfl
theorem kw_95 : Cond.fieldLink R_R 22 "ContractHouse$Row" "indexes" "[I" ∈ ct_tb := ct_in (i := 95) (by decide +kernel) rfl
theorem kw_96 : Cond.fieldLink R_R 25 "ContractHouse$Row" "leftStrides" "[I" ∈ ct_tb := ct_in (i := 96) (by decide +kernel) rfl
theorem kw_97 : Cond.fieldLink R_R 28 "ContractHouse$Row" "rightStrides" "[I" ∈ ct_tb := ct_in (i := 97) (by decide +kernel) rfl
theorem kw_98 : Cond.fieldLink R_R 31 "ContractHouse$Row" "toStrides" "[I" ∈ ct_tb := ct_in (i := 98) (by decide +kernel) rfl
theorem kw_114 : Cond.fieldLink R_H 12 "ContractHouse" "sizes" "LContractHouse$Sizes;" ∈ ct_tb := ct_in (i := 114) (by decide +kernel) rfl
theorem kw_115 : Cond.fieldLink R_H 21 "ContractHouse" "plan" "LContractHouse$Plan;" ∈ ct_tb := ct_in (i := 115) (by decide +kernel) rfl
theorem kw_116 : Cond.fieldLink R_H 28 "ContractHouse" "row" "LContractHouse$Row;" ∈ ct_tb := ct_in (i := 116) (by decide +kernel) rfl
theorem kw_117 : Cond.fieldLink R_H 77 "ContractHouse" "tables" "I" ∈ ct_tb := ct_in (i := 117) (by decide +kernel) rfl
theorem kw_118 : Cond.fieldLink R_H 32 "ContractHouse" "tableLabels" "[I" ∈ ct_tb := ct_in (i := 118) (by decide +kernel) rfl
theorem kw_119 : Cond.fieldLink R_H 110 "ContractHouse" "operands" "I" ∈ ct_tb := ct_in (i := 119) (by decide +kernel) rfl
theorem kw_120 : Cond.fieldLink R_H 36 "ContractHouse" "operandTables" "[I" ∈ ct_tb := ct_in (i := 120) (by decide +kernel) rfl
theorem kw_121 : Cond.fieldLink R_H 39 "ContractHouse" "operandLabels" "[I" ∈ ct_tb := ct_in (i := 121) (by decide +kernel) rfl
theorem kw_122 : Cond.fieldLink R_H 113 "ContractHouse" "resultLabels" "I" ∈ ct_tb := ct_in (i := 122) (by decide +kernel) rfl
theorem kw_123 : Cond.fieldLink R_H 42 "ContractHouse" "homes" "[I" ∈ ct_tb := ct_in (i := 123) (by decide +kernel) rfl
theorem kw_124 : Cond.fieldLink R_H 167 "ContractHouse" "planned" "Z" ∈ ct_tb := ct_in (i := 124) (by decide +kernel) rfl
theorem kw_125 : Cond.fieldLink R_H 67 "ContractHouse" "summed" "Z" ∈ ct_tb := ct_in (i := 125) (by decide +kernel) rfl
theorem kw_151 : Cond.methodLink R_L 75 y_H_clear ∈ ct_tb := ct_in (i := 151) (by decide +kernel) rfl
theorem kw_152 : Cond.instanceMethod y_H_clear ∈ ct_tb := ct_in (i := 152) (by decide +kernel) rfl
theorem kw_153 : Cond.selects R_H y_H_clear y_H_clear ∈ ct_tb := ct_in (i := 153) (by decide +kernel) rfl
theorem kw_154 : k_H_clear ∈ ct_tb := ct_in (i := 154) (by decide +kernel) rfl
theorem kw_155 : Cond.methodLink R_H 116 y_H_forgetPlan ∈ ct_tb := ct_in (i := 155) (by decide +kernel) rfl
theorem kw_157 : Cond.instanceMethod y_H_forgetPlan ∈ ct_tb := ct_in (i := 157) (by decide +kernel) rfl
theorem kw_158 : k_H_forgetPlan ∈ ct_tb := ct_in (i := 158) (by decide +kernel) rfl
theorem kw_159 : Cond.methodLink R_L 85 y_H_cost ∈ ct_tb := ct_in (i := 159) (by decide +kernel) rfl
theorem kw_160 : Cond.instanceMethod y_H_cost ∈ ct_tb := ct_in (i := 160) (by decide +kernel) rfl
theorem kw_161 : Cond.selects R_H y_H_cost y_H_cost ∈ ct_tb := ct_in (i := 161) (by decide +kernel) rfl
theorem kw_162 : k_H_cost ∈ ct_tb := ct_in (i := 162) (by decide +kernel) rfl
theorem kw_163 : Cond.methodLink R_H 121 y_H_makePlan ∈ ct_tb := ct_in (i := 163) (by decide +kernel) rfl
theorem kw_165 : Cond.instanceMethod y_H_makePlan ∈ ct_tb := ct_in (i := 165) (by decide +kernel) rfl
theorem kw_166 : k_H_makePlan ∈ ct_tb := ct_in (i := 166) (by decide +kernel) rfl
theorem kw_167 : Cond.methodLink R_H 170 y_P_make ∈ ct_tb := ct_in (i := 167) (by decide +kernel) rfl
theorem kw_168 : Cond.instanceMethod y_P_make ∈ ct_tb := ct_in (i := 168) (by decide +kernel) rfl
theorem kw_169 : Cond.selects R_P y_P_make y_P_make ∈ ct_tb := ct_in (i := 169) (by decide +kernel) rfl
theorem kw_170 : k_P_make ∈ ct_tb := ct_in (i := 170) (by decide +kernel) rfl
theorem kw_171 : Cond.methodLink R_P 41 y_P_noteLabels ∈ ct_tb := ct_in (i := 171) (by decide +kernel) rfl
theorem kw_173 : Cond.instanceMethod y_P_noteLabels ∈ ct_tb := ct_in (i := 173) (by decide +kernel) rfl
theorem kw_174 : k_P_noteLabels ∈ ct_tb := ct_in (i := 174) (by decide +kernel) rfl
theorem kw_175 : Cond.methodLink R_P 45 y_P_noteLeaves ∈ ct_tb := ct_in (i := 175) (by decide +kernel) rfl
theorem kw_177 : Cond.instanceMethod y_P_noteLeaves ∈ ct_tb := ct_in (i := 177) (by decide +kernel) rfl
theorem kw_178 : k_P_noteLeaves ∈ ct_tb := ct_in (i := 178) (by decide +kernel) rfl
theorem kw_179 : Cond.methodLink R_P 49 y_P_isSeveral ∈ ct_tb := ct_in (i := 179) (by decide +kernel) rfl
theorem kw_180 : Cond.static y_P_isSeveral ∈ ct_tb := ct_in (i := 180) (by decide +kernel) rfl
theorem kw_181 : k_P_isSeveral ∈ ct_tb := ct_in (i := 181) (by decide +kernel) rfl
theorem kw_182 : Cond.methodLink R_P 53 y_P_choosePart ∈ ct_tb := ct_in (i := 182) (by decide +kernel) rfl
theorem kw_184 : Cond.instanceMethod y_P_choosePart ∈ ct_tb := ct_in (i := 184) (by decide +kernel) rfl
theorem kw_185 : k_P_choosePart ∈ ct_tb := ct_in (i := 185) (by decide +kernel) rfl
theorem kw_186 : Cond.methodLink R_P 61 y_P_joinCost ∈ ct_tb := ct_in (i := 186) (by decide +kernel) rfl
theorem kw_187 : Cond.instanceMethod y_P_joinCost ∈ ct_tb := ct_in (i := 187) (by decide +kernel) rfl
theorem kw_188 : Cond.selects R_P y_P_joinCost y_P_joinCost ∈ ct_tb := ct_in (i := 188) (by decide +kernel) rfl
theorem kw_189 : k_P_joinCost ∈ ct_tb := ct_in (i := 189) (by decide +kernel) rfl
theorem kw_190 : Cond.methodLink R_P 31 y_P_joinLabels ∈ ct_tb := ct_in (i := 190) (by decide +kernel) rfl
theorem kw_191 : Cond.instanceMethod y_P_joinLabels ∈ ct_tb := ct_in (i := 191) (by decide +kernel) rfl
theorem kw_192 : Cond.selects R_P y_P_joinLabels y_P_joinLabels ∈ ct_tb := ct_in (i := 192) (by decide +kernel) rfl
theorem kw_193 : k_P_joinLabels ∈ ct_tb := ct_in (i := 193) (by decide +kernel) rfl
theorem kw_194 : Cond.methodLink R_P 35 y_S_choices ∈ ct_tb := ct_in (i := 194) (by decide +kernel) rfl
theorem kw_195 : Cond.instanceMethod y_S_choices ∈ ct_tb := ct_in (i := 195) (by decide +kernel) rfl
theorem kw_196 : Cond.selects R_S y_S_choices y_S_choices ∈ ct_tb := ct_in (i := 196) (by decide +kernel) rfl
theorem kw_197 : k_S_choices ∈ ct_tb := ct_in (i := 197) (by decide +kernel) rfl
theorem kw_198 : Cond.methodLink R_P 57 y_P_listSteps ∈ ct_tb := ct_in (i := 198) (by decide +kernel) rfl
theorem kw_200 : Cond.instanceMethod y_P_listSteps ∈ ct_tb := ct_in (i := 200) (by decide +kernel) rfl
theorem kw_201 : k_P_listSteps ∈ ct_tb := ct_in (i := 201) (by decide +kernel) rfl
theorem kw_202 : Cond.methodLink R_P 64 y_I_bitCount ∈ ct_tb := ct_in (i := 202) (by decide +kernel) rfl
theorem kw_203 : Cond.static y_I_bitCount ∈ ct_tb := ct_in (i := 203) (by decide +kernel) rfl
theorem kw_204 : k_I_bitCount ∈ ct_tb := ct_in (i := 204) (by decide +kernel) rfl
theorem kw_205 : Cond.constant R_I 265 (1431655765) ∈ ct_tb := ct_in (i := 205) (by decide +kernel) rfl
theorem kw_206 : Cond.constant R_I 266 (858993459) ∈ ct_tb := ct_in (i := 206) (by decide +kernel) rfl
theorem kw_207 : Cond.constant R_I 267 (252645135) ∈ ct_tb := ct_in (i := 207) (by decide +kernel) rfl
theorem kw_208 : Cond.methodLink R_H 124 y_H_allOperands ∈ ct_tb := ct_in (i := 208) (by decide +kernel) rfl
theorem kw_210 : Cond.instanceMethod y_H_allOperands ∈ ct_tb := ct_in (i := 210) (by decide +kernel) rfl
theorem kw_211 : k_H_allOperands ∈ ct_tb := ct_in (i := 211) (by decide +kernel) rfl
theorem kw_212 : Cond.methodLink R_H 128 y_P_costOf ∈ ct_tb := ct_in (i := 212) (by decide +kernel) rfl
theorem kw_213 : Cond.instanceMethod y_P_costOf ∈ ct_tb := ct_in (i := 213) (by decide +kernel) rfl
theorem kw_214 : Cond.selects R_P y_P_costOf y_P_costOf ∈ ct_tb := ct_in (i := 214) (by decide +kernel) rfl
theorem kw_215 : k_P_costOf ∈ ct_tb := ct_in (i := 215) (by decide +kernel) rfl
theorem kw_216 : Cond.methodLink R_L 53 y_L_size ∈ ct_tb := ct_in (i := 216) (by decide +kernel) rfl
theorem kw_217 : Cond.static y_L_size ∈ ct_tb := ct_in (i := 217) (by decide +kernel) rfl
theorem kw_218 : k_L_size ∈ ct_tb := ct_in (i := 218) (by decide +kernel) rfl
theorem kw_219 : Cond.classLink R_L 13 "java/lang/IllegalArgumentException" ∈ ct_tb := ct_in (i := 219) (by decide +kernel) rfl
theorem kw_220 : Cond.classLink R_L 15 "java/lang/IllegalStateException" ∈ ct_tb := ct_in (i := 220) (by decide +kernel) rfl
theorem kw_221 : Cond.methodLink R_L 7 y_H_size ∈ ct_tb := ct_in (i := 221) (by decide +kernel) rfl
theorem kw_222 : Cond.instanceMethod y_H_size ∈ ct_tb := ct_in (i := 222) (by decide +kernel) rfl
theorem kw_223 : Cond.selects R_H y_H_size y_H_size ∈ ct_tb := ct_in (i := 223) (by decide +kernel) rfl
theorem kw_224 : k_H_size ∈ ct_tb := ct_in (i := 224) (by decide +kernel) rfl
theorem kw_225 : Cond.classLink R_H 45 "java/lang/IllegalArgumentException" ∈ ct_tb := ct_in (i := 225) (by decide +kernel) rfl
theorem kw_248 : Cond.instanceMethod ⟨"java/lang/Throwable", "<init>", "()V"⟩ ∈ ct_tb := ct_in (i := 248) (by decide +kernel) rfl
theorem kw_256 : Cond.instanceMethod ⟨"java/lang/Throwable", "fillInStackTrace", "()Ljava/lang/Throwable;"⟩ ∈ ct_tb := ct_in (i := 256) (by decide +kernel) rfl
theorem kw_264 : Cond.instanceMethod ⟨"java/lang/Throwable", "fillInStackTrace", "(I)Ljava/lang/Throwable;"⟩ ∈ ct_tb := ct_in (i := 264) (by decide +kernel) rfl
theorem kw_268 : Cond.methodLink R_H 49 ⟨"java/lang/IllegalArgumentException", "<init>", "(Ljava/lang/String;)V"⟩ ∈ ct_tb := ct_in (i := 268) (by decide +kernel) rfl
theorem kw_269 : Cond.instanceMethod ⟨"java/lang/IllegalArgumentException", "<init>", "(Ljava/lang/String;)V"⟩ ∈ ct_tb := ct_in (i := 269) (by decide +kernel) rfl
theorem kw_272 : Cond.instanceMethod ⟨"java/lang/RuntimeException", "<init>", "(Ljava/lang/String;)V"⟩ ∈ ct_tb := ct_in (i := 272) (by decide +kernel) rfl
theorem kw_275 : Cond.instanceMethod ⟨"java/lang/Exception", "<init>", "(Ljava/lang/String;)V"⟩ ∈ ct_tb := ct_in (i := 275) (by decide +kernel) rfl
theorem kw_278 : Cond.instanceMethod ⟨"java/lang/Throwable", "<init>", "(Ljava/lang/String;)V"⟩ ∈ ct_tb := ct_in (i := 278) (by decide +kernel) rfl
theorem kw_293 : Cond.arrayClass .byte ∈ ct_tb := ct_in (i := 293) (by decide +kernel) rfl
theorem kw_295 : Cond.methodLink R_H 54 y_H_aTableHas ∈ ct_tb := ct_in (i := 295) (by decide +kernel) rfl
theorem kw_297 : Cond.instanceMethod y_H_aTableHas ∈ ct_tb := ct_in (i := 297) (by decide +kernel) rfl
theorem kw_298 : k_H_aTableHas ∈ ct_tb := ct_in (i := 298) (by decide +kernel) rfl
theorem kw_299 : Cond.methodLink R_H 164 y_H_labelBit ∈ ct_tb := ct_in (i := 299) (by decide +kernel) rfl
theorem kw_300 : Cond.static y_H_labelBit ∈ ct_tb := ct_in (i := 300) (by decide +kernel) rfl
theorem kw_301 : k_H_labelBit ∈ ct_tb := ct_in (i := 301) (by decide +kernel) rfl
theorem kw_302 : Cond.classLink R_H 58 "java/lang/IllegalStateException" ∈ ct_tb := ct_in (i := 302) (by decide +kernel) rfl
theorem kw_312 : Cond.methodLink R_H 62 ⟨"java/lang/IllegalStateException", "<init>", "(Ljava/lang/String;)V"⟩ ∈ ct_tb := ct_in (i := 312) (by decide +kernel) rfl
theorem kw_313 : Cond.instanceMethod ⟨"java/lang/IllegalStateException", "<init>", "(Ljava/lang/String;)V"⟩ ∈ ct_tb := ct_in (i := 313) (by decide +kernel) rfl
theorem kw_318 : Cond.methodLink R_H 63 y_S_change ∈ ct_tb := ct_in (i := 318) (by decide +kernel) rfl
theorem kw_319 : Cond.instanceMethod y_S_change ∈ ct_tb := ct_in (i := 319) (by decide +kernel) rfl
theorem kw_320 : Cond.selects R_S y_S_change y_S_change ∈ ct_tb := ct_in (i := 320) (by decide +kernel) rfl
theorem kw_321 : k_S_change ∈ ct_tb := ct_in (i := 321) (by decide +kernel) rfl
theorem kw_322 : Cond.methodLink R_L 63 y_L_table ∈ ct_tb := ct_in (i := 322) (by decide +kernel) rfl
theorem kw_323 : Cond.static y_L_table ∈ ct_tb := ct_in (i := 323) (by decide +kernel) rfl
theorem kw_324 : k_L_table ∈ ct_tb := ct_in (i := 324) (by decide +kernel) rfl
theorem kw_325 : Cond.classLink R_L 21 "java/lang/UnsupportedOperationException" ∈ ct_tb := ct_in (i := 325) (by decide +kernel) rfl
theorem kw_326 : Cond.methodLink R_L 17 y_H_table ∈ ct_tb := ct_in (i := 326) (by decide +kernel) rfl
theorem kw_327 : Cond.instanceMethod y_H_table ∈ ct_tb := ct_in (i := 327) (by decide +kernel) rfl
theorem kw_328 : Cond.selects R_H y_H_table y_H_table ∈ ct_tb := ct_in (i := 328) (by decide +kernel) rfl
theorem kw_329 : k_H_table ∈ ct_tb := ct_in (i := 329) (by decide +kernel) rfl
theorem kw_330 : Cond.methodLink R_H 71 y_H_areLabels ∈ ct_tb := ct_in (i := 330) (by decide +kernel) rfl
theorem kw_331 : Cond.static y_H_areLabels ∈ ct_tb := ct_in (i := 331) (by decide +kernel) rfl
theorem kw_332 : k_H_areLabels ∈ ct_tb := ct_in (i := 332) (by decide +kernel) rfl
theorem kw_333 : Cond.methodLink R_H 160 y_H_mayFollow ∈ ct_tb := ct_in (i := 333) (by decide +kernel) rfl
theorem kw_334 : Cond.static y_H_mayFollow ∈ ct_tb := ct_in (i := 334) (by decide +kernel) rfl
theorem kw_335 : k_H_mayFollow ∈ ct_tb := ct_in (i := 335) (by decide +kernel) rfl
theorem kw_337 : Cond.classLink R_H 81 "java/lang/UnsupportedOperationException" ∈ ct_tb := ct_in (i := 337) (by decide +kernel) rfl
theorem kw_347 : Cond.methodLink R_H 85 ⟨"java/lang/UnsupportedOperationException", "<init>", "(Ljava/lang/String;)V"⟩ ∈ ct_tb := ct_in (i := 347) (by decide +kernel) rfl
theorem kw_348 : Cond.instanceMethod ⟨"java/lang/UnsupportedOperationException", "<init>", "(Ljava/lang/String;)V"⟩ ∈ ct_tb := ct_in (i := 348) (by decide +kernel) rfl
theorem kw_353 : Cond.methodLink R_H 86 y_H_labelBits ∈ ct_tb := ct_in (i := 353) (by decide +kernel) rfl
theorem kw_354 : Cond.static y_H_labelBits ∈ ct_tb := ct_in (i := 354) (by decide +kernel) rfl
theorem kw_355 : k_H_labelBits ∈ ct_tb := ct_in (i := 355) (by decide +kernel) rfl
theorem kw_356 : Cond.methodLink R_L 67 y_L_set ∈ ct_tb := ct_in (i := 356) (by decide +kernel) rfl
theorem kw_357 : Cond.static y_L_set ∈ ct_tb := ct_in (i := 357) (by decide +kernel) rfl
theorem kw_358 : k_L_set ∈ ct_tb := ct_in (i := 358) (by decide +kernel) rfl
theorem kw_359 : Cond.classLink R_L 27 "java/lang/IndexOutOfBoundsException" ∈ ct_tb := ct_in (i := 359) (by decide +kernel) rfl
theorem kw_360 : Cond.methodLink R_L 23 y_H_set ∈ ct_tb := ct_in (i := 360) (by decide +kernel) rfl
theorem kw_361 : Cond.instanceMethod y_H_set ∈ ct_tb := ct_in (i := 361) (by decide +kernel) rfl
theorem kw_362 : Cond.selects R_H y_H_set y_H_set ∈ ct_tb := ct_in (i := 362) (by decide +kernel) rfl
theorem kw_363 : k_H_set ∈ ct_tb := ct_in (i := 363) (by decide +kernel) rfl
theorem kw_364 : Cond.methodLink R_H 90 y_H_isTable ∈ ct_tb := ct_in (i := 364) (by decide +kernel) rfl
theorem kw_366 : Cond.instanceMethod y_H_isTable ∈ ct_tb := ct_in (i := 366) (by decide +kernel) rfl
theorem kw_367 : k_H_isTable ∈ ct_tb := ct_in (i := 367) (by decide +kernel) rfl
theorem kw_368 : Cond.classLink R_H 93 "java/lang/IndexOutOfBoundsException" ∈ ct_tb := ct_in (i := 368) (by decide +kernel) rfl
theorem kw_378 : Cond.methodLink R_H 97 ⟨"java/lang/IndexOutOfBoundsException", "<init>", "(Ljava/lang/String;)V"⟩ ∈ ct_tb := ct_in (i := 378) (by decide +kernel) rfl
theorem kw_379 : Cond.instanceMethod ⟨"java/lang/IndexOutOfBoundsException", "<init>", "(Ljava/lang/String;)V"⟩ ∈ ct_tb := ct_in (i := 379) (by decide +kernel) rfl
theorem kw_384 : Cond.methodLink R_H 98 y_S_choices ∈ ct_tb := ct_in (i := 384) (by decide +kernel) rfl
theorem kw_386 : Cond.methodLink R_H 104 y_H_homeOfTable ∈ ct_tb := ct_in (i := 386) (by decide +kernel) rfl
theorem kw_387 : Cond.static y_H_homeOfTable ∈ ct_tb := ct_in (i := 387) (by decide +kernel) rfl
theorem kw_388 : k_H_homeOfTable ∈ ct_tb := ct_in (i := 388) (by decide +kernel) rfl
theorem kw_389 : Cond.methodLink R_H 107 y_R_write ∈ ct_tb := ct_in (i := 389) (by decide +kernel) rfl
theorem kw_390 : Cond.instanceMethod y_R_write ∈ ct_tb := ct_in (i := 390) (by decide +kernel) rfl
theorem kw_391 : Cond.selects R_R y_R_write y_R_write ∈ ct_tb := ct_in (i := 391) (by decide +kernel) rfl
theorem kw_392 : k_R_write ∈ ct_tb := ct_in (i := 392) (by decide +kernel) rfl
theorem kw_393 : Cond.methodLink R_L 71 y_L_extent ∈ ct_tb := ct_in (i := 393) (by decide +kernel) rfl
theorem kw_394 : Cond.static y_L_extent ∈ ct_tb := ct_in (i := 394) (by decide +kernel) rfl
theorem kw_395 : k_L_extent ∈ ct_tb := ct_in (i := 395) (by decide +kernel) rfl
theorem kw_396 : Cond.methodLink R_L 29 y_H_extent ∈ ct_tb := ct_in (i := 396) (by decide +kernel) rfl
theorem kw_397 : Cond.instanceMethod y_H_extent ∈ ct_tb := ct_in (i := 397) (by decide +kernel) rfl
theorem kw_398 : Cond.selects R_H y_H_extent y_H_extent ∈ ct_tb := ct_in (i := 398) (by decide +kernel) rfl
theorem kw_399 : k_H_extent ∈ ct_tb := ct_in (i := 399) (by decide +kernel) rfl
theorem kw_400 : Cond.methodLink R_L 79 y_L_operand ∈ ct_tb := ct_in (i := 400) (by decide +kernel) rfl
theorem kw_401 : Cond.static y_L_operand ∈ ct_tb := ct_in (i := 401) (by decide +kernel) rfl
theorem kw_402 : k_L_operand ∈ ct_tb := ct_in (i := 402) (by decide +kernel) rfl
theorem kw_403 : Cond.methodLink R_L 33 y_H_operand ∈ ct_tb := ct_in (i := 403) (by decide +kernel) rfl
theorem kw_404 : Cond.instanceMethod y_H_operand ∈ ct_tb := ct_in (i := 404) (by decide +kernel) rfl
theorem kw_405 : Cond.selects R_H y_H_operand y_H_operand ∈ ct_tb := ct_in (i := 405) (by decide +kernel) rfl
theorem kw_406 : k_H_operand ∈ ct_tb := ct_in (i := 406) (by decide +kernel) rfl
theorem kw_408 : Cond.methodLink R_L 82 y_L_result ∈ ct_tb := ct_in (i := 408) (by decide +kernel) rfl
theorem kw_409 : Cond.static y_L_result ∈ ct_tb := ct_in (i := 409) (by decide +kernel) rfl
theorem kw_410 : k_L_result ∈ ct_tb := ct_in (i := 410) (by decide +kernel) rfl
theorem kw_411 : Cond.methodLink R_L 36 y_H_result ∈ ct_tb := ct_in (i := 411) (by decide +kernel) rfl
theorem kw_412 : Cond.instanceMethod y_H_result ∈ ct_tb := ct_in (i := 412) (by decide +kernel) rfl
theorem kw_413 : Cond.selects R_H y_H_result y_H_result ∈ ct_tb := ct_in (i := 413) (by decide +kernel) rfl
theorem kw_414 : k_H_result ∈ ct_tb := ct_in (i := 414) (by decide +kernel) rfl
theorem kw_415 : Cond.methodLink R_L 89 y_L_step ∈ ct_tb := ct_in (i := 415) (by decide +kernel) rfl
theorem kw_416 : Cond.static y_L_step ∈ ct_tb := ct_in (i := 416) (by decide +kernel) rfl
theorem kw_417 : k_L_step ∈ ct_tb := ct_in (i := 417) (by decide +kernel) rfl
theorem kw_418 : Cond.methodLink R_L 39 y_H_step ∈ ct_tb := ct_in (i := 418) (by decide +kernel) rfl
theorem kw_419 : Cond.instanceMethod y_H_step ∈ ct_tb := ct_in (i := 419) (by decide +kernel) rfl
theorem kw_420 : Cond.selects R_H y_H_step y_H_step ∈ ct_tb := ct_in (i := 420) (by decide +kernel) rfl
theorem kw_421 : k_H_step ∈ ct_tb := ct_in (i := 421) (by decide +kernel) rfl
theorem kw_422 : Cond.methodLink R_H 131 y_H_countSteps ∈ ct_tb := ct_in (i := 422) (by decide +kernel) rfl
theorem kw_424 : Cond.instanceMethod y_H_countSteps ∈ ct_tb := ct_in (i := 424) (by decide +kernel) rfl
theorem kw_425 : k_H_countSteps ∈ ct_tb := ct_in (i := 425) (by decide +kernel) rfl
theorem kw_428 : Cond.methodLink R_H 138 y_P_joinedBy ∈ ct_tb := ct_in (i := 428) (by decide +kernel) rfl
theorem kw_429 : Cond.instanceMethod y_P_joinedBy ∈ ct_tb := ct_in (i := 429) (by decide +kernel) rfl
theorem kw_430 : Cond.selects R_P y_P_joinedBy y_P_joinedBy ∈ ct_tb := ct_in (i := 430) (by decide +kernel) rfl
theorem kw_431 : k_P_joinedBy ∈ ct_tb := ct_in (i := 431) (by decide +kernel) rfl
theorem kw_432 : Cond.methodLink R_H 141 y_P_partOf ∈ ct_tb := ct_in (i := 432) (by decide +kernel) rfl
theorem kw_433 : Cond.instanceMethod y_P_partOf ∈ ct_tb := ct_in (i := 433) (by decide +kernel) rfl
theorem kw_434 : Cond.selects R_P y_P_partOf y_P_partOf ∈ ct_tb := ct_in (i := 434) (by decide +kernel) rfl
theorem kw_435 : k_P_partOf ∈ ct_tb := ct_in (i := 435) (by decide +kernel) rfl
theorem kw_436 : Cond.methodLink R_H 144 y_P_joinCost ∈ ct_tb := ct_in (i := 436) (by decide +kernel) rfl
theorem kw_437 : Cond.methodLink R_H 148 y_P_joinLabels ∈ ct_tb := ct_in (i := 437) (by decide +kernel) rfl
theorem kw_438 : Cond.methodLink R_L 93 y_L_value ∈ ct_tb := ct_in (i := 438) (by decide +kernel) rfl
theorem kw_439 : Cond.static y_L_value ∈ ct_tb := ct_in (i := 439) (by decide +kernel) rfl
theorem kw_440 : k_L_value ∈ ct_tb := ct_in (i := 440) (by decide +kernel) rfl
theorem kw_441 : Cond.methodLink R_L 43 y_H_value ∈ ct_tb := ct_in (i := 441) (by decide +kernel) rfl
theorem kw_442 : Cond.instanceMethod y_H_value ∈ ct_tb := ct_in (i := 442) (by decide +kernel) rfl
theorem kw_443 : Cond.selects R_H y_H_value y_H_value ∈ ct_tb := ct_in (i := 443) (by decide +kernel) rfl
theorem kw_444 : k_H_value ∈ ct_tb := ct_in (i := 444) (by decide +kernel) rfl
theorem kw_445 : Cond.methodLink R_H 151 y_H_sumAlone ∈ ct_tb := ct_in (i := 445) (by decide +kernel) rfl
theorem kw_447 : Cond.instanceMethod y_H_sumAlone ∈ ct_tb := ct_in (i := 447) (by decide +kernel) rfl
theorem kw_448 : k_H_sumAlone ∈ ct_tb := ct_in (i := 448) (by decide +kernel) rfl
theorem kw_449 : Cond.methodLink R_H 174 y_R_join ∈ ct_tb := ct_in (i := 449) (by decide +kernel) rfl
theorem kw_450 : Cond.instanceMethod y_R_join ∈ ct_tb := ct_in (i := 450) (by decide +kernel) rfl
theorem kw_451 : Cond.selects R_R y_R_join y_R_join ∈ ct_tb := ct_in (i := 451) (by decide +kernel) rfl
theorem kw_452 : k_R_join ∈ ct_tb := ct_in (i := 452) (by decide +kernel) rfl
theorem kw_453 : Cond.methodLink R_R 46 y_S_choices ∈ ct_tb := ct_in (i := 453) (by decide +kernel) rfl
theorem kw_454 : Cond.methodLink R_R 52 y_R_layOut ∈ ct_tb := ct_in (i := 454) (by decide +kernel) rfl
theorem kw_456 : Cond.instanceMethod y_R_layOut ∈ ct_tb := ct_in (i := 456) (by decide +kernel) rfl
theorem kw_457 : k_R_layOut ∈ ct_tb := ct_in (i := 457) (by decide +kernel) rfl
theorem kw_458 : Cond.methodLink R_R 56 y_S_sizeOf ∈ ct_tb := ct_in (i := 458) (by decide +kernel) rfl
theorem kw_459 : Cond.instanceMethod y_S_sizeOf ∈ ct_tb := ct_in (i := 459) (by decide +kernel) rfl
theorem kw_460 : Cond.selects R_S y_S_sizeOf y_S_sizeOf ∈ ct_tb := ct_in (i := 460) (by decide +kernel) rfl
theorem kw_461 : k_S_sizeOf ∈ ct_tb := ct_in (i := 461) (by decide +kernel) rfl
theorem kw_462 : Cond.methodLink R_R 59 y_S_stride ∈ ct_tb := ct_in (i := 462) (by decide +kernel) rfl
theorem kw_463 : Cond.instanceMethod y_S_stride ∈ ct_tb := ct_in (i := 463) (by decide +kernel) rfl
theorem kw_464 : Cond.selects R_S y_S_stride y_S_stride ∈ ct_tb := ct_in (i := 464) (by decide +kernel) rfl
theorem kw_465 : k_S_stride ∈ ct_tb := ct_in (i := 465) (by decide +kernel) rfl
theorem kw_466 : Cond.methodLink R_S 15 y_S_choices ∈ ct_tb := ct_in (i := 466) (by decide +kernel) rfl
theorem kw_467 : Cond.methodLink R_H 154 y_H_followPlan ∈ ct_tb := ct_in (i := 467) (by decide +kernel) rfl
theorem kw_469 : Cond.instanceMethod y_H_followPlan ∈ ct_tb := ct_in (i := 469) (by decide +kernel) rfl
theorem kw_470 : k_H_followPlan ∈ ct_tb := ct_in (i := 470) (by decide +kernel) rfl
theorem kw_471 : Cond.methodLink R_H 178 y_P_leavesOf ∈ ct_tb := ct_in (i := 471) (by decide +kernel) rfl
theorem kw_472 : Cond.instanceMethod y_P_leavesOf ∈ ct_tb := ct_in (i := 472) (by decide +kernel) rfl
theorem kw_473 : Cond.selects R_P y_P_leavesOf y_P_leavesOf ∈ ct_tb := ct_in (i := 473) (by decide +kernel) rfl
theorem kw_474 : k_P_leavesOf ∈ ct_tb := ct_in (i := 474) (by decide +kernel) rfl
theorem kw_475 : Cond.methodLink R_H 181 y_R_reserve ∈ ct_tb := ct_in (i := 475) (by decide +kernel) rfl
theorem kw_476 : Cond.instanceMethod y_R_reserve ∈ ct_tb := ct_in (i := 476) (by decide +kernel) rfl
theorem kw_477 : Cond.selects R_R y_R_reserve y_R_reserve ∈ ct_tb := ct_in (i := 477) (by decide +kernel) rfl
theorem kw_478 : k_R_reserve ∈ ct_tb := ct_in (i := 478) (by decide +kernel) rfl
theorem kw_479 : Cond.methodLink R_R 34 y_Ma_max ∈ ct_tb := ct_in (i := 479) (by decide +kernel) rfl
theorem kw_480 : Cond.static y_Ma_max ∈ ct_tb := ct_in (i := 480) (by decide +kernel) rfl
theorem kw_481 : k_Ma_max ∈ ct_tb := ct_in (i := 481) (by decide +kernel) rfl
theorem kw_482 : Cond.methodLink R_R 40 y_Ar_copyOf ∈ ct_tb := ct_in (i := 482) (by decide +kernel) rfl
theorem kw_483 : Cond.static y_Ar_copyOf ∈ ct_tb := ct_in (i := 483) (by decide +kernel) rfl
theorem kw_484 : k_Ar_copyOf ∈ ct_tb := ct_in (i := 484) (by decide +kernel) rfl
theorem kw_485 : Cond.methodLink R_Ar 316 ⟨"[I", "clone", "()Ljava/lang/Object;"⟩ ∈ ct_tb := ct_in (i := 485) (by decide +kernel) rfl
theorem kw_488 : Cond.instanceMethod ⟨"java/lang/Object", "clone", "()Ljava/lang/Object;"⟩ ∈ ct_tb := ct_in (i := 488) (by decide +kernel) rfl
theorem kw_489 : Cond.selects "[I" ⟨"[I", "clone", "()Ljava/lang/Object;"⟩ ⟨"java/lang/Object", "clone", "()Ljava/lang/Object;"⟩ ∈ ct_tb := ct_in (i := 489) (by decide +kernel) rfl
theorem kw_491 : Cond.classLink R_Ar 317 "[I" ∈ ct_tb := ct_in (i := 491) (by decide +kernel) rfl
theorem kw_492 : Cond.methodLink R_Ar 304 y_Ma_min ∈ ct_tb := ct_in (i := 492) (by decide +kernel) rfl
theorem kw_493 : Cond.static y_Ma_min ∈ ct_tb := ct_in (i := 493) (by decide +kernel) rfl
theorem kw_494 : k_Ma_min ∈ ct_tb := ct_in (i := 494) (by decide +kernel) rfl
theorem kw_495 : Cond.methodLink R_Ar 150 ⟨"java/lang/System", "arraycopy", "(Ljava/lang/Object;ILjava/lang/Object;II)V"⟩ ∈ ct_tb := ct_in (i := 495) (by decide +kernel) rfl
theorem kw_496 : Cond.static ⟨"java/lang/System", "arraycopy", "(Ljava/lang/Object;ILjava/lang/Object;II)V"⟩ ∈ ct_tb := ct_in (i := 496) (by decide +kernel) rfl
theorem kw_497 : Cond.native ⟨"java/lang/System", "arraycopy", "(Ljava/lang/Object;ILjava/lang/Object;II)V"⟩ ∈ ct_tb := ct_in (i := 497) (by decide +kernel) rfl
theorem kw_498 : Cond.methodLink R_H 185 y_H_joinParts ∈ ct_tb := ct_in (i := 498) (by decide +kernel) rfl
theorem kw_500 : Cond.instanceMethod y_H_joinParts ∈ ct_tb := ct_in (i := 500) (by decide +kernel) rfl
theorem kw_501 : k_H_joinParts ∈ ct_tb := ct_in (i := 501) (by decide +kernel) rfl
theorem kw_502 : Cond.methodLink R_H 157 y_R_read ∈ ct_tb := ct_in (i := 502) (by decide +kernel) rfl
theorem kw_503 : Cond.instanceMethod y_R_read ∈ ct_tb := ct_in (i := 503) (by decide +kernel) rfl
theorem kw_504 : Cond.selects R_R y_R_read y_R_read ∈ ct_tb := ct_in (i := 504) (by decide +kernel) rfl
theorem kw_505 : k_R_read ∈ ct_tb := ct_in (i := 505) (by decide +kernel) rfl
theorem kw_506 : Cond.methodLink R_L 96 y_L_about ∈ ct_tb := ct_in (i := 506) (by decide +kernel) rfl
theorem kw_507 : Cond.static y_L_about ∈ ct_tb := ct_in (i := 507) (by decide +kernel) rfl
theorem kw_508 : k_L_about ∈ ct_tb := ct_in (i := 508) (by decide +kernel) rfl
theorem kw_509 : Cond.methodLink R_L 46 y_H_about ∈ ct_tb := ct_in (i := 509) (by decide +kernel) rfl
theorem kw_510 : Cond.instanceMethod y_H_about ∈ ct_tb := ct_in (i := 510) (by decide +kernel) rfl
theorem kw_511 : Cond.selects R_H y_H_about y_H_about ∈ ct_tb := ct_in (i := 511) (by decide +kernel) rfl
theorem kw_512 : k_H_about ∈ ct_tb := ct_in (i := 512) (by decide +kernel) rfl
theorem kw_513 : Cond.classLink R_L 50 R_M ∈ ct_tb := ct_in (i := 513) (by decide +kernel) rfl
theorem kw_514 : Cond.instantiable R_M 14 ∈ ct_tb := ct_in (i := 514) (by decide +kernel) rfl
theorem kw_515 : Cond.methodLink R_L 52 y_M_init ∈ ct_tb := ct_in (i := 515) (by decide +kernel) rfl
theorem kw_516 : Cond.instanceMethod y_M_init ∈ ct_tb := ct_in (i := 516) (by decide +kernel) rfl
theorem kw_517 : k_M_init ∈ ct_tb := ct_in (i := 517) (by decide +kernel) rfl
theorem kw_518 : Cond.methodLink R_M 1 objectInit ∈ ct_tb := ct_in (i := 518) (by decide +kernel) rfl
theorem kw_519 : Cond.fieldLink R_M 37 "ContractHouseModel" "thrown" "I" ∈ ct_tb := ct_in (i := 519) (by decide +kernel) rfl
theorem kw_520 : Cond.fieldLink R_M 7 "ContractHouseModel" "size" "[I" ∈ ct_tb := ct_in (i := 520) (by decide +kernel) rfl
theorem kw_521 : Cond.fieldLink R_M 45 "ContractHouseModel" "tables" "I" ∈ ct_tb := ct_in (i := 521) (by decide +kernel) rfl
theorem kw_522 : Cond.fieldLink R_M 13 "ContractHouseModel" "labels" "[I" ∈ ct_tb := ct_in (i := 522) (by decide +kernel) rfl
theorem kw_523 : Cond.fieldLink R_M 16 "ContractHouseModel" "cell" "[I" ∈ ct_tb := ct_in (i := 523) (by decide +kernel) rfl
theorem kw_524 : Cond.fieldLink R_M 64 "ContractHouseModel" "operands" "I" ∈ ct_tb := ct_in (i := 524) (by decide +kernel) rfl
theorem kw_525 : Cond.fieldLink R_M 19 "ContractHouseModel" "of" "[I" ∈ ct_tb := ct_in (i := 525) (by decide +kernel) rfl
theorem kw_526 : Cond.fieldLink R_M 67 "ContractHouseModel" "result" "I" ∈ ct_tb := ct_in (i := 526) (by decide +kernel) rfl
theorem kw_527 : Cond.fieldLink R_M 22 "ContractHouseModel" "best" "[I" ∈ ct_tb := ct_in (i := 527) (by decide +kernel) rfl
theorem kw_528 : Cond.fieldLink R_M 25 "ContractHouseModel" "part" "[I" ∈ ct_tb := ct_in (i := 528) (by decide +kernel) rfl
theorem kw_529 : Cond.fieldLink R_M 83 "ContractHouseModel" "steps" "I" ∈ ct_tb := ct_in (i := 529) (by decide +kernel) rfl
theorem kw_530 : Cond.fieldLink R_M 28 "ContractHouseModel" "step" "[I" ∈ ct_tb := ct_in (i := 530) (by decide +kernel) rfl
theorem kw_531 : Cond.fieldLink R_M 31 "ContractHouseModel" "todo" "[I" ∈ ct_tb := ct_in (i := 531) (by decide +kernel) rfl
theorem kw_532 : Cond.fieldLink R_M 34 "ContractHouseModel" "index" "[I" ∈ ct_tb := ct_in (i := 532) (by decide +kernel) rfl
theorem kw_562 : Cond.methodLink R_L 59 y_M_thrown ∈ ct_tb := ct_in (i := 562) (by decide +kernel) rfl
theorem kw_563 : Cond.instanceMethod y_M_thrown ∈ ct_tb := ct_in (i := 563) (by decide +kernel) rfl
theorem kw_564 : Cond.selects R_M y_M_thrown y_M_thrown ∈ ct_tb := ct_in (i := 564) (by decide +kernel) rfl
theorem kw_565 : k_M_thrown ∈ ct_tb := ct_in (i := 565) (by decide +kernel) rfl
theorem kw_566 : Cond.methodLink R_L 58 y_M_size ∈ ct_tb := ct_in (i := 566) (by decide +kernel) rfl
theorem kw_567 : Cond.instanceMethod y_M_size ∈ ct_tb := ct_in (i := 567) (by decide +kernel) rfl
theorem kw_568 : Cond.selects R_M y_M_size y_M_size ∈ ct_tb := ct_in (i := 568) (by decide +kernel) rfl
theorem kw_569 : k_M_size ∈ ct_tb := ct_in (i := 569) (by decide +kernel) rfl
theorem kw_570 : Cond.methodLink R_M 41 y_M_in ∈ ct_tb := ct_in (i := 570) (by decide +kernel) rfl
theorem kw_571 : Cond.static y_M_in ∈ ct_tb := ct_in (i := 571) (by decide +kernel) rfl
theorem kw_572 : k_M_in ∈ ct_tb := ct_in (i := 572) (by decide +kernel) rfl
theorem kw_573 : Cond.methodLink R_M 48 y_M_refuse ∈ ct_tb := ct_in (i := 573) (by decide +kernel) rfl
theorem kw_575 : Cond.instanceMethod y_M_refuse ∈ ct_tb := ct_in (i := 575) (by decide +kernel) rfl
theorem kw_576 : k_M_refuse ∈ ct_tb := ct_in (i := 576) (by decide +kernel) rfl
theorem kw_577 : Cond.methodLink R_L 66 y_M_table ∈ ct_tb := ct_in (i := 577) (by decide +kernel) rfl
theorem kw_578 : Cond.instanceMethod y_M_table ∈ ct_tb := ct_in (i := 578) (by decide +kernel) rfl
theorem kw_579 : Cond.selects R_M y_M_table y_M_table ∈ ct_tb := ct_in (i := 579) (by decide +kernel) rfl
theorem kw_580 : k_M_table ∈ ct_tb := ct_in (i := 580) (by decide +kernel) rfl
theorem kw_581 : Cond.methodLink R_M 52 y_M_bits ∈ ct_tb := ct_in (i := 581) (by decide +kernel) rfl
theorem kw_582 : Cond.static y_M_bits ∈ ct_tb := ct_in (i := 582) (by decide +kernel) rfl
theorem kw_583 : k_M_bits ∈ ct_tb := ct_in (i := 583) (by decide +kernel) rfl
theorem kw_584 : Cond.methodLink R_L 70 y_M_set ∈ ct_tb := ct_in (i := 584) (by decide +kernel) rfl
theorem kw_585 : Cond.instanceMethod y_M_set ∈ ct_tb := ct_in (i := 585) (by decide +kernel) rfl
theorem kw_586 : Cond.selects R_M y_M_set y_M_set ∈ ct_tb := ct_in (i := 586) (by decide +kernel) rfl
theorem kw_587 : k_M_set ∈ ct_tb := ct_in (i := 587) (by decide +kernel) rfl
theorem kw_588 : Cond.methodLink R_M 56 y_M_isTable ∈ ct_tb := ct_in (i := 588) (by decide +kernel) rfl
theorem kw_590 : Cond.instanceMethod y_M_isTable ∈ ct_tb := ct_in (i := 590) (by decide +kernel) rfl
theorem kw_591 : k_M_isTable ∈ ct_tb := ct_in (i := 591) (by decide +kernel) rfl
theorem kw_592 : Cond.methodLink R_M 60 y_M_product ∈ ct_tb := ct_in (i := 592) (by decide +kernel) rfl
theorem kw_594 : Cond.instanceMethod y_M_product ∈ ct_tb := ct_in (i := 594) (by decide +kernel) rfl
theorem kw_595 : k_M_product ∈ ct_tb := ct_in (i := 595) (by decide +kernel) rfl
theorem kw_596 : Cond.methodLink R_L 74 y_M_extent ∈ ct_tb := ct_in (i := 596) (by decide +kernel) rfl
theorem kw_597 : Cond.instanceMethod y_M_extent ∈ ct_tb := ct_in (i := 597) (by decide +kernel) rfl
theorem kw_598 : Cond.selects R_M y_M_extent y_M_extent ∈ ct_tb := ct_in (i := 598) (by decide +kernel) rfl
theorem kw_599 : k_M_extent ∈ ct_tb := ct_in (i := 599) (by decide +kernel) rfl
theorem kw_600 : Cond.methodLink R_L 78 y_M_clear ∈ ct_tb := ct_in (i := 600) (by decide +kernel) rfl
theorem kw_601 : Cond.instanceMethod y_M_clear ∈ ct_tb := ct_in (i := 601) (by decide +kernel) rfl
theorem kw_602 : Cond.selects R_M y_M_clear y_M_clear ∈ ct_tb := ct_in (i := 602) (by decide +kernel) rfl
theorem kw_603 : k_M_clear ∈ ct_tb := ct_in (i := 603) (by decide +kernel) rfl
theorem kw_604 : Cond.methodLink R_L 81 y_M_operand ∈ ct_tb := ct_in (i := 604) (by decide +kernel) rfl
theorem kw_605 : Cond.instanceMethod y_M_operand ∈ ct_tb := ct_in (i := 605) (by decide +kernel) rfl
theorem kw_606 : Cond.selects R_M y_M_operand y_M_operand ∈ ct_tb := ct_in (i := 606) (by decide +kernel) rfl
theorem kw_607 : k_M_operand ∈ ct_tb := ct_in (i := 607) (by decide +kernel) rfl
theorem kw_608 : Cond.methodLink R_L 84 y_M_result ∈ ct_tb := ct_in (i := 608) (by decide +kernel) rfl
theorem kw_609 : Cond.instanceMethod y_M_result ∈ ct_tb := ct_in (i := 609) (by decide +kernel) rfl
theorem kw_610 : Cond.selects R_M y_M_result y_M_result ∈ ct_tb := ct_in (i := 610) (by decide +kernel) rfl
theorem kw_611 : k_M_result ∈ ct_tb := ct_in (i := 611) (by decide +kernel) rfl
theorem kw_612 : Cond.methodLink R_L 88 y_M_cost ∈ ct_tb := ct_in (i := 612) (by decide +kernel) rfl
theorem kw_613 : Cond.instanceMethod y_M_cost ∈ ct_tb := ct_in (i := 613) (by decide +kernel) rfl
theorem kw_614 : Cond.selects R_M y_M_cost y_M_cost ∈ ct_tb := ct_in (i := 614) (by decide +kernel) rfl
theorem kw_615 : k_M_cost ∈ ct_tb := ct_in (i := 615) (by decide +kernel) rfl
theorem kw_616 : Cond.methodLink R_M 80 y_M_plan ∈ ct_tb := ct_in (i := 616) (by decide +kernel) rfl
theorem kw_618 : Cond.instanceMethod y_M_plan ∈ ct_tb := ct_in (i := 618) (by decide +kernel) rfl
theorem kw_619 : k_M_plan ∈ ct_tb := ct_in (i := 619) (by decide +kernel) rfl
theorem kw_620 : Cond.methodLink R_M 76 y_M_joins ∈ ct_tb := ct_in (i := 620) (by decide +kernel) rfl
theorem kw_622 : Cond.instanceMethod y_M_joins ∈ ct_tb := ct_in (i := 622) (by decide +kernel) rfl
theorem kw_623 : k_M_joins ∈ ct_tb := ct_in (i := 623) (by decide +kernel) rfl
theorem kw_624 : Cond.methodLink R_M 73 y_M_leaves ∈ ct_tb := ct_in (i := 624) (by decide +kernel) rfl
theorem kw_626 : Cond.instanceMethod y_M_leaves ∈ ct_tb := ct_in (i := 626) (by decide +kernel) rfl
theorem kw_627 : k_M_leaves ∈ ct_tb := ct_in (i := 627) (by decide +kernel) rfl
theorem kw_628 : Cond.methodLink R_M 70 y_M_has ∈ ct_tb := ct_in (i := 628) (by decide +kernel) rfl
theorem kw_630 : Cond.instanceMethod y_M_has ∈ ct_tb := ct_in (i := 630) (by decide +kernel) rfl
theorem kw_631 : k_M_has ∈ ct_tb := ct_in (i := 631) (by decide +kernel) rfl
theorem kw_632 : Cond.methodLink R_L 92 y_M_step ∈ ct_tb := ct_in (i := 632) (by decide +kernel) rfl
theorem kw_633 : Cond.instanceMethod y_M_step ∈ ct_tb := ct_in (i := 633) (by decide +kernel) rfl
theorem kw_634 : Cond.selects R_M y_M_step y_M_step ∈ ct_tb := ct_in (i := 634) (by decide +kernel) rfl
theorem kw_635 : k_M_step ∈ ct_tb := ct_in (i := 635) (by decide +kernel) rfl
theorem kw_636 : Cond.methodLink R_M 86 y_M_list ∈ ct_tb := ct_in (i := 636) (by decide +kernel) rfl
theorem kw_638 : Cond.instanceMethod y_M_list ∈ ct_tb := ct_in (i := 638) (by decide +kernel) rfl
theorem kw_639 : k_M_list ∈ ct_tb := ct_in (i := 639) (by decide +kernel) rfl
theorem kw_640 : Cond.methodLink R_L 95 y_M_value ∈ ct_tb := ct_in (i := 640) (by decide +kernel) rfl
theorem kw_641 : Cond.instanceMethod y_M_value ∈ ct_tb := ct_in (i := 641) (by decide +kernel) rfl
theorem kw_642 : Cond.selects R_M y_M_value y_M_value ∈ ct_tb := ct_in (i := 642) (by decide +kernel) rfl
theorem kw_643 : k_M_value ∈ ct_tb := ct_in (i := 643) (by decide +kernel) rfl
theorem kw_644 : Cond.methodLink R_M 89 y_M_at ∈ ct_tb := ct_in (i := 644) (by decide +kernel) rfl
theorem kw_646 : Cond.instanceMethod y_M_at ∈ ct_tb := ct_in (i := 646) (by decide +kernel) rfl
theorem kw_647 : k_M_at ∈ ct_tb := ct_in (i := 647) (by decide +kernel) rfl
theorem kw_648 : Cond.methodLink R_M 92 y_M_next ∈ ct_tb := ct_in (i := 648) (by decide +kernel) rfl
theorem kw_650 : Cond.instanceMethod y_M_next ∈ ct_tb := ct_in (i := 650) (by decide +kernel) rfl
theorem kw_651 : k_M_next ∈ ct_tb := ct_in (i := 651) (by decide +kernel) rfl
theorem kw_652 : Cond.methodLink R_L 98 y_M_about ∈ ct_tb := ct_in (i := 652) (by decide +kernel) rfl
theorem kw_653 : Cond.instanceMethod y_M_about ∈ ct_tb := ct_in (i := 653) (by decide +kernel) rfl
theorem kw_654 : Cond.selects R_M y_M_about y_M_about ∈ ct_tb := ct_in (i := 654) (by decide +kernel) rfl
theorem kw_655 : k_M_about ∈ ct_tb := ct_in (i := 655) (by decide +kernel) rfl
theorem kw_656 : Cond.arrayClass .long ∈ ct_tb := ct_in (i := 656) (by decide +kernel) rfl
theorem ki_H : ∀ w ∈ u_ws R_H T_H 12, w ∈ ct_tb := by decide +kernel
theorem ki_S : ∀ w ∈ u_ws R_S T_S 1, w ∈ ct_tb := by decide +kernel
theorem ki_P : ∀ w ∈ u_ws R_P T_P 6, w ∈ ct_tb := by decide +kernel
theorem ki_R : ∀ w ∈ u_ws R_R T_R 7, w ∈ ct_tb := by decide +kernel
theorem ki_M : ∀ w ∈ u_ws R_M T_M 14, w ∈ ct_tb := by decide +kernel
abbrev ct_qi (post : Int32 → Prop) : Array Value → State → Outcome → State → Prop := va_Qi (fun r (_ : Unit) => post r) (fun _ _ => True) (fun _ => False)
