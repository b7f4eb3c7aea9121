theorem a_in_L : Cond.initialized "EndlessRootsLaw" ∈ AW := aw (t1 (List.mem_of_getElem? (i := 0) rfl)) rfl
theorem a_in_X8 : Cond.initialized RX8 ∈ AW := aw (t1 (List.mem_of_getElem? (i := 1) rfl)) rfl
theorem a_in_X6 : Cond.initialized RX6 ∈ AW := aw (t1 (List.mem_of_getElem? (i := 2) rfl)) rfl
theorem a_in_X2 : Cond.initialized RX2 ∈ AW := aw (t1 (List.mem_of_getElem? (i := 3) rfl)) rfl
theorem a_in_X4 : Cond.initialized RX4 ∈ AW := aw (t1 (List.mem_of_getElem? (i := 4) rfl)) rfl
theorem a_in_J9 : Cond.initialized "java/lang/Math" ∈ AW := aw (t1 (List.mem_of_getElem? (i := 5) rfl)) rfl
theorem a_in_X3 : Cond.initialized RX3 ∈ AW := aw (t1 (List.mem_of_getElem? (i := 6) rfl)) rfl
theorem a_in_X0 : Cond.initialized RX0 ∈ AW := aw (t1 (List.mem_of_getElem? (i := 7) rfl)) rfl
theorem a_in_X1 : Cond.initialized RX1 ∈ AW := aw (t1 (List.mem_of_getElem? (i := 8) rfl)) rfl
theorem a_in_X5 : Cond.initialized RX5 ∈ AW := aw (t1 (List.mem_of_getElem? (i := 9) rfl)) rfl
theorem a_in_X7 : Cond.initialized RX7 ∈ AW := aw (t1 (List.mem_of_getElem? (i := 10) rfl)) rfl
theorem a_in_X9 : Cond.initialized RX9 ∈ AW := aw (t1 (List.mem_of_getElem? (i := 11) rfl)) rfl
theorem a_in_J0 : Cond.initialized "java/lang/String" ∈ AW := aw (t1 (List.mem_of_getElem? (i := 12) rfl)) rfl
theorem a_in_J1 : Cond.initialized "java/lang/StringLatin1" ∈ AW := aw (t1 (List.mem_of_getElem? (i := 13) rfl)) rfl
theorem a_in_J3 : Cond.initialized "jdk/internal/util/Preconditions" ∈ AW := aw (t1 (List.mem_of_getElem? (i := 14) rfl)) rfl
theorem a_in_J2 : Cond.initialized "java/lang/StringUTF16" ∈ AW := aw (t1 (List.mem_of_getElem? (i := 15) rfl)) rfl
theorem a_in_J10 : Cond.initialized "java/lang/System" ∈ AW := aw (t1 (List.mem_of_getElem? (i := 16) rfl)) rfl
theorem a_ck_L_7 : Cond.classLink RL 7 RX8 ∈ AW := aw (t1 (List.mem_of_getElem? (i := 17) rfl)) rfl
theorem a_it_X8 : Cond.instantiable RX8 9 ∈ AW := aw (t1 (List.mem_of_getElem? (i := 18) rfl)) rfl
theorem a_ml_L_9 : Cond.methodLink RL 9 yX8_init ∈ AW := aw (t1 (List.mem_of_getElem? (i := 19) rfl)) rfl
theorem a_im_yX8_init : Cond.instanceMethod yX8_init ∈ AW := aw (t1 (List.mem_of_getElem? (i := 20) rfl)) rfl
theorem a_co_yX8_init : Cond.code yX8_init cX8_init 1 none ∈ AW := aw (t1 (List.mem_of_getElem? (i := 21) rfl)) rfl
theorem a_ml_X8_5 : Cond.methodLink RX8 5 objectInit ∈ AW := aw (t1 (List.mem_of_getElem? (i := 22) rfl)) rfl
theorem a_im_objectInit : Cond.instanceMethod objectInit ∈ AW := aw (t1 (List.mem_of_getElem? (i := 23) rfl)) rfl
theorem a_co_objectInit : Cond.code objectInit ⟨#[0xb1]⟩ 1 none ∈ AW := aw (t1 (List.mem_of_getElem? (i := 24) rfl)) rfl
theorem a_ck_X8_11 : Cond.classLink RX8 11 RX6 ∈ AW := aw (t1 (List.mem_of_getElem? (i := 25) rfl)) rfl
theorem a_it_X6 : Cond.instantiable RX6 5 ∈ AW := aw (t1 (List.mem_of_getElem? (i := 26) rfl)) rfl
theorem a_im_yX6_init : Cond.instanceMethod yX6_init ∈ AW := aw (t1 (List.mem_of_getElem? (i := 28) rfl)) rfl
theorem a_co_yX6_init : Cond.code yX6_init cX6_init 1 none ∈ AW := aw (t1 (List.mem_of_getElem? (i := 29) rfl)) rfl
theorem a_ml_X6_1 : Cond.methodLink RX6 1 objectInit ∈ AW := aw (t1 (List.mem_of_getElem? (i := 30) rfl)) rfl
theorem a_ck_X6_7 : Cond.classLink RX6 7 RX2 ∈ AW := aw (t1 (List.mem_of_getElem? (i := 31) rfl)) rfl
theorem a_it_X2 : Cond.instantiable RX2 4 ∈ AW := aw (t1 (List.mem_of_getElem? (i := 32) rfl)) rfl
theorem a_im_yX2_init : Cond.instanceMethod yX2_init ∈ AW := aw (t1 (List.mem_of_getElem? (i := 34) rfl)) rfl
theorem a_co_yX2_init : Cond.code yX2_init cX2_init 1 none ∈ AW := aw (t1 (List.mem_of_getElem? (i := 35) rfl)) rfl
theorem a_ml_X2_1 : Cond.methodLink RX2 1 objectInit ∈ AW := aw (t1 (List.mem_of_getElem? (i := 36) rfl)) rfl
theorem a_fl_X2_7 : Cond.fieldLink RX2 7 "EndlessRoots$Ground" "a" "I" ∈ AW := aw (t1 (List.mem_of_getElem? (i := 37) rfl)) rfl
theorem a_fl_X2_13 : Cond.fieldLink RX2 13 "EndlessRoots$Ground" "b" "I" ∈ AW := aw (t1 (List.mem_of_getElem? (i := 39) rfl)) rfl
theorem a_fl_X2_16 : Cond.fieldLink RX2 16 "EndlessRoots$Ground" "x" "I" ∈ AW := aw (t1 (List.mem_of_getElem? (i := 41) rfl)) rfl
theorem a_fl_X2_19 : Cond.fieldLink RX2 19 "EndlessRoots$Ground" "y" "I" ∈ AW := aw (t1 (List.mem_of_getElem? (i := 43) rfl)) rfl
theorem a_ck_X6_16 : Cond.classLink RX6 16 RX4 ∈ AW := aw (t1 (List.mem_of_getElem? (i := 54) rfl)) rfl
theorem a_it_X4 : Cond.instantiable RX4 3 ∈ AW := aw (t1 (List.mem_of_getElem? (i := 55) rfl)) rfl
theorem a_ml_X6_18 : Cond.methodLink RX6 18 yX4_init ∈ AW := aw (t1 (List.mem_of_getElem? (i := 56) rfl)) rfl
theorem a_im_yX4_init : Cond.instanceMethod yX4_init ∈ AW := aw (t1 (List.mem_of_getElem? (i := 57) rfl)) rfl
theorem a_co_yX4_init : Cond.code yX4_init cX4_init 2 none ∈ AW := aw (t1 (List.mem_of_getElem? (i := 58) rfl)) rfl
theorem a_ml_X4_3 : Cond.methodLink RX4 3 objectInit ∈ AW := aw (t1 (List.mem_of_getElem? (i := 59) rfl)) rfl
theorem a_ml_X4_15 : Cond.methodLink RX4 15 Lib.Math.max.name ∈ AW := aw (t1 (List.mem_of_getElem? (i := 60) rfl)) rfl
theorem a_st_Lib_Math_max_name : Cond.static Lib.Math.max.name ∈ AW := aw (t1 (List.mem_of_getElem? (i := 61) rfl)) rfl
theorem a_co_Lib_Math_max_name : Cond.code Lib.Math.max.name Lib.Math.max.code 2 (some .int) ∈ AW := aw (t1 (List.mem_of_getElem? (i := 62) rfl)) rfl
theorem a_fl_X4_21 : Cond.fieldLink RX4 21 "EndlessRoots$Rows" "limit" "I" ∈ AW := aw (t1 (List.mem_of_getElem? (i := 63) rfl)) rfl
theorem a_fl_X4_24 : Cond.fieldLink RX4 24 "EndlessRoots$Rows" "cells" "[I" ∈ AW := aw (t1 (List.mem_of_getElem? (i := 64) rfl)) rfl
theorem a_fl_X4_9 : Cond.fieldLink RX4 9 "EndlessRoots$Rows" "used" "I" ∈ AW := aw (t1 (List.mem_of_getElem? (i := 65) rfl)) rfl
theorem a_ac_Jvm_ClassFile_FieldType_int : Cond.arrayClass .int ∈ AW := aw (t1 (List.mem_of_getElem? (i := 73) rfl)) rfl
theorem a_fl_X6_10 : Cond.fieldLink RX6 10 "EndlessRoots$Setting" "ground" "LEndlessRoots$Ground;" ∈ AW := aw (t1 (List.mem_of_getElem? (i := 74) rfl)) rfl
theorem a_fl_X6_21 : Cond.fieldLink RX6 21 "EndlessRoots$Setting" "notes" "LEndlessRoots$Rows;" ∈ AW := aw (t1 (List.mem_of_getElem? (i := 76) rfl)) rfl
theorem a_fl_X6_25 : Cond.fieldLink RX6 25 "EndlessRoots$Setting" "seen" "LEndlessRoots$Rows;" ∈ AW := aw (t1 (List.mem_of_getElem? (i := 78) rfl)) rfl
theorem a_fl_X6_28 : Cond.fieldLink RX6 28 "EndlessRoots$Setting" "events" "LEndlessRoots$Rows;" ∈ AW := aw (t1 (List.mem_of_getElem? (i := 80) rfl)) rfl
theorem a_fl_X6_31 : Cond.fieldLink RX6 31 "EndlessRoots$Setting" "book" "LEndlessRoots$Rows;" ∈ AW := aw (t1 (List.mem_of_getElem? (i := 82) rfl)) rfl
theorem a_ck_X8_25 : Cond.classLink RX8 25 RX2 ∈ AW := aw (t1 (List.mem_of_getElem? (i := 95) rfl)) rfl
theorem a_ck_X8_32 : Cond.classLink RX8 32 RX3 ∈ AW := aw (t1 (List.mem_of_getElem? (i := 97) rfl)) rfl
theorem a_it_X3 : Cond.instantiable RX3 4 ∈ AW := aw (t1 (List.mem_of_getElem? (i := 98) rfl)) rfl
theorem a_im_yX3_init : Cond.instanceMethod yX3_init ∈ AW := aw (t1 (List.mem_of_getElem? (i := 100) rfl)) rfl
theorem a_co_yX3_init : Cond.code yX3_init cX3_init 1 none ∈ AW := aw (t1 (List.mem_of_getElem? (i := 101) rfl)) rfl
theorem a_ml_X3_3 : Cond.methodLink RX3 3 objectInit ∈ AW := aw (t1 (List.mem_of_getElem? (i := 102) rfl)) rfl
theorem a_fl_X3_9 : Cond.fieldLink RX3 9 "EndlessRoots$Lowering" "x" "I" ∈ AW := aw (t1 (List.mem_of_getElem? (i := 103) rfl)) rfl
theorem a_fl_X3_15 : Cond.fieldLink RX3 15 "EndlessRoots$Lowering" "y" "I" ∈ AW := aw (t1 (List.mem_of_getElem? (i := 105) rfl)) rfl
theorem a_fl_X3_18 : Cond.fieldLink RX3 18 "EndlessRoots$Lowering" "steps" "I" ∈ AW := aw (t1 (List.mem_of_getElem? (i := 107) rfl)) rfl
theorem a_fl_X3_21 : Cond.fieldLink RX3 21 "EndlessRoots$Lowering" "metLetter" "Z" ∈ AW := aw (t1 (List.mem_of_getElem? (i := 109) rfl)) rfl
theorem a_ck_X8_39 : Cond.classLink RX8 39 RX0 ∈ AW := aw (t1 (List.mem_of_getElem? (i := 119) rfl)) rfl
theorem a_it_X0 : Cond.instantiable RX0 6 ∈ AW := aw (t1 (List.mem_of_getElem? (i := 120) rfl)) rfl
theorem a_ml_X8_41 : Cond.methodLink RX8 41 yX0_init ∈ AW := aw (t1 (List.mem_of_getElem? (i := 121) rfl)) rfl
theorem a_im_yX0_init : Cond.instanceMethod yX0_init ∈ AW := aw (t1 (List.mem_of_getElem? (i := 122) rfl)) rfl
theorem a_co_yX0_init : Cond.code yX0_init cX0_init 2 none ∈ AW := aw (t1 (List.mem_of_getElem? (i := 123) rfl)) rfl
theorem a_ml_X0_3 : Cond.methodLink RX0 3 objectInit ∈ AW := aw (t1 (List.mem_of_getElem? (i := 124) rfl)) rfl
theorem a_fl_X0_29 : Cond.fieldLink RX0 29 "EndlessRoots$Counts" "lowering" "LEndlessRoots$Lowering;" ∈ AW := aw (t1 (List.mem_of_getElem? (i := 125) rfl)) rfl
theorem a_fl_X0_9 : Cond.fieldLink RX0 9 "EndlessRoots$Counts" "sorts" "[I" ∈ AW := aw (t1 (List.mem_of_getElem? (i := 126) rfl)) rfl
theorem a_fl_X0_15 : Cond.fieldLink RX0 15 "EndlessRoots$Counts" "counts" "[I" ∈ AW := aw (t1 (List.mem_of_getElem? (i := 127) rfl)) rfl
theorem a_fl_X0_18 : Cond.fieldLink RX0 18 "EndlessRoots$Counts" "shares" "[J" ∈ AW := aw (t1 (List.mem_of_getElem? (i := 128) rfl)) rfl
theorem a_fl_X0_22 : Cond.fieldLink RX0 22 "EndlessRoots$Counts" "a" "I" ∈ AW := aw (t1 (List.mem_of_getElem? (i := 129) rfl)) rfl
theorem a_fl_X0_26 : Cond.fieldLink RX0 26 "EndlessRoots$Counts" "b" "I" ∈ AW := aw (t1 (List.mem_of_getElem? (i := 131) rfl)) rfl
theorem a_ac_Jvm_ClassFile_FieldType_long : Cond.arrayClass .long ∈ AW := aw (t1 (List.mem_of_getElem? (i := 146) rfl)) rfl
theorem a_ck_X8_48 : Cond.classLink RX8 48 RX1 ∈ AW := aw (t1 (List.mem_of_getElem? (i := 147) rfl)) rfl
theorem a_it_X1 : Cond.instantiable RX1 3 ∈ AW := aw (t1 (List.mem_of_getElem? (i := 148) rfl)) rfl
theorem a_im_yX1_init : Cond.instanceMethod yX1_init ∈ AW := aw (t1 (List.mem_of_getElem? (i := 150) rfl)) rfl
theorem a_co_yX1_init : Cond.code yX1_init cX1_init 1 none ∈ AW := aw (t1 (List.mem_of_getElem? (i := 151) rfl)) rfl
theorem a_ml_X1_3 : Cond.methodLink RX1 3 objectInit ∈ AW := aw (t1 (List.mem_of_getElem? (i := 152) rfl)) rfl
theorem a_fl_X1_9 : Cond.fieldLink RX1 9 "EndlessRoots$Expansion" "coefficients" "[J" ∈ AW := aw (t1 (List.mem_of_getElem? (i := 153) rfl)) rfl
theorem a_fl_X1_15 : Cond.fieldLink RX1 15 "EndlessRoots$Expansion" "a" "I" ∈ AW := aw (t1 (List.mem_of_getElem? (i := 154) rfl)) rfl
theorem a_fl_X1_19 : Cond.fieldLink RX1 19 "EndlessRoots$Expansion" "b" "I" ∈ AW := aw (t1 (List.mem_of_getElem? (i := 155) rfl)) rfl
theorem a_ck_X8_55 : Cond.classLink RX8 55 RX5 ∈ AW := aw (t1 (List.mem_of_getElem? (i := 163) rfl)) rfl
theorem a_it_X5 : Cond.instantiable RX5 8 ∈ AW := aw (t1 (List.mem_of_getElem? (i := 164) rfl)) rfl
theorem a_im_yX5_init : Cond.instanceMethod yX5_init ∈ AW := aw (t1 (List.mem_of_getElem? (i := 166) rfl)) rfl
theorem a_co_yX5_init : Cond.code yX5_init cX5_init 1 none ∈ AW := aw (t1 (List.mem_of_getElem? (i := 167) rfl)) rfl
theorem a_ml_X5_3 : Cond.methodLink RX5 3 objectInit ∈ AW := aw (t1 (List.mem_of_getElem? (i := 168) rfl)) rfl
theorem a_fl_X5_11 : Cond.fieldLink RX5 11 "EndlessRoots$SetUp" "text" "[I" ∈ AW := aw (t1 (List.mem_of_getElem? (i := 169) rfl)) rfl
theorem a_fl_X5_15 : Cond.fieldLink RX5 15 "EndlessRoots$SetUp" "length" "I" ∈ AW := aw (t1 (List.mem_of_getElem? (i := 170) rfl)) rfl
theorem a_fl_X5_19 : Cond.fieldLink RX5 19 "EndlessRoots$SetUp" "kinds" "[I" ∈ AW := aw (t1 (List.mem_of_getElem? (i := 171) rfl)) rfl
theorem a_fl_X5_22 : Cond.fieldLink RX5 22 "EndlessRoots$SetUp" "firsts" "[I" ∈ AW := aw (t1 (List.mem_of_getElem? (i := 172) rfl)) rfl
theorem a_fl_X5_25 : Cond.fieldLink RX5 25 "EndlessRoots$SetUp" "seconds" "[I" ∈ AW := aw (t1 (List.mem_of_getElem? (i := 173) rfl)) rfl
theorem a_fl_X5_28 : Cond.fieldLink RX5 28 "EndlessRoots$SetUp" "clauses" "I" ∈ AW := aw (t1 (List.mem_of_getElem? (i := 174) rfl)) rfl
theorem a_fl_X5_31 : Cond.fieldLink RX5 31 "EndlessRoots$SetUp" "spot" "I" ∈ AW := aw (t1 (List.mem_of_getElem? (i := 175) rfl)) rfl
theorem a_fl_X5_34 : Cond.fieldLink RX5 34 "EndlessRoots$SetUp" "value" "I" ∈ AW := aw (t1 (List.mem_of_getElem? (i := 176) rfl)) rfl
theorem a_ck_X8_62 : Cond.classLink RX8 62 RX7 ∈ AW := aw (t1 (List.mem_of_getElem? (i := 194) rfl)) rfl
theorem a_it_X7 : Cond.instantiable RX7 3 ∈ AW := aw (t1 (List.mem_of_getElem? (i := 195) rfl)) rfl
theorem a_im_yX7_init : Cond.instanceMethod yX7_init ∈ AW := aw (t1 (List.mem_of_getElem? (i := 197) rfl)) rfl
theorem a_co_yX7_init : Cond.code yX7_init cX7_init 1 none ∈ AW := aw (t1 (List.mem_of_getElem? (i := 198) rfl)) rfl
theorem a_ml_X7_3 : Cond.methodLink RX7 3 objectInit ∈ AW := aw (t1 (List.mem_of_getElem? (i := 199) rfl)) rfl
theorem a_fl_X7_11 : Cond.fieldLink RX7 11 "EndlessRoots$Tapes" "sorts" "[I" ∈ AW := aw (t1 (List.mem_of_getElem? (i := 200) rfl)) rfl
theorem a_fl_X7_15 : Cond.fieldLink RX7 15 "EndlessRoots$Tapes" "lengths" "[I" ∈ AW := aw (t1 (List.mem_of_getElem? (i := 201) rfl)) rfl
theorem a_fl_X7_18 : Cond.fieldLink RX7 18 "EndlessRoots$Tapes" "items" "[J" ∈ AW := aw (t1 (List.mem_of_getElem? (i := 202) rfl)) rfl
theorem a_fl_X8_14 : Cond.fieldLink RX8 14 "EndlessRoots" "now" "LEndlessRoots$Setting;" ∈ AW := aw (t1 (List.mem_of_getElem? (i := 210) rfl)) rfl
theorem a_fl_X8_18 : Cond.fieldLink RX8 18 "EndlessRoots" "saved" "LEndlessRoots$Setting;" ∈ AW := aw (t1 (List.mem_of_getElem? (i := 211) rfl)) rfl
theorem a_fl_X8_21 : Cond.fieldLink RX8 21 "EndlessRoots" "imaged" "Z" ∈ AW := aw (t1 (List.mem_of_getElem? (i := 212) rfl)) rfl
theorem a_fl_X8_28 : Cond.fieldLink RX8 28 "EndlessRoots" "trial" "LEndlessRoots$Ground;" ∈ AW := aw (t1 (List.mem_of_getElem? (i := 213) rfl)) rfl
theorem a_fl_X8_35 : Cond.fieldLink RX8 35 "EndlessRoots" "lowering" "LEndlessRoots$Lowering;" ∈ AW := aw (t1 (List.mem_of_getElem? (i := 214) rfl)) rfl
theorem a_fl_X8_44 : Cond.fieldLink RX8 44 "EndlessRoots" "counts" "LEndlessRoots$Counts;" ∈ AW := aw (t1 (List.mem_of_getElem? (i := 215) rfl)) rfl
theorem a_fl_X8_51 : Cond.fieldLink RX8 51 "EndlessRoots" "expansion" "LEndlessRoots$Expansion;" ∈ AW := aw (t1 (List.mem_of_getElem? (i := 216) rfl)) rfl
theorem a_fl_X8_58 : Cond.fieldLink RX8 58 "EndlessRoots" "setUp" "LEndlessRoots$SetUp;" ∈ AW := aw (t1 (List.mem_of_getElem? (i := 217) rfl)) rfl
theorem a_fl_X8_65 : Cond.fieldLink RX8 65 "EndlessRoots" "tapes" "LEndlessRoots$Tapes;" ∈ AW := aw (t1 (List.mem_of_getElem? (i := 218) rfl)) rfl
theorem a_ml_L_13 : Cond.methodLink RL 13 yX8_table ∈ AW := aw (t1 (List.mem_of_getElem? (i := 238) rfl)) rfl
theorem a_im_yX8_table : Cond.instanceMethod yX8_table ∈ AW := aw (t1 (List.mem_of_getElem? (i := 239) rfl)) rfl
theorem a_se_yX8_table : Cond.selects RX8 yX8_table yX8_table ∈ AW := aw (t2 (List.mem_of_getElem? (i := 0) rfl)) rfl
theorem a_co_yX8_table : Cond.code yX8_table cX8_table 4 (some .int) ∈ AW := aw (t2 (List.mem_of_getElem? (i := 1) rfl)) rfl
theorem a_ml_X8_69 : Cond.methodLink RX8 69 yX8_isIn ∈ AW := aw (t2 (List.mem_of_getElem? (i := 2) rfl)) rfl
theorem a_st_yX8_isIn : Cond.static yX8_isIn ∈ AW := aw (t2 (List.mem_of_getElem? (i := 3) rfl)) rfl
theorem a_co_yX8_isIn : Cond.code yX8_isIn cX8_isIn 3 (some .boolean) ∈ AW := aw (t2 (List.mem_of_getElem? (i := 4) rfl)) rfl
theorem a_ml_X8_73 : Cond.methodLink RX8 73 yX8_tableNumber ∈ AW := aw (t2 (List.mem_of_getElem? (i := 5) rfl)) rfl
theorem a_im_yX8_tableNumber : Cond.instanceMethod yX8_tableNumber ∈ AW := aw (t2 (List.mem_of_getElem? (i := 7) rfl)) rfl
theorem a_co_yX8_tableNumber : Cond.code yX8_tableNumber cX8_tableNumber 1 (some .int) ∈ AW := aw (t2 (List.mem_of_getElem? (i := 8) rfl)) rfl
theorem a_ml_L_18 : Cond.methodLink RL 18 yX8_place ∈ AW := aw (t2 (List.mem_of_getElem? (i := 9) rfl)) rfl
theorem a_im_yX8_place : Cond.instanceMethod yX8_place ∈ AW := aw (t2 (List.mem_of_getElem? (i := 10) rfl)) rfl
theorem a_se_yX8_place : Cond.selects RX8 yX8_place yX8_place ∈ AW := aw (t2 (List.mem_of_getElem? (i := 11) rfl)) rfl
theorem a_co_yX8_place : Cond.code yX8_place cX8_place 3 (some .int) ∈ AW := aw (t2 (List.mem_of_getElem? (i := 12) rfl)) rfl
theorem a_ml_X8_87 : Cond.methodLink RX8 87 yX8_isPlace ∈ AW := aw (t2 (List.mem_of_getElem? (i := 13) rfl)) rfl
theorem a_st_yX8_isPlace : Cond.static yX8_isPlace ∈ AW := aw (t2 (List.mem_of_getElem? (i := 14) rfl)) rfl
theorem a_co_yX8_isPlace : Cond.code yX8_isPlace cX8_isPlace 2 (some .boolean) ∈ AW := aw (t2 (List.mem_of_getElem? (i := 15) rfl)) rfl
theorem a_ml_X8_97 : Cond.methodLink RX8 97 yX8_sortNow ∈ AW := aw (t2 (List.mem_of_getElem? (i := 16) rfl)) rfl
theorem a_im_yX8_sortNow : Cond.instanceMethod yX8_sortNow ∈ AW := aw (t2 (List.mem_of_getElem? (i := 18) rfl)) rfl
theorem a_co_yX8_sortNow : Cond.code yX8_sortNow cX8_sortNow 3 (some .int) ∈ AW := aw (t2 (List.mem_of_getElem? (i := 19) rfl)) rfl
theorem a_ml_X8_244 : Cond.methodLink RX8 244 yX3_sortOf ∈ AW := aw (t2 (List.mem_of_getElem? (i := 20) rfl)) rfl
theorem a_im_yX3_sortOf : Cond.instanceMethod yX3_sortOf ∈ AW := aw (t2 (List.mem_of_getElem? (i := 21) rfl)) rfl
theorem a_se_yX3_sortOf : Cond.selects RX3 yX3_sortOf yX3_sortOf ∈ AW := aw (t2 (List.mem_of_getElem? (i := 22) rfl)) rfl
theorem a_co_yX3_sortOf : Cond.code yX3_sortOf cX3_sortOf 5 (some .int) ∈ AW := aw (t2 (List.mem_of_getElem? (i := 23) rfl)) rfl
theorem a_ml_X3_33 : Cond.methodLink RX3 33 Lib.Math.abs.name ∈ AW := aw (t2 (List.mem_of_getElem? (i := 24) rfl)) rfl
theorem a_st_Lib_Math_abs_name : Cond.static Lib.Math.abs.name ∈ AW := aw (t2 (List.mem_of_getElem? (i := 25) rfl)) rfl
theorem a_co_Lib_Math_abs_name : Cond.code Lib.Math.abs.name Lib.Math.abs.code 1 (some .int) ∈ AW := aw (t2 (List.mem_of_getElem? (i := 26) rfl)) rfl
theorem a_ml_X3_39 : Cond.methodLink RX3 39 yX3_lower ∈ AW := aw (t2 (List.mem_of_getElem? (i := 27) rfl)) rfl
theorem a_im_yX3_lower : Cond.instanceMethod yX3_lower ∈ AW := aw (t2 (List.mem_of_getElem? (i := 28) rfl)) rfl
theorem a_se_yX3_lower : Cond.selects RX3 yX3_lower yX3_lower ∈ AW := aw (t2 (List.mem_of_getElem? (i := 29) rfl)) rfl
theorem a_co_yX3_lower : Cond.code yX3_lower cX3_lower 5 none ∈ AW := aw (t2 (List.mem_of_getElem? (i := 30) rfl)) rfl
theorem a_ml_X3_25 : Cond.methodLink RX3 25 yX3_isLetter ∈ AW := aw (t2 (List.mem_of_getElem? (i := 31) rfl)) rfl
theorem a_im_yX3_isLetter : Cond.instanceMethod yX3_isLetter ∈ AW := aw (t2 (List.mem_of_getElem? (i := 33) rfl)) rfl
theorem a_co_yX3_isLetter : Cond.code yX3_isLetter cX3_isLetter 1 (some .boolean) ∈ AW := aw (t2 (List.mem_of_getElem? (i := 34) rfl)) rfl
theorem a_st_yX8_coatOf : Cond.static yX8_coatOf ∈ AW := aw (t2 (List.mem_of_getElem? (i := 36) rfl)) rfl
theorem a_co_yX8_coatOf : Cond.code yX8_coatOf cX8_coatOf 3 (some .int) ∈ AW := aw (t2 (List.mem_of_getElem? (i := 37) rfl)) rfl
theorem a_ml_L_22 : Cond.methodLink RL 22 yX8_carry ∈ AW := aw (t2 (List.mem_of_getElem? (i := 38) rfl)) rfl
theorem a_im_yX8_carry : Cond.instanceMethod yX8_carry ∈ AW := aw (t2 (List.mem_of_getElem? (i := 39) rfl)) rfl
theorem a_se_yX8_carry : Cond.selects RX8 yX8_carry yX8_carry ∈ AW := aw (t2 (List.mem_of_getElem? (i := 40) rfl)) rfl
theorem a_co_yX8_carry : Cond.code yX8_carry cX8_carry 2 (some .int) ∈ AW := aw (t2 (List.mem_of_getElem? (i := 41) rfl)) rfl
theorem a_ml_X8_101 : Cond.methodLink RX8 101 yX2_carryBy ∈ AW := aw (t2 (List.mem_of_getElem? (i := 42) rfl)) rfl
theorem a_im_yX2_carryBy : Cond.instanceMethod yX2_carryBy ∈ AW := aw (t2 (List.mem_of_getElem? (i := 43) rfl)) rfl
theorem a_se_yX2_carryBy : Cond.selects RX2 yX2_carryBy yX2_carryBy ∈ AW := aw (t2 (List.mem_of_getElem? (i := 44) rfl)) rfl
theorem a_co_yX2_carryBy : Cond.code yX2_carryBy cX2_carryBy 4 (some .boolean) ∈ AW := aw (t2 (List.mem_of_getElem? (i := 45) rfl)) rfl
theorem a_ml_L_27 : Cond.methodLink RL 27 yX8_note ∈ AW := aw (t2 (List.mem_of_getElem? (i := 47) rfl)) rfl
theorem a_im_yX8_note : Cond.instanceMethod yX8_note ∈ AW := aw (t2 (List.mem_of_getElem? (i := 48) rfl)) rfl
theorem a_se_yX8_note : Cond.selects RX8 yX8_note yX8_note ∈ AW := aw (t2 (List.mem_of_getElem? (i := 49) rfl)) rfl
theorem a_co_yX8_note : Cond.code yX8_note cX8_note 2 (some .int) ∈ AW := aw (t2 (List.mem_of_getElem? (i := 50) rfl)) rfl
theorem a_ml_X8_109 : Cond.methodLink RX8 109 yX4_size ∈ AW := aw (t2 (List.mem_of_getElem? (i := 51) rfl)) rfl
theorem a_im_yX4_size : Cond.instanceMethod yX4_size ∈ AW := aw (t2 (List.mem_of_getElem? (i := 52) rfl)) rfl
theorem a_se_yX4_size : Cond.selects RX4 yX4_size yX4_size ∈ AW := aw (t2 (List.mem_of_getElem? (i := 53) rfl)) rfl
theorem a_co_yX4_size : Cond.code yX4_size cX4_size 1 (some .int) ∈ AW := aw (t2 (List.mem_of_getElem? (i := 54) rfl)) rfl
theorem a_ml_X8_114 : Cond.methodLink RX8 114 yX4_cell ∈ AW := aw (t2 (List.mem_of_getElem? (i := 55) rfl)) rfl
theorem a_im_yX4_cell : Cond.instanceMethod yX4_cell ∈ AW := aw (t2 (List.mem_of_getElem? (i := 56) rfl)) rfl
theorem a_se_yX4_cell : Cond.selects RX4 yX4_cell yX4_cell ∈ AW := aw (t2 (List.mem_of_getElem? (i := 57) rfl)) rfl
theorem a_co_yX4_cell : Cond.code yX4_cell cX4_cell 3 (some .int) ∈ AW := aw (t2 (List.mem_of_getElem? (i := 58) rfl)) rfl
theorem a_ml_X8_117 : Cond.methodLink RX8 117 yX4_put ∈ AW := aw (t2 (List.mem_of_getElem? (i := 60) rfl)) rfl
theorem a_im_yX4_put : Cond.instanceMethod yX4_put ∈ AW := aw (t2 (List.mem_of_getElem? (i := 61) rfl)) rfl
theorem a_se_yX4_put : Cond.selects RX4 yX4_put yX4_put ∈ AW := aw (t2 (List.mem_of_getElem? (i := 62) rfl)) rfl
theorem a_co_yX4_put : Cond.code yX4_put cX4_put 4 (some .int) ∈ AW := aw (t2 (List.mem_of_getElem? (i := 63) rfl)) rfl
theorem a_ml_L_32 : Cond.methodLink RL 32 yX8_wipe ∈ AW := aw (t2 (List.mem_of_getElem? (i := 64) rfl)) rfl
theorem a_im_yX8_wipe : Cond.instanceMethod yX8_wipe ∈ AW := aw (t2 (List.mem_of_getElem? (i := 65) rfl)) rfl
theorem a_se_yX8_wipe : Cond.selects RX8 yX8_wipe yX8_wipe ∈ AW := aw (t2 (List.mem_of_getElem? (i := 66) rfl)) rfl
theorem a_co_yX8_wipe : Cond.code yX8_wipe cX8_wipe 2 (some .int) ∈ AW := aw (t2 (List.mem_of_getElem? (i := 67) rfl)) rfl
theorem a_ml_X8_121 : Cond.methodLink RX8 121 yX4_clear ∈ AW := aw (t2 (List.mem_of_getElem? (i := 68) rfl)) rfl
theorem a_im_yX4_clear : Cond.instanceMethod yX4_clear ∈ AW := aw (t2 (List.mem_of_getElem? (i := 69) rfl)) rfl
theorem a_se_yX4_clear : Cond.selects RX4 yX4_clear yX4_clear ∈ AW := aw (t2 (List.mem_of_getElem? (i := 70) rfl)) rfl
theorem a_co_yX4_clear : Cond.code yX4_clear cX4_clear 1 none ∈ AW := aw (t2 (List.mem_of_getElem? (i := 71) rfl)) rfl
theorem a_ml_L_36 : Cond.methodLink RL 36 yX8_feed ∈ AW := aw (t2 (List.mem_of_getElem? (i := 72) rfl)) rfl
theorem a_im_yX8_feed : Cond.instanceMethod yX8_feed ∈ AW := aw (t2 (List.mem_of_getElem? (i := 73) rfl)) rfl
theorem a_se_yX8_feed : Cond.selects RX8 yX8_feed yX8_feed ∈ AW := aw (t2 (List.mem_of_getElem? (i := 74) rfl)) rfl
theorem a_co_yX8_feed : Cond.code yX8_feed cX8_feed 2 (some .int) ∈ AW := aw (t2 (List.mem_of_getElem? (i := 75) rfl)) rfl
theorem a_ml_X8_124 : Cond.methodLink RX8 124 yX5_append ∈ AW := aw (t2 (List.mem_of_getElem? (i := 76) rfl)) rfl
theorem a_im_yX5_append : Cond.instanceMethod yX5_append ∈ AW := aw (t2 (List.mem_of_getElem? (i := 77) rfl)) rfl
theorem a_se_yX5_append : Cond.selects RX5 yX5_append yX5_append ∈ AW := aw (t2 (List.mem_of_getElem? (i := 78) rfl)) rfl
theorem a_co_yX5_append : Cond.code yX5_append cX5_append 2 (some .int) ∈ AW := aw (t2 (List.mem_of_getElem? (i := 79) rfl)) rfl
theorem a_ml_L_40 : Cond.methodLink RL 40 yX8_read ∈ AW := aw (t2 (List.mem_of_getElem? (i := 80) rfl)) rfl
theorem a_im_yX8_read : Cond.instanceMethod yX8_read ∈ AW := aw (t2 (List.mem_of_getElem? (i := 81) rfl)) rfl
theorem a_se_yX8_read : Cond.selects RX8 yX8_read yX8_read ∈ AW := aw (t2 (List.mem_of_getElem? (i := 82) rfl)) rfl
theorem a_co_yX8_read : Cond.code yX8_read cX8_read 4 (some .int) ∈ AW := aw (t2 (List.mem_of_getElem? (i := 83) rfl)) rfl
theorem a_ml_X8_128 : Cond.methodLink RX8 128 yX5_findFault ∈ AW := aw (t2 (List.mem_of_getElem? (i := 84) rfl)) rfl
theorem a_im_yX5_findFault : Cond.instanceMethod yX5_findFault ∈ AW := aw (t2 (List.mem_of_getElem? (i := 85) rfl)) rfl
theorem a_se_yX5_findFault : Cond.selects RX5 yX5_findFault yX5_findFault ∈ AW := aw (t2 (List.mem_of_getElem? (i := 86) rfl)) rfl
theorem a_co_yX5_findFault : Cond.code yX5_findFault cX5_findFault 2 (some .int) ∈ AW := aw (t2 (List.mem_of_getElem? (i := 87) rfl)) rfl
theorem a_ml_X5_41 : Cond.methodLink RX5 41 yX5_takeClause ∈ AW := aw (t2 (List.mem_of_getElem? (i := 88) rfl)) rfl
theorem a_im_yX5_takeClause : Cond.instanceMethod yX5_takeClause ∈ AW := aw (t2 (List.mem_of_getElem? (i := 90) rfl)) rfl
theorem a_co_yX5_takeClause : Cond.code yX5_takeClause cX5_takeClause 3 (some .boolean) ∈ AW := aw (t2 (List.mem_of_getElem? (i := 91) rfl)) rfl
theorem a_ml_X5_48 : Cond.methodLink RX5 48 yX5_takeKind ∈ AW := aw (t2 (List.mem_of_getElem? (i := 92) rfl)) rfl
theorem a_im_yX5_takeKind : Cond.instanceMethod yX5_takeKind ∈ AW := aw (t2 (List.mem_of_getElem? (i := 94) rfl)) rfl
theorem a_co_yX5_takeKind : Cond.code yX5_takeKind cX5_takeKind 5 (some .int) ∈ AW := aw (t2 (List.mem_of_getElem? (i := 95) rfl)) rfl
theorem a_ml_X5_59 : Cond.methodLink RX5 59 yX5_wordOf ∈ AW := aw (t2 (List.mem_of_getElem? (i := 96) rfl)) rfl
theorem a_st_yX5_wordOf : Cond.static yX5_wordOf ∈ AW := aw (t2 (List.mem_of_getElem? (i := 97) rfl)) rfl
theorem a_co_yX5_wordOf : Cond.code yX5_wordOf cX5_wordOf 1 (some (.object "java/lang/String")) ∈ AW := aw (t2 (List.mem_of_getElem? (i := 98) rfl)) rfl
theorem a_fl_J0_38 : Cond.fieldLink RJ0 38 "java/lang/String" "COMPACT_STRINGS" "Z" ∈ AW := aw (t2 (List.mem_of_getElem? (i := 112) rfl)) rfl
theorem a_ml_X5_67 : Cond.methodLink RX5 67 yX5_byteAt ∈ AW := aw (t2 (List.mem_of_getElem? (i := 114) rfl)) rfl
theorem a_im_yX5_byteAt : Cond.instanceMethod yX5_byteAt ∈ AW := aw (t2 (List.mem_of_getElem? (i := 115) rfl)) rfl
theorem a_se_yX5_byteAt : Cond.selects RX5 yX5_byteAt yX5_byteAt ∈ AW := aw (t2 (List.mem_of_getElem? (i := 116) rfl)) rfl
theorem a_co_yX5_byteAt : Cond.code yX5_byteAt cX5_byteAt 2 (some .int) ∈ AW := aw (t2 (List.mem_of_getElem? (i := 117) rfl)) rfl
theorem a_fl_J0_1053 : Cond.fieldLink RJ0 1053 "jdk/internal/util/Preconditions" "SIOOBE_FORMATTER" "Ljava/util/function/BiFunction;" ∈ AW := aw (t2 (List.mem_of_getElem? (i := 132) rfl)) rfl
theorem a_fl_J2_44 : Cond.fieldLink RJ2 44 "java/lang/StringUTF16" "$assertionsDisabled" "Z" ∈ AW := aw (t2 (List.mem_of_getElem? (i := 150) rfl)) rfl
theorem a_fl_J2_59 : Cond.fieldLink RJ2 59 "java/lang/StringUTF16" "HI_BYTE_SHIFT" "I" ∈ AW := aw (t2 (List.mem_of_getElem? (i := 152) rfl)) rfl
theorem a_fl_J2_63 : Cond.fieldLink RJ2 63 "java/lang/StringUTF16" "LO_BYTE_SHIFT" "I" ∈ AW := aw (t2 (List.mem_of_getElem? (i := 154) rfl)) rfl
theorem a_ml_X5_75 : Cond.methodLink RX5 75 Lib.Math.max.name ∈ AW := aw (t2 (List.mem_of_getElem? (i := 156) rfl)) rfl
theorem a_ml_X5_52 : Cond.methodLink RX5 52 yX5_takeTwo ∈ AW := aw (t2 (List.mem_of_getElem? (i := 157) rfl)) rfl
theorem a_im_yX5_takeTwo : Cond.instanceMethod yX5_takeTwo ∈ AW := aw (t2 (List.mem_of_getElem? (i := 159) rfl)) rfl
theorem a_co_yX5_takeTwo : Cond.code yX5_takeTwo cX5_takeTwo 4 (some .boolean) ∈ AW := aw (t2 (List.mem_of_getElem? (i := 160) rfl)) rfl
theorem a_ml_X5_45 : Cond.methodLink RX5 45 yX5_takeByte ∈ AW := aw (t2 (List.mem_of_getElem? (i := 161) rfl)) rfl
theorem a_im_yX5_takeByte : Cond.instanceMethod yX5_takeByte ∈ AW := aw (t2 (List.mem_of_getElem? (i := 163) rfl)) rfl
theorem a_co_yX5_takeByte : Cond.code yX5_takeByte cX5_takeByte 2 (some .boolean) ∈ AW := aw (t2 (List.mem_of_getElem? (i := 164) rfl)) rfl
theorem a_ml_X5_91 : Cond.methodLink RX5 91 yX5_takeNumber ∈ AW := aw (t2 (List.mem_of_getElem? (i := 165) rfl)) rfl
theorem a_im_yX5_takeNumber : Cond.instanceMethod yX5_takeNumber ∈ AW := aw (t2 (List.mem_of_getElem? (i := 167) rfl)) rfl
theorem a_co_yX5_takeNumber : Cond.code yX5_takeNumber cX5_takeNumber 6 (some .boolean) ∈ AW := aw (t2 (List.mem_of_getElem? (i := 168) rfl)) rfl
theorem a_ml_X5_56 : Cond.methodLink RX5 56 yX5_takeSigns ∈ AW := aw (t2 (List.mem_of_getElem? (i := 169) rfl)) rfl
theorem a_im_yX5_takeSigns : Cond.instanceMethod yX5_takeSigns ∈ AW := aw (t2 (List.mem_of_getElem? (i := 171) rfl)) rfl
theorem a_co_yX5_takeSigns : Cond.code yX5_takeSigns cX5_takeSigns 3 (some .boolean) ∈ AW := aw (t2 (List.mem_of_getElem? (i := 172) rfl)) rfl
theorem a_ml_X8_131 : Cond.methodLink RX8 131 yX5_size ∈ AW := aw (t2 (List.mem_of_getElem? (i := 173) rfl)) rfl
theorem a_im_yX5_size : Cond.instanceMethod yX5_size ∈ AW := aw (t2 (List.mem_of_getElem? (i := 174) rfl)) rfl
theorem a_se_yX5_size : Cond.selects RX5 yX5_size yX5_size ∈ AW := aw (t2 (List.mem_of_getElem? (i := 175) rfl)) rfl
theorem a_co_yX5_size : Cond.code yX5_size cX5_size 1 (some .int) ∈ AW := aw (t2 (List.mem_of_getElem? (i := 176) rfl)) rfl
theorem a_ml_X8_132 : Cond.methodLink RX8 132 yX5_kind ∈ AW := aw (t2 (List.mem_of_getElem? (i := 177) rfl)) rfl
theorem a_im_yX5_kind : Cond.instanceMethod yX5_kind ∈ AW := aw (t2 (List.mem_of_getElem? (i := 178) rfl)) rfl
theorem a_se_yX5_kind : Cond.selects RX5 yX5_kind yX5_kind ∈ AW := aw (t2 (List.mem_of_getElem? (i := 179) rfl)) rfl
theorem a_co_yX5_kind : Cond.code yX5_kind cX5_kind 2 (some .int) ∈ AW := aw (t2 (List.mem_of_getElem? (i := 180) rfl)) rfl
theorem a_ml_X8_135 : Cond.methodLink RX8 135 yX5_first ∈ AW := aw (t2 (List.mem_of_getElem? (i := 182) rfl)) rfl
theorem a_im_yX5_first : Cond.instanceMethod yX5_first ∈ AW := aw (t2 (List.mem_of_getElem? (i := 183) rfl)) rfl
theorem a_se_yX5_first : Cond.selects RX5 yX5_first yX5_first ∈ AW := aw (t2 (List.mem_of_getElem? (i := 184) rfl)) rfl
theorem a_co_yX5_first : Cond.code yX5_first cX5_first 2 (some .int) ∈ AW := aw (t2 (List.mem_of_getElem? (i := 185) rfl)) rfl
theorem a_ml_X8_138 : Cond.methodLink RX8 138 yX5_second ∈ AW := aw (t2 (List.mem_of_getElem? (i := 186) rfl)) rfl
theorem a_im_yX5_second : Cond.instanceMethod yX5_second ∈ AW := aw (t2 (List.mem_of_getElem? (i := 187) rfl)) rfl
theorem a_se_yX5_second : Cond.selects RX5 yX5_second yX5_second ∈ AW := aw (t2 (List.mem_of_getElem? (i := 188) rfl)) rfl
theorem a_co_yX5_second : Cond.code yX5_second cX5_second 2 (some .int) ∈ AW := aw (t2 (List.mem_of_getElem? (i := 189) rfl)) rfl
theorem a_ml_X8_141 : Cond.methodLink RX8 141 yX8_doClause ∈ AW := aw (t2 (List.mem_of_getElem? (i := 190) rfl)) rfl
theorem a_im_yX8_doClause : Cond.instanceMethod yX8_doClause ∈ AW := aw (t2 (List.mem_of_getElem? (i := 192) rfl)) rfl
theorem a_co_yX8_doClause : Cond.code yX8_doClause cX8_doClause 4 (some .boolean) ∈ AW := aw (t2 (List.mem_of_getElem? (i := 193) rfl)) rfl
theorem a_ml_X8_145 : Cond.methodLink RX8 145 yX8_table ∈ AW := aw (t2 (List.mem_of_getElem? (i := 194) rfl)) rfl
theorem a_ml_X8_148 : Cond.methodLink RX8 148 yX8_place ∈ AW := aw (t2 (List.mem_of_getElem? (i := 195) rfl)) rfl
theorem a_ml_X8_151 : Cond.methodLink RX8 151 yX8_carryByWord ∈ AW := aw (t2 (List.mem_of_getElem? (i := 196) rfl)) rfl
theorem a_im_yX8_carryByWord : Cond.instanceMethod yX8_carryByWord ∈ AW := aw (t2 (List.mem_of_getElem? (i := 198) rfl)) rfl
theorem a_co_yX8_carryByWord : Cond.code yX8_carryByWord cX8_carryByWord 4 (some .boolean) ∈ AW := aw (t2 (List.mem_of_getElem? (i := 199) rfl)) rfl
theorem a_ml_X8_160 : Cond.methodLink RX8 160 yX2_copyFrom ∈ AW := aw (t2 (List.mem_of_getElem? (i := 200) rfl)) rfl
theorem a_im_yX2_copyFrom : Cond.instanceMethod yX2_copyFrom ∈ AW := aw (t2 (List.mem_of_getElem? (i := 201) rfl)) rfl
theorem a_se_yX2_copyFrom : Cond.selects RX2 yX2_copyFrom yX2_copyFrom ∈ AW := aw (t2 (List.mem_of_getElem? (i := 202) rfl)) rfl
theorem a_co_yX2_copyFrom : Cond.code yX2_copyFrom cX2_copyFrom 2 none ∈ AW := aw (t2 (List.mem_of_getElem? (i := 203) rfl)) rfl
theorem a_ml_X8_164 : Cond.methodLink RX8 164 yX5_byteAt ∈ AW := aw (t2 (List.mem_of_getElem? (i := 204) rfl)) rfl
theorem a_ml_X8_154 : Cond.methodLink RX8 154 yX8_note ∈ AW := aw (t2 (List.mem_of_getElem? (i := 205) rfl)) rfl
theorem a_ml_X8_157 : Cond.methodLink RX8 157 yX8_wipe ∈ AW := aw (t2 (List.mem_of_getElem? (i := 206) rfl)) rfl
theorem a_ml_X8_144 : Cond.methodLink RX8 144 yX5_clear ∈ AW := aw (t2 (List.mem_of_getElem? (i := 207) rfl)) rfl
theorem a_im_yX5_clear : Cond.instanceMethod yX5_clear ∈ AW := aw (t2 (List.mem_of_getElem? (i := 208) rfl)) rfl
theorem a_se_yX5_clear : Cond.selects RX5 yX5_clear yX5_clear ∈ AW := aw (t2 (List.mem_of_getElem? (i := 209) rfl)) rfl
theorem a_co_yX5_clear : Cond.code yX5_clear cX5_clear 1 none ∈ AW := aw (t2 (List.mem_of_getElem? (i := 210) rfl)) rfl
theorem a_ac_Jvm_ClassFile_FieldType_byte : Cond.arrayClass .byte ∈ AW := aw (t2 (List.mem_of_getElem? (i := 211) rfl)) rfl
theorem a_ml_L_44 : Cond.methodLink RL 44 yX8_told ∈ AW := aw (t2 (List.mem_of_getElem? (i := 212) rfl)) rfl
theorem a_im_yX8_told : Cond.instanceMethod yX8_told ∈ AW := aw (t2 (List.mem_of_getElem? (i := 213) rfl)) rfl
theorem a_se_yX8_told : Cond.selects RX8 yX8_told yX8_told ∈ AW := aw (t2 (List.mem_of_getElem? (i := 214) rfl)) rfl
theorem a_co_yX8_told : Cond.code yX8_told cX8_told 2 (some .int) ∈ AW := aw (t2 (List.mem_of_getElem? (i := 215) rfl)) rfl
theorem a_ml_X8_167 : Cond.methodLink RX8 167 yX8_kindOf ∈ AW := aw (t2 (List.mem_of_getElem? (i := 216) rfl)) rfl
theorem a_st_yX8_kindOf : Cond.static yX8_kindOf ∈ AW := aw (t2 (List.mem_of_getElem? (i := 217) rfl)) rfl
theorem a_co_yX8_kindOf : Cond.code yX8_kindOf cX8_kindOf 2 (some .int) ∈ AW := aw (t2 (List.mem_of_getElem? (i := 218) rfl)) rfl
theorem a_ml_L_48 : Cond.methodLink RL 48 yX8_noted ∈ AW := aw (t2 (List.mem_of_getElem? (i := 219) rfl)) rfl
theorem a_im_yX8_noted : Cond.instanceMethod yX8_noted ∈ AW := aw (t2 (List.mem_of_getElem? (i := 220) rfl)) rfl
theorem a_se_yX8_noted : Cond.selects RX8 yX8_noted yX8_noted ∈ AW := aw (t2 (List.mem_of_getElem? (i := 221) rfl)) rfl
theorem a_co_yX8_noted : Cond.code yX8_noted cX8_noted 5 (some .int) ∈ AW := aw (t2 (List.mem_of_getElem? (i := 222) rfl)) rfl
theorem a_ml_L_52 : Cond.methodLink RL 52 yX8_norm ∈ AW := aw (t2 (List.mem_of_getElem? (i := 223) rfl)) rfl
theorem a_im_yX8_norm : Cond.instanceMethod yX8_norm ∈ AW := aw (t2 (List.mem_of_getElem? (i := 224) rfl)) rfl
theorem a_se_yX8_norm : Cond.selects RX8 yX8_norm yX8_norm ∈ AW := aw (t2 (List.mem_of_getElem? (i := 225) rfl)) rfl
theorem a_co_yX8_norm : Cond.code yX8_norm cX8_norm 3 (some .long) ∈ AW := aw (t2 (List.mem_of_getElem? (i := 226) rfl)) rfl
theorem a_cl_X8_170 : Cond.constantLong RX8 170 (-9223372036854775808) ∈ AW := aw (t2 (List.mem_of_getElem? (i := 227) rfl)) rfl
theorem a_ml_X8_172 : Cond.methodLink RX8 172 yX8_normOf ∈ AW := aw (t2 (List.mem_of_getElem? (i := 228) rfl)) rfl
theorem a_st_yX8_normOf : Cond.static yX8_normOf ∈ AW := aw (t2 (List.mem_of_getElem? (i := 229) rfl)) rfl
theorem a_co_yX8_normOf : Cond.code yX8_normOf cX8_normOf 4 (some .long) ∈ AW := aw (t2 (List.mem_of_getElem? (i := 230) rfl)) rfl
theorem a_ml_X8_176 : Cond.methodLink RX8 176 yX8_productOf ∈ AW := aw (t2 (List.mem_of_getElem? (i := 231) rfl)) rfl
theorem a_st_yX8_productOf : Cond.static yX8_productOf ∈ AW := aw (t2 (List.mem_of_getElem? (i := 232) rfl)) rfl
theorem a_co_yX8_productOf : Cond.code yX8_productOf cX8_productOf 10 (some .long) ∈ AW := aw (t2 (List.mem_of_getElem? (i := 233) rfl)) rfl
theorem a_cl_X8_296 : Cond.constantLong RX8 296 (2) ∈ AW := aw (t2 (List.mem_of_getElem? (i := 234) rfl)) rfl
theorem a_ml_L_57 : Cond.methodLink RL 57 yX8_product ∈ AW := aw (t2 (List.mem_of_getElem? (i := 235) rfl)) rfl
theorem a_im_yX8_product : Cond.instanceMethod yX8_product ∈ AW := aw (t2 (List.mem_of_getElem? (i := 236) rfl)) rfl
theorem a_se_yX8_product : Cond.selects RX8 yX8_product yX8_product ∈ AW := aw (t2 (List.mem_of_getElem? (i := 237) rfl)) rfl
theorem a_co_yX8_product : Cond.code yX8_product cX8_product 5 (some .long) ∈ AW := aw (t2 (List.mem_of_getElem? (i := 238) rfl)) rfl
theorem a_ml_L_62 : Cond.methodLink RL 62 yX8_coat ∈ AW := aw (t2 (List.mem_of_getElem? (i := 239) rfl)) rfl
theorem a_im_yX8_coat : Cond.instanceMethod yX8_coat ∈ AW := aw (t3 (List.mem_of_getElem? (i := 0) rfl)) rfl
theorem a_se_yX8_coat : Cond.selects RX8 yX8_coat yX8_coat ∈ AW := aw (t3 (List.mem_of_getElem? (i := 1) rfl)) rfl
theorem a_co_yX8_coat : Cond.code yX8_coat cX8_coat 4 (some .int) ∈ AW := aw (t3 (List.mem_of_getElem? (i := 2) rfl)) rfl
theorem a_ml_X8_180 : Cond.methodLink RX8 180 yX8_coatOf ∈ AW := aw (t3 (List.mem_of_getElem? (i := 3) rfl)) rfl
theorem a_ml_L_67 : Cond.methodLink RL 67 yX8_sort ∈ AW := aw (t3 (List.mem_of_getElem? (i := 4) rfl)) rfl
theorem a_im_yX8_sort : Cond.instanceMethod yX8_sort ∈ AW := aw (t3 (List.mem_of_getElem? (i := 5) rfl)) rfl
theorem a_se_yX8_sort : Cond.selects RX8 yX8_sort yX8_sort ∈ AW := aw (t3 (List.mem_of_getElem? (i := 6) rfl)) rfl
theorem a_co_yX8_sort : Cond.code yX8_sort cX8_sort 3 (some .int) ∈ AW := aw (t3 (List.mem_of_getElem? (i := 7) rfl)) rfl
theorem a_ml_L_71 : Cond.methodLink RL 71 yX8_lowered ∈ AW := aw (t3 (List.mem_of_getElem? (i := 8) rfl)) rfl
theorem a_im_yX8_lowered : Cond.instanceMethod yX8_lowered ∈ AW := aw (t3 (List.mem_of_getElem? (i := 9) rfl)) rfl
theorem a_se_yX8_lowered : Cond.selects RX8 yX8_lowered yX8_lowered ∈ AW := aw (t3 (List.mem_of_getElem? (i := 10) rfl)) rfl
theorem a_co_yX8_lowered : Cond.code yX8_lowered cX8_lowered 4 (some .int) ∈ AW := aw (t3 (List.mem_of_getElem? (i := 11) rfl)) rfl
theorem a_ml_X8_183 : Cond.methodLink RX8 183 yX3_lower ∈ AW := aw (t3 (List.mem_of_getElem? (i := 12) rfl)) rfl
theorem a_ml_L_75 : Cond.methodLink RL 75 yX8_string ∈ AW := aw (t3 (List.mem_of_getElem? (i := 13) rfl)) rfl
theorem a_im_yX8_string : Cond.instanceMethod yX8_string ∈ AW := aw (t3 (List.mem_of_getElem? (i := 14) rfl)) rfl
theorem a_se_yX8_string : Cond.selects RX8 yX8_string yX8_string ∈ AW := aw (t3 (List.mem_of_getElem? (i := 15) rfl)) rfl
theorem a_co_yX8_string : Cond.code yX8_string cX8_string 6 (some .int) ∈ AW := aw (t3 (List.mem_of_getElem? (i := 16) rfl)) rfl
theorem a_ml_X8_192 : Cond.methodLink RX8 192 yX8_isOnOwnLine ∈ AW := aw (t3 (List.mem_of_getElem? (i := 17) rfl)) rfl
theorem a_st_yX8_isOnOwnLine : Cond.static yX8_isOnOwnLine ∈ AW := aw (t3 (List.mem_of_getElem? (i := 18) rfl)) rfl
theorem a_co_yX8_isOnOwnLine : Cond.code yX8_isOnOwnLine cX8_isOnOwnLine 3 (some .boolean) ∈ AW := aw (t3 (List.mem_of_getElem? (i := 19) rfl)) rfl
theorem a_ml_X8_195 : Cond.methodLink RX8 195 yX8_rootsAhead ∈ AW := aw (t3 (List.mem_of_getElem? (i := 20) rfl)) rfl
theorem a_im_yX8_rootsAhead : Cond.instanceMethod yX8_rootsAhead ∈ AW := aw (t3 (List.mem_of_getElem? (i := 22) rfl)) rfl
theorem a_co_yX8_rootsAhead : Cond.code yX8_rootsAhead cX8_rootsAhead 9 (some .int) ∈ AW := aw (t3 (List.mem_of_getElem? (i := 23) rfl)) rfl
theorem a_ml_L_80 : Cond.methodLink RL 80 yX8_counted ∈ AW := aw (t3 (List.mem_of_getElem? (i := 24) rfl)) rfl
theorem a_im_yX8_counted : Cond.instanceMethod yX8_counted ∈ AW := aw (t3 (List.mem_of_getElem? (i := 25) rfl)) rfl
theorem a_se_yX8_counted : Cond.selects RX8 yX8_counted yX8_counted ∈ AW := aw (t3 (List.mem_of_getElem? (i := 26) rfl)) rfl
theorem a_co_yX8_counted : Cond.code yX8_counted cX8_counted 3 (some .int) ∈ AW := aw (t3 (List.mem_of_getElem? (i := 27) rfl)) rfl
theorem a_ml_X8_199 : Cond.methodLink RX8 199 yX8_isCountable ∈ AW := aw (t3 (List.mem_of_getElem? (i := 28) rfl)) rfl
theorem a_st_yX8_isCountable : Cond.static yX8_isCountable ∈ AW := aw (t3 (List.mem_of_getElem? (i := 29) rfl)) rfl
theorem a_co_yX8_isCountable : Cond.code yX8_isCountable cX8_isCountable 2 (some .boolean) ∈ AW := aw (t3 (List.mem_of_getElem? (i := 30) rfl)) rfl
theorem a_ml_X8_225 : Cond.methodLink RX8 225 yX8_isSmall ∈ AW := aw (t3 (List.mem_of_getElem? (i := 31) rfl)) rfl
theorem a_st_yX8_isSmall : Cond.static yX8_isSmall ∈ AW := aw (t3 (List.mem_of_getElem? (i := 32) rfl)) rfl
theorem a_co_yX8_isSmall : Cond.code yX8_isSmall cX8_isSmall 2 (some .boolean) ∈ AW := aw (t3 (List.mem_of_getElem? (i := 33) rfl)) rfl
theorem a_ml_X8_202 : Cond.methodLink RX8 202 yX0_fillFor ∈ AW := aw (t3 (List.mem_of_getElem? (i := 34) rfl)) rfl
theorem a_im_yX0_fillFor : Cond.instanceMethod yX0_fillFor ∈ AW := aw (t3 (List.mem_of_getElem? (i := 35) rfl)) rfl
theorem a_se_yX0_fillFor : Cond.selects RX0 yX0_fillFor yX0_fillFor ∈ AW := aw (t3 (List.mem_of_getElem? (i := 36) rfl)) rfl
theorem a_co_yX0_fillFor : Cond.code yX0_fillFor cX0_fillFor 5 none ∈ AW := aw (t3 (List.mem_of_getElem? (i := 37) rfl)) rfl
theorem a_ml_X0_33 : Cond.methodLink RX0 33 yX0_fillPlace ∈ AW := aw (t3 (List.mem_of_getElem? (i := 38) rfl)) rfl
theorem a_im_yX0_fillPlace : Cond.instanceMethod yX0_fillPlace ∈ AW := aw (t3 (List.mem_of_getElem? (i := 40) rfl)) rfl
theorem a_co_yX0_fillPlace : Cond.code yX0_fillPlace cX0_fillPlace 7 none ∈ AW := aw (t3 (List.mem_of_getElem? (i := 41) rfl)) rfl
theorem a_ml_X0_37 : Cond.methodLink RX0 37 yX3_sortOf ∈ AW := aw (t3 (List.mem_of_getElem? (i := 42) rfl)) rfl
theorem a_ml_X0_43 : Cond.methodLink RX0 43 yX0_sharesOfParts ∈ AW := aw (t3 (List.mem_of_getElem? (i := 43) rfl)) rfl
theorem a_im_yX0_sharesOfParts : Cond.instanceMethod yX0_sharesOfParts ∈ AW := aw (t3 (List.mem_of_getElem? (i := 45) rfl)) rfl
theorem a_co_yX0_sharesOfParts : Cond.code yX0_sharesOfParts cX0_sharesOfParts 6 (some .long) ∈ AW := aw (t3 (List.mem_of_getElem? (i := 46) rfl)) rfl
theorem a_ml_X0_52 : Cond.methodLink RX0 52 yX0_countAt ∈ AW := aw (t3 (List.mem_of_getElem? (i := 47) rfl)) rfl
theorem a_im_yX0_countAt : Cond.instanceMethod yX0_countAt ∈ AW := aw (t3 (List.mem_of_getElem? (i := 48) rfl)) rfl
theorem a_se_yX0_countAt : Cond.selects RX0 yX0_countAt yX0_countAt ∈ AW := aw (t3 (List.mem_of_getElem? (i := 49) rfl)) rfl
theorem a_co_yX0_countAt : Cond.code yX0_countAt cX0_countAt 3 (some .int) ∈ AW := aw (t3 (List.mem_of_getElem? (i := 50) rfl)) rfl
theorem a_cl_X0_47 : Cond.constantLong RX0 47 (27720) ∈ AW := aw (t3 (List.mem_of_getElem? (i := 52) rfl)) rfl
theorem a_ml_X0_49 : Cond.methodLink RX0 49 yX0_shareOfOther ∈ AW := aw (t3 (List.mem_of_getElem? (i := 53) rfl)) rfl
theorem a_im_yX0_shareOfOther : Cond.instanceMethod yX0_shareOfOther ∈ AW := aw (t3 (List.mem_of_getElem? (i := 55) rfl)) rfl
theorem a_co_yX0_shareOfOther : Cond.code yX0_shareOfOther cX0_shareOfOther 7 (some .long) ∈ AW := aw (t3 (List.mem_of_getElem? (i := 56) rfl)) rfl
theorem a_ml_X0_64 : Cond.methodLink RX0 64 yX0_shareAt ∈ AW := aw (t3 (List.mem_of_getElem? (i := 58) rfl)) rfl
theorem a_im_yX0_shareAt : Cond.instanceMethod yX0_shareAt ∈ AW := aw (t3 (List.mem_of_getElem? (i := 59) rfl)) rfl
theorem a_se_yX0_shareAt : Cond.selects RX0 yX0_shareAt yX0_shareAt ∈ AW := aw (t3 (List.mem_of_getElem? (i := 60) rfl)) rfl
theorem a_co_yX0_shareAt : Cond.code yX0_shareAt cX0_shareAt 3 (some .long) ∈ AW := aw (t3 (List.mem_of_getElem? (i := 61) rfl)) rfl
theorem a_cl_X0_71 : Cond.constantLong RX0 71 (2) ∈ AW := aw (t3 (List.mem_of_getElem? (i := 63) rfl)) rfl
theorem a_ml_X8_206 : Cond.methodLink RX8 206 yX0_countAt ∈ AW := aw (t3 (List.mem_of_getElem? (i := 64) rfl)) rfl
theorem a_ml_L_84 : Cond.methodLink RL 84 yX8_c ∈ AW := aw (t3 (List.mem_of_getElem? (i := 65) rfl)) rfl
theorem a_im_yX8_c : Cond.instanceMethod yX8_c ∈ AW := aw (t3 (List.mem_of_getElem? (i := 66) rfl)) rfl
theorem a_se_yX8_c : Cond.selects RX8 yX8_c yX8_c ∈ AW := aw (t3 (List.mem_of_getElem? (i := 67) rfl)) rfl
theorem a_co_yX8_c : Cond.code yX8_c cX8_c 4 (some .long) ∈ AW := aw (t3 (List.mem_of_getElem? (i := 68) rfl)) rfl
theorem a_ml_X8_209 : Cond.methodLink RX8 209 yX0_shareAt ∈ AW := aw (t3 (List.mem_of_getElem? (i := 69) rfl)) rfl
theorem a_cl_X8_213 : Cond.constantLong RX8 213 (27720) ∈ AW := aw (t3 (List.mem_of_getElem? (i := 70) rfl)) rfl
theorem a_ml_X8_215 : Cond.methodLink RX8 215 yX8_partOf ∈ AW := aw (t3 (List.mem_of_getElem? (i := 71) rfl)) rfl
theorem a_st_yX8_partOf : Cond.static yX8_partOf ∈ AW := aw (t3 (List.mem_of_getElem? (i := 72) rfl)) rfl
theorem a_co_yX8_partOf : Cond.code yX8_partOf cX8_partOf 7 (some .long) ∈ AW := aw (t3 (List.mem_of_getElem? (i := 73) rfl)) rfl
theorem a_ml_X8_298 : Cond.methodLink RX8 298 yX8_commonDivisor ∈ AW := aw (t3 (List.mem_of_getElem? (i := 74) rfl)) rfl
theorem a_st_yX8_commonDivisor : Cond.static yX8_commonDivisor ∈ AW := aw (t3 (List.mem_of_getElem? (i := 75) rfl)) rfl
theorem a_co_yX8_commonDivisor : Cond.code yX8_commonDivisor cX8_commonDivisor 11 (some .long) ∈ AW := aw (t3 (List.mem_of_getElem? (i := 76) rfl)) rfl
theorem a_ml_X8_302 : Cond.methodLink RX8 302 Lib.MathLoose.abs_long.x ∈ AW := aw (t3 (List.mem_of_getElem? (i := 77) rfl)) rfl
theorem a_st_Lib_MathLoose_abs_long_x : Cond.static Lib.MathLoose.abs_long.x ∈ AW := aw (t3 (List.mem_of_getElem? (i := 78) rfl)) rfl
theorem a_co_Lib_MathLoose_abs_long_x : Cond.code Lib.MathLoose.abs_long.x Lib.MathLoose.abs_long.code 2 (some .long) ∈ AW := aw (t3 (List.mem_of_getElem? (i := 79) rfl)) rfl
theorem a_ml_L_89 : Cond.methodLink RL 89 yX8_level ∈ AW := aw (t3 (List.mem_of_getElem? (i := 80) rfl)) rfl
theorem a_im_yX8_level : Cond.instanceMethod yX8_level ∈ AW := aw (t3 (List.mem_of_getElem? (i := 81) rfl)) rfl
theorem a_se_yX8_level : Cond.selects RX8 yX8_level yX8_level ∈ AW := aw (t3 (List.mem_of_getElem? (i := 82) rfl)) rfl
theorem a_co_yX8_level : Cond.code yX8_level cX8_level 3 (some .int) ∈ AW := aw (t3 (List.mem_of_getElem? (i := 83) rfl)) rfl
theorem a_ml_X8_219 : Cond.methodLink RX8 219 yX0_rootsOfHeight ∈ AW := aw (t3 (List.mem_of_getElem? (i := 84) rfl)) rfl
theorem a_im_yX0_rootsOfHeight : Cond.instanceMethod yX0_rootsOfHeight ∈ AW := aw (t3 (List.mem_of_getElem? (i := 85) rfl)) rfl
theorem a_se_yX0_rootsOfHeight : Cond.selects RX0 yX0_rootsOfHeight yX0_rootsOfHeight ∈ AW := aw (t3 (List.mem_of_getElem? (i := 86) rfl)) rfl
theorem a_co_yX0_rootsOfHeight : Cond.code yX0_rootsOfHeight cX0_rootsOfHeight 4 (some .int) ∈ AW := aw (t3 (List.mem_of_getElem? (i := 87) rfl)) rfl
theorem a_ml_X8_222 : Cond.methodLink RX8 222 yX0_sumOfHeight ∈ AW := aw (t3 (List.mem_of_getElem? (i := 88) rfl)) rfl
theorem a_im_yX0_sumOfHeight : Cond.instanceMethod yX0_sumOfHeight ∈ AW := aw (t3 (List.mem_of_getElem? (i := 89) rfl)) rfl
theorem a_se_yX0_sumOfHeight : Cond.selects RX0 yX0_sumOfHeight yX0_sumOfHeight ∈ AW := aw (t3 (List.mem_of_getElem? (i := 90) rfl)) rfl
theorem a_co_yX0_sumOfHeight : Cond.code yX0_sumOfHeight cX0_sumOfHeight 4 (some .int) ∈ AW := aw (t3 (List.mem_of_getElem? (i := 91) rfl)) rfl
theorem a_ml_L_93 : Cond.methodLink RL 93 yX8_made ∈ AW := aw (t3 (List.mem_of_getElem? (i := 92) rfl)) rfl
theorem a_im_yX8_made : Cond.instanceMethod yX8_made ∈ AW := aw (t3 (List.mem_of_getElem? (i := 93) rfl)) rfl
theorem a_se_yX8_made : Cond.selects RX8 yX8_made yX8_made ∈ AW := aw (t3 (List.mem_of_getElem? (i := 94) rfl)) rfl
theorem a_co_yX8_made : Cond.code yX8_made cX8_made 3 (some .long) ∈ AW := aw (t3 (List.mem_of_getElem? (i := 95) rfl)) rfl
theorem a_ml_X8_228 : Cond.methodLink RX8 228 yX1_fillFrom ∈ AW := aw (t3 (List.mem_of_getElem? (i := 96) rfl)) rfl
theorem a_im_yX1_fillFrom : Cond.instanceMethod yX1_fillFrom ∈ AW := aw (t3 (List.mem_of_getElem? (i := 97) rfl)) rfl
theorem a_se_yX1_fillFrom : Cond.selects RX1 yX1_fillFrom yX1_fillFrom ∈ AW := aw (t3 (List.mem_of_getElem? (i := 98) rfl)) rfl
theorem a_co_yX1_fillFrom : Cond.code yX1_fillFrom cX1_fillFrom 4 none ∈ AW := aw (t3 (List.mem_of_getElem? (i := 99) rfl)) rfl
theorem a_ml_X1_26 : Cond.methodLink RX1 26 yX0_countAt ∈ AW := aw (t3 (List.mem_of_getElem? (i := 100) rfl)) rfl
theorem a_ml_X1_30 : Cond.methodLink RX1 30 yX1_multiply ∈ AW := aw (t3 (List.mem_of_getElem? (i := 101) rfl)) rfl
theorem a_im_yX1_multiply : Cond.instanceMethod yX1_multiply ∈ AW := aw (t3 (List.mem_of_getElem? (i := 103) rfl)) rfl
theorem a_co_yX1_multiply : Cond.code yX1_multiply cX1_multiply 6 none ∈ AW := aw (t3 (List.mem_of_getElem? (i := 104) rfl)) rfl
theorem a_ml_X1_34 : Cond.methodLink RX1 34 yX1_fromBelow ∈ AW := aw (t3 (List.mem_of_getElem? (i := 105) rfl)) rfl
theorem a_im_yX1_fromBelow : Cond.instanceMethod yX1_fromBelow ∈ AW := aw (t3 (List.mem_of_getElem? (i := 107) rfl)) rfl
theorem a_co_yX1_fromBelow : Cond.code yX1_fromBelow cX1_fromBelow 11 (some .long) ∈ AW := aw (t3 (List.mem_of_getElem? (i := 108) rfl)) rfl
theorem a_ml_X1_38 : Cond.methodLink RX1 38 yX1_coefficientAt ∈ AW := aw (t3 (List.mem_of_getElem? (i := 109) rfl)) rfl
theorem a_im_yX1_coefficientAt : Cond.instanceMethod yX1_coefficientAt ∈ AW := aw (t3 (List.mem_of_getElem? (i := 110) rfl)) rfl
theorem a_se_yX1_coefficientAt : Cond.selects RX1 yX1_coefficientAt yX1_coefficientAt ∈ AW := aw (t3 (List.mem_of_getElem? (i := 111) rfl)) rfl
theorem a_co_yX1_coefficientAt : Cond.code yX1_coefficientAt cX1_coefficientAt 3 (some .long) ∈ AW := aw (t3 (List.mem_of_getElem? (i := 112) rfl)) rfl
theorem a_ml_X8_232 : Cond.methodLink RX8 232 yX1_coefficientAt ∈ AW := aw (t3 (List.mem_of_getElem? (i := 114) rfl)) rfl
theorem a_ml_L_97 : Cond.methodLink RL 97 yX8_signed ∈ AW := aw (t3 (List.mem_of_getElem? (i := 115) rfl)) rfl
theorem a_im_yX8_signed : Cond.instanceMethod yX8_signed ∈ AW := aw (t3 (List.mem_of_getElem? (i := 116) rfl)) rfl
theorem a_se_yX8_signed : Cond.selects RX8 yX8_signed yX8_signed ∈ AW := aw (t3 (List.mem_of_getElem? (i := 117) rfl)) rfl
theorem a_co_yX8_signed : Cond.code yX8_signed cX8_signed 6 (some .int) ∈ AW := aw (t3 (List.mem_of_getElem? (i := 118) rfl)) rfl
theorem a_ml_X8_235 : Cond.methodLink RX8 235 yX8_shortestWordTo ∈ AW := aw (t3 (List.mem_of_getElem? (i := 119) rfl)) rfl
theorem a_im_yX8_shortestWordTo : Cond.instanceMethod yX8_shortestWordTo ∈ AW := aw (t3 (List.mem_of_getElem? (i := 121) rfl)) rfl
theorem a_co_yX8_shortestWordTo : Cond.code yX8_shortestWordTo cX8_shortestWordTo 8 (some .int) ∈ AW := aw (t3 (List.mem_of_getElem? (i := 122) rfl)) rfl
theorem a_ml_L_101 : Cond.methodLink RL 101 yX8_see ∈ AW := aw (t3 (List.mem_of_getElem? (i := 123) rfl)) rfl
theorem a_im_yX8_see : Cond.instanceMethod yX8_see ∈ AW := aw (t3 (List.mem_of_getElem? (i := 124) rfl)) rfl
theorem a_se_yX8_see : Cond.selects RX8 yX8_see yX8_see ∈ AW := aw (t3 (List.mem_of_getElem? (i := 125) rfl)) rfl
theorem a_co_yX8_see : Cond.code yX8_see cX8_see 4 (some .int) ∈ AW := aw (t3 (List.mem_of_getElem? (i := 126) rfl)) rfl
theorem a_ml_L_105 : Cond.methodLink RL 105 yX8_fits ∈ AW := aw (t3 (List.mem_of_getElem? (i := 127) rfl)) rfl
theorem a_im_yX8_fits : Cond.instanceMethod yX8_fits ∈ AW := aw (t3 (List.mem_of_getElem? (i := 128) rfl)) rfl
theorem a_se_yX8_fits : Cond.selects RX8 yX8_fits yX8_fits ∈ AW := aw (t3 (List.mem_of_getElem? (i := 129) rfl)) rfl
theorem a_co_yX8_fits : Cond.code yX8_fits cX8_fits 3 (some .int) ∈ AW := aw (t3 (List.mem_of_getElem? (i := 130) rfl)) rfl
theorem a_ml_X8_241 : Cond.methodLink RX8 241 yX8_isAllSeenBy ∈ AW := aw (t3 (List.mem_of_getElem? (i := 131) rfl)) rfl
theorem a_im_yX8_isAllSeenBy : Cond.instanceMethod yX8_isAllSeenBy ∈ AW := aw (t3 (List.mem_of_getElem? (i := 133) rfl)) rfl
theorem a_co_yX8_isAllSeenBy : Cond.code yX8_isAllSeenBy cX8_isAllSeenBy 4 (some .boolean) ∈ AW := aw (t3 (List.mem_of_getElem? (i := 134) rfl)) rfl
theorem a_ml_L_109 : Cond.methodLink RL 109 yX8_odds ∈ AW := aw (t3 (List.mem_of_getElem? (i := 135) rfl)) rfl
theorem a_im_yX8_odds : Cond.instanceMethod yX8_odds ∈ AW := aw (t3 (List.mem_of_getElem? (i := 136) rfl)) rfl
theorem a_se_yX8_odds : Cond.selects RX8 yX8_odds yX8_odds ∈ AW := aw (t3 (List.mem_of_getElem? (i := 137) rfl)) rfl
theorem a_co_yX8_odds : Cond.code yX8_odds cX8_odds 3 (some .long) ∈ AW := aw (t3 (List.mem_of_getElem? (i := 138) rfl)) rfl
theorem a_ml_L_113 : Cond.methodLink RL 113 yX8_mean ∈ AW := aw (t3 (List.mem_of_getElem? (i := 139) rfl)) rfl
theorem a_im_yX8_mean : Cond.instanceMethod yX8_mean ∈ AW := aw (t3 (List.mem_of_getElem? (i := 140) rfl)) rfl
theorem a_se_yX8_mean : Cond.selects RX8 yX8_mean yX8_mean ∈ AW := aw (t3 (List.mem_of_getElem? (i := 141) rfl)) rfl
theorem a_co_yX8_mean : Cond.code yX8_mean cX8_mean 3 (some .long) ∈ AW := aw (t3 (List.mem_of_getElem? (i := 142) rfl)) rfl
theorem a_ml_L_117 : Cond.methodLink RL 117 yX8_event ∈ AW := aw (t3 (List.mem_of_getElem? (i := 143) rfl)) rfl
theorem a_im_yX8_event : Cond.instanceMethod yX8_event ∈ AW := aw (t3 (List.mem_of_getElem? (i := 144) rfl)) rfl
theorem a_se_yX8_event : Cond.selects RX8 yX8_event yX8_event ∈ AW := aw (t3 (List.mem_of_getElem? (i := 145) rfl)) rfl
theorem a_co_yX8_event : Cond.code yX8_event cX8_event 3 (some .int) ∈ AW := aw (t3 (List.mem_of_getElem? (i := 146) rfl)) rfl
theorem a_ml_L_121 : Cond.methodLink RL 121 yX8_after ∈ AW := aw (t3 (List.mem_of_getElem? (i := 147) rfl)) rfl
theorem a_im_yX8_after : Cond.instanceMethod yX8_after ∈ AW := aw (t3 (List.mem_of_getElem? (i := 148) rfl)) rfl
theorem a_se_yX8_after : Cond.selects RX8 yX8_after yX8_after ∈ AW := aw (t3 (List.mem_of_getElem? (i := 149) rfl)) rfl
theorem a_co_yX8_after : Cond.code yX8_after cX8_after 3 (some .long) ∈ AW := aw (t3 (List.mem_of_getElem? (i := 150) rfl)) rfl
theorem a_ml_X8_250 : Cond.methodLink RX8 250 yX8_happen ∈ AW := aw (t3 (List.mem_of_getElem? (i := 151) rfl)) rfl
theorem a_im_yX8_happen : Cond.instanceMethod yX8_happen ∈ AW := aw (t3 (List.mem_of_getElem? (i := 153) rfl)) rfl
theorem a_co_yX8_happen : Cond.code yX8_happen cX8_happen 3 none ∈ AW := aw (t3 (List.mem_of_getElem? (i := 154) rfl)) rfl
theorem a_ml_X8_253 : Cond.methodLink RX8 253 yX2_swap ∈ AW := aw (t3 (List.mem_of_getElem? (i := 155) rfl)) rfl
theorem a_im_yX2_swap : Cond.instanceMethod yX2_swap ∈ AW := aw (t3 (List.mem_of_getElem? (i := 156) rfl)) rfl
theorem a_se_yX2_swap : Cond.selects RX2 yX2_swap yX2_swap ∈ AW := aw (t3 (List.mem_of_getElem? (i := 157) rfl)) rfl
theorem a_co_yX2_swap : Cond.code yX2_swap cX2_swap 3 none ∈ AW := aw (t3 (List.mem_of_getElem? (i := 158) rfl)) rfl
theorem a_ml_L_126 : Cond.methodLink RL 126 yX8_book ∈ AW := aw (t3 (List.mem_of_getElem? (i := 159) rfl)) rfl
theorem a_im_yX8_book : Cond.instanceMethod yX8_book ∈ AW := aw (t3 (List.mem_of_getElem? (i := 160) rfl)) rfl
theorem a_se_yX8_book : Cond.selects RX8 yX8_book yX8_book ∈ AW := aw (t3 (List.mem_of_getElem? (i := 161) rfl)) rfl
theorem a_co_yX8_book : Cond.code yX8_book cX8_book 4 (some .int) ∈ AW := aw (t3 (List.mem_of_getElem? (i := 162) rfl)) rfl
theorem a_ml_L_130 : Cond.methodLink RL 130 yX8_looked ∈ AW := aw (t3 (List.mem_of_getElem? (i := 163) rfl)) rfl
theorem a_im_yX8_looked : Cond.instanceMethod yX8_looked ∈ AW := aw (t3 (List.mem_of_getElem? (i := 164) rfl)) rfl
theorem a_se_yX8_looked : Cond.selects RX8 yX8_looked yX8_looked ∈ AW := aw (t3 (List.mem_of_getElem? (i := 165) rfl)) rfl
theorem a_co_yX8_looked : Cond.code yX8_looked cX8_looked 3 (some .int) ∈ AW := aw (t3 (List.mem_of_getElem? (i := 166) rfl)) rfl
theorem a_ml_L_134 : Cond.methodLink RL 134 yX8_judge ∈ AW := aw (t3 (List.mem_of_getElem? (i := 167) rfl)) rfl
theorem a_im_yX8_judge : Cond.instanceMethod yX8_judge ∈ AW := aw (t3 (List.mem_of_getElem? (i := 168) rfl)) rfl
theorem a_se_yX8_judge : Cond.selects RX8 yX8_judge yX8_judge ∈ AW := aw (t3 (List.mem_of_getElem? (i := 169) rfl)) rfl
theorem a_co_yX8_judge : Cond.code yX8_judge cX8_judge 4 (some .int) ∈ AW := aw (t3 (List.mem_of_getElem? (i := 170) rfl)) rfl
theorem a_ml_X8_259 : Cond.methodLink RX8 259 yX7_isTape ∈ AW := aw (t3 (List.mem_of_getElem? (i := 171) rfl)) rfl
theorem a_im_yX7_isTape : Cond.instanceMethod yX7_isTape ∈ AW := aw (t3 (List.mem_of_getElem? (i := 172) rfl)) rfl
theorem a_se_yX7_isTape : Cond.selects RX7 yX7_isTape yX7_isTape ∈ AW := aw (t3 (List.mem_of_getElem? (i := 173) rfl)) rfl
theorem a_co_yX7_isTape : Cond.code yX7_isTape cX7_isTape 2 (some .boolean) ∈ AW := aw (t3 (List.mem_of_getElem? (i := 174) rfl)) rfl
theorem a_ml_X8_262 : Cond.methodLink RX8 262 yX7_holds ∈ AW := aw (t3 (List.mem_of_getElem? (i := 176) rfl)) rfl
theorem a_im_yX7_holds : Cond.instanceMethod yX7_holds ∈ AW := aw (t3 (List.mem_of_getElem? (i := 177) rfl)) rfl
theorem a_se_yX7_holds : Cond.selects RX7 yX7_holds yX7_holds ∈ AW := aw (t3 (List.mem_of_getElem? (i := 178) rfl)) rfl
theorem a_co_yX7_holds : Cond.code yX7_holds cX7_holds 2 (some .boolean) ∈ AW := aw (t3 (List.mem_of_getElem? (i := 179) rfl)) rfl
theorem a_ml_X7_26 : Cond.methodLink RX7 26 yX7_sortAt ∈ AW := aw (t3 (List.mem_of_getElem? (i := 180) rfl)) rfl
theorem a_im_yX7_sortAt : Cond.instanceMethod yX7_sortAt ∈ AW := aw (t3 (List.mem_of_getElem? (i := 181) rfl)) rfl
theorem a_se_yX7_sortAt : Cond.selects RX7 yX7_sortAt yX7_sortAt ∈ AW := aw (t3 (List.mem_of_getElem? (i := 182) rfl)) rfl
theorem a_co_yX7_sortAt : Cond.code yX7_sortAt cX7_sortAt 2 (some .int) ∈ AW := aw (t3 (List.mem_of_getElem? (i := 183) rfl)) rfl
theorem a_ml_X7_30 : Cond.methodLink RX7 30 yX7_isTape ∈ AW := aw (t3 (List.mem_of_getElem? (i := 184) rfl)) rfl
theorem a_ml_X8_265 : Cond.methodLink RX8 265 yX7_sortAt ∈ AW := aw (t3 (List.mem_of_getElem? (i := 185) rfl)) rfl
theorem a_ml_X8_268 : Cond.methodLink RX8 268 yX7_hasRun ∈ AW := aw (t3 (List.mem_of_getElem? (i := 186) rfl)) rfl
theorem a_im_yX7_hasRun : Cond.instanceMethod yX7_hasRun ∈ AW := aw (t3 (List.mem_of_getElem? (i := 187) rfl)) rfl
theorem a_se_yX7_hasRun : Cond.selects RX7 yX7_hasRun yX7_hasRun ∈ AW := aw (t3 (List.mem_of_getElem? (i := 188) rfl)) rfl
theorem a_co_yX7_hasRun : Cond.code yX7_hasRun cX7_hasRun 4 (some .boolean) ∈ AW := aw (t3 (List.mem_of_getElem? (i := 189) rfl)) rfl
theorem a_ml_X8_271 : Cond.methodLink RX8 271 yX7_itemAt ∈ AW := aw (t3 (List.mem_of_getElem? (i := 190) rfl)) rfl
theorem a_im_yX7_itemAt : Cond.instanceMethod yX7_itemAt ∈ AW := aw (t3 (List.mem_of_getElem? (i := 191) rfl)) rfl
theorem a_se_yX7_itemAt : Cond.selects RX7 yX7_itemAt yX7_itemAt ∈ AW := aw (t3 (List.mem_of_getElem? (i := 192) rfl)) rfl
theorem a_co_yX7_itemAt : Cond.code yX7_itemAt cX7_itemAt 3 (some .long) ∈ AW := aw (t3 (List.mem_of_getElem? (i := 193) rfl)) rfl
theorem a_ml_X7_34 : Cond.methodLink RX7 34 yX7_hasRun ∈ AW := aw (t3 (List.mem_of_getElem? (i := 194) rfl)) rfl
theorem a_ml_L_138 : Cond.methodLink RL 138 yX8_image ∈ AW := aw (t3 (List.mem_of_getElem? (i := 195) rfl)) rfl
theorem a_im_yX8_image : Cond.instanceMethod yX8_image ∈ AW := aw (t3 (List.mem_of_getElem? (i := 196) rfl)) rfl
theorem a_se_yX8_image : Cond.selects RX8 yX8_image yX8_image ∈ AW := aw (t3 (List.mem_of_getElem? (i := 197) rfl)) rfl
theorem a_co_yX8_image : Cond.code yX8_image cX8_image 1 (some .int) ∈ AW := aw (t3 (List.mem_of_getElem? (i := 198) rfl)) rfl
theorem a_ml_X8_274 : Cond.methodLink RX8 274 yX6_copyFrom ∈ AW := aw (t3 (List.mem_of_getElem? (i := 199) rfl)) rfl
theorem a_im_yX6_copyFrom : Cond.instanceMethod yX6_copyFrom ∈ AW := aw (t3 (List.mem_of_getElem? (i := 200) rfl)) rfl
theorem a_se_yX6_copyFrom : Cond.selects RX6 yX6_copyFrom yX6_copyFrom ∈ AW := aw (t3 (List.mem_of_getElem? (i := 201) rfl)) rfl
theorem a_co_yX6_copyFrom : Cond.code yX6_copyFrom cX6_copyFrom 2 none ∈ AW := aw (t3 (List.mem_of_getElem? (i := 202) rfl)) rfl
theorem a_ml_X6_34 : Cond.methodLink RX6 34 yX2_copyFrom ∈ AW := aw (t3 (List.mem_of_getElem? (i := 203) rfl)) rfl
theorem a_ml_X6_38 : Cond.methodLink RX6 38 yX4_copyFrom ∈ AW := aw (t3 (List.mem_of_getElem? (i := 204) rfl)) rfl
theorem a_im_yX4_copyFrom : Cond.instanceMethod yX4_copyFrom ∈ AW := aw (t3 (List.mem_of_getElem? (i := 205) rfl)) rfl
theorem a_se_yX4_copyFrom : Cond.selects RX4 yX4_copyFrom yX4_copyFrom ∈ AW := aw (t3 (List.mem_of_getElem? (i := 206) rfl)) rfl
theorem a_co_yX4_copyFrom : Cond.code yX4_copyFrom cX4_copyFrom 3 none ∈ AW := aw (t3 (List.mem_of_getElem? (i := 207) rfl)) rfl
theorem a_ml_X4_32 : Cond.methodLink RX4 32 yX4_size ∈ AW := aw (t3 (List.mem_of_getElem? (i := 208) rfl)) rfl
theorem a_ml_X4_36 : Cond.methodLink RX4 36 yX4_cell ∈ AW := aw (t3 (List.mem_of_getElem? (i := 209) rfl)) rfl
theorem a_ml_X4_39 : Cond.methodLink RX4 39 yX4_put ∈ AW := aw (t3 (List.mem_of_getElem? (i := 210) rfl)) rfl
theorem a_ml_L_142 : Cond.methodLink RL 142 yX8_undo ∈ AW := aw (t3 (List.mem_of_getElem? (i := 211) rfl)) rfl
theorem a_im_yX8_undo : Cond.instanceMethod yX8_undo ∈ AW := aw (t3 (List.mem_of_getElem? (i := 212) rfl)) rfl
theorem a_se_yX8_undo : Cond.selects RX8 yX8_undo yX8_undo ∈ AW := aw (t3 (List.mem_of_getElem? (i := 213) rfl)) rfl
theorem a_co_yX8_undo : Cond.code yX8_undo cX8_undo 1 (some .int) ∈ AW := aw (t3 (List.mem_of_getElem? (i := 214) rfl)) rfl
theorem a_ml_L_146 : Cond.methodLink RL 146 yX8_count ∈ AW := aw (t3 (List.mem_of_getElem? (i := 215) rfl)) rfl
theorem a_im_yX8_count : Cond.instanceMethod yX8_count ∈ AW := aw (t3 (List.mem_of_getElem? (i := 216) rfl)) rfl
theorem a_se_yX8_count : Cond.selects RX8 yX8_count yX8_count ∈ AW := aw (t3 (List.mem_of_getElem? (i := 217) rfl)) rfl
theorem a_co_yX8_count : Cond.code yX8_count cX8_count 2 (some .int) ∈ AW := aw (t3 (List.mem_of_getElem? (i := 218) rfl)) rfl
theorem a_ml_X8_277 : Cond.methodLink RX8 277 yX5_bytes ∈ AW := aw (t3 (List.mem_of_getElem? (i := 219) rfl)) rfl
theorem a_im_yX5_bytes : Cond.instanceMethod yX5_bytes ∈ AW := aw (t3 (List.mem_of_getElem? (i := 220) rfl)) rfl
theorem a_se_yX5_bytes : Cond.selects RX5 yX5_bytes yX5_bytes ∈ AW := aw (t3 (List.mem_of_getElem? (i := 221) rfl)) rfl
theorem a_co_yX5_bytes : Cond.code yX5_bytes cX5_bytes 1 (some .int) ∈ AW := aw (t3 (List.mem_of_getElem? (i := 222) rfl)) rfl
theorem a_ml_L_150 : Cond.methodLink RL 150 yX8_tape ∈ AW := aw (t3 (List.mem_of_getElem? (i := 223) rfl)) rfl
theorem a_im_yX8_tape : Cond.instanceMethod yX8_tape ∈ AW := aw (t3 (List.mem_of_getElem? (i := 224) rfl)) rfl
theorem a_se_yX8_tape : Cond.selects RX8 yX8_tape yX8_tape ∈ AW := aw (t3 (List.mem_of_getElem? (i := 225) rfl)) rfl
theorem a_co_yX8_tape : Cond.code yX8_tape cX8_tape 4 (some .int) ∈ AW := aw (t3 (List.mem_of_getElem? (i := 226) rfl)) rfl
theorem a_ml_X8_280 : Cond.methodLink RX8 280 yX7_drop ∈ AW := aw (t3 (List.mem_of_getElem? (i := 227) rfl)) rfl
theorem a_im_yX7_drop : Cond.instanceMethod yX7_drop ∈ AW := aw (t3 (List.mem_of_getElem? (i := 228) rfl)) rfl
theorem a_se_yX7_drop : Cond.selects RX7 yX7_drop yX7_drop ∈ AW := aw (t3 (List.mem_of_getElem? (i := 229) rfl)) rfl
theorem a_co_yX7_drop : Cond.code yX7_drop cX7_drop 2 none ∈ AW := aw (t3 (List.mem_of_getElem? (i := 230) rfl)) rfl
theorem a_ml_X8_284 : Cond.methodLink RX8 284 yX7_become ∈ AW := aw (t3 (List.mem_of_getElem? (i := 231) rfl)) rfl
theorem a_im_yX7_become : Cond.instanceMethod yX7_become ∈ AW := aw (t3 (List.mem_of_getElem? (i := 232) rfl)) rfl
theorem a_se_yX7_become : Cond.selects RX7 yX7_become yX7_become ∈ AW := aw (t3 (List.mem_of_getElem? (i := 233) rfl)) rfl
theorem a_co_yX7_become : Cond.code yX7_become cX7_become 5 none ∈ AW := aw (t3 (List.mem_of_getElem? (i := 234) rfl)) rfl
theorem a_ml_L_156 : Cond.methodLink RL 156 yX8_item ∈ AW := aw (t3 (List.mem_of_getElem? (i := 235) rfl)) rfl
theorem a_im_yX8_item : Cond.instanceMethod yX8_item ∈ AW := aw (t3 (List.mem_of_getElem? (i := 236) rfl)) rfl
theorem a_se_yX8_item : Cond.selects RX8 yX8_item yX8_item ∈ AW := aw (t3 (List.mem_of_getElem? (i := 237) rfl)) rfl
theorem a_co_yX8_item : Cond.code yX8_item cX8_item 5 (some .int) ∈ AW := aw (t3 (List.mem_of_getElem? (i := 238) rfl)) rfl
theorem a_ml_X8_288 : Cond.methodLink RX8 288 yX7_setItem ∈ AW := aw (t3 (List.mem_of_getElem? (i := 239) rfl)) rfl
theorem a_im_yX7_setItem : Cond.instanceMethod yX7_setItem ∈ AW := aw (t4 (List.mem_of_getElem? (i := 0) rfl)) rfl
theorem a_se_yX7_setItem : Cond.selects RX7 yX7_setItem yX7_setItem ∈ AW := aw (t4 (List.mem_of_getElem? (i := 1) rfl)) rfl
theorem a_co_yX7_setItem : Cond.code yX7_setItem cX7_setItem 5 none ∈ AW := aw (t4 (List.mem_of_getElem? (i := 2) rfl)) rfl
theorem a_ml_X7_37 : Cond.methodLink RX7 37 yX7_cutTo ∈ AW := aw (t4 (List.mem_of_getElem? (i := 3) rfl)) rfl
theorem a_st_yX7_cutTo : Cond.static yX7_cutTo ∈ AW := aw (t4 (List.mem_of_getElem? (i := 4) rfl)) rfl
theorem a_co_yX7_cutTo : Cond.code yX7_cutTo cX7_cutTo 3 (some .long) ∈ AW := aw (t4 (List.mem_of_getElem? (i := 5) rfl)) rfl
theorem a_ml_L_161 : Cond.methodLink RL 161 yX8_peek ∈ AW := aw (t4 (List.mem_of_getElem? (i := 6) rfl)) rfl
theorem a_im_yX8_peek : Cond.instanceMethod yX8_peek ∈ AW := aw (t4 (List.mem_of_getElem? (i := 7) rfl)) rfl
theorem a_se_yX8_peek : Cond.selects RX8 yX8_peek yX8_peek ∈ AW := aw (t4 (List.mem_of_getElem? (i := 8) rfl)) rfl
theorem a_co_yX8_peek : Cond.code yX8_peek cX8_peek 3 (some .long) ∈ AW := aw (t4 (List.mem_of_getElem? (i := 9) rfl)) rfl
theorem a_ml_L_165 : Cond.methodLink RL 165 yX8_shift ∈ AW := aw (t4 (List.mem_of_getElem? (i := 10) rfl)) rfl
theorem a_im_yX8_shift : Cond.instanceMethod yX8_shift ∈ AW := aw (t4 (List.mem_of_getElem? (i := 11) rfl)) rfl
theorem a_se_yX8_shift : Cond.selects RX8 yX8_shift yX8_shift ∈ AW := aw (t4 (List.mem_of_getElem? (i := 12) rfl)) rfl
theorem a_co_yX8_shift : Cond.code yX8_shift cX8_shift 6 (some .int) ∈ AW := aw (t4 (List.mem_of_getElem? (i := 13) rfl)) rfl
theorem a_ml_X8_292 : Cond.methodLink RX8 292 yX7_copyRun ∈ AW := aw (t4 (List.mem_of_getElem? (i := 14) rfl)) rfl
theorem a_im_yX7_copyRun : Cond.instanceMethod yX7_copyRun ∈ AW := aw (t4 (List.mem_of_getElem? (i := 15) rfl)) rfl
theorem a_se_yX7_copyRun : Cond.selects RX7 yX7_copyRun yX7_copyRun ∈ AW := aw (t4 (List.mem_of_getElem? (i := 16) rfl)) rfl
theorem a_co_yX7_copyRun : Cond.code yX7_copyRun cX7_copyRun 6 none ∈ AW := aw (t4 (List.mem_of_getElem? (i := 17) rfl)) rfl
theorem a_ml_X7_41 : Cond.methodLink RX7 41 arraycopyName ∈ AW := aw (t4 (List.mem_of_getElem? (i := 18) rfl)) rfl
theorem a_st_arraycopyName : Cond.static arraycopyName ∈ AW := aw (t4 (List.mem_of_getElem? (i := 19) rfl)) rfl
theorem a_na_arraycopyName : Cond.native arraycopyName ∈ AW := aw (t4 (List.mem_of_getElem? (i := 20) rfl)) rfl
theorem a_ck_L_10 : Cond.classLink RL 10 RX9 ∈ AW := aw (t4 (List.mem_of_getElem? (i := 21) rfl)) rfl
theorem a_it_X9 : Cond.instantiable RX9 44 ∈ AW := aw (t4 (List.mem_of_getElem? (i := 22) rfl)) rfl
theorem a_ml_L_12 : Cond.methodLink RL 12 yX9_init ∈ AW := aw (t4 (List.mem_of_getElem? (i := 23) rfl)) rfl
theorem a_im_yX9_init : Cond.instanceMethod yX9_init ∈ AW := aw (t4 (List.mem_of_getElem? (i := 24) rfl)) rfl
theorem a_co_yX9_init : Cond.code yX9_init cX9_init 2 none ∈ AW := aw (t4 (List.mem_of_getElem? (i := 25) rfl)) rfl
theorem a_ml_X9_3 : Cond.methodLink RX9 3 objectInit ∈ AW := aw (t4 (List.mem_of_getElem? (i := 26) rfl)) rfl
theorem a_ck_X9_84 : Cond.classLink RX9 84 "[[I" ∈ AW := aw (t4 (List.mem_of_getElem? (i := 27) rfl)) rfl
theorem a_ck_X9_95 : Cond.classLink RX9 95 "[[J" ∈ AW := aw (t4 (List.mem_of_getElem? (i := 29) rfl)) rfl
theorem a_fl_X9_9 : Cond.fieldLink RX9 9 "EndlessRootsModel" "a" "I" ∈ AW := aw (t4 (List.mem_of_getElem? (i := 31) rfl)) rfl
theorem a_fl_X9_15 : Cond.fieldLink RX9 15 "EndlessRootsModel" "b" "I" ∈ AW := aw (t4 (List.mem_of_getElem? (i := 32) rfl)) rfl
theorem a_fl_X9_18 : Cond.fieldLink RX9 18 "EndlessRootsModel" "atX" "I" ∈ AW := aw (t4 (List.mem_of_getElem? (i := 33) rfl)) rfl
theorem a_fl_X9_21 : Cond.fieldLink RX9 21 "EndlessRootsModel" "atY" "I" ∈ AW := aw (t4 (List.mem_of_getElem? (i := 34) rfl)) rfl
theorem a_fl_X9_110 : Cond.fieldLink RX9 110 "EndlessRootsModel" "lowX" "I" ∈ AW := aw (t4 (List.mem_of_getElem? (i := 35) rfl)) rfl
theorem a_fl_X9_113 : Cond.fieldLink RX9 113 "EndlessRootsModel" "lowY" "I" ∈ AW := aw (t4 (List.mem_of_getElem? (i := 36) rfl)) rfl
theorem a_fl_X9_116 : Cond.fieldLink RX9 116 "EndlessRootsModel" "steps" "I" ∈ AW := aw (t4 (List.mem_of_getElem? (i := 37) rfl)) rfl
theorem a_fl_X9_123 : Cond.fieldLink RX9 123 "EndlessRootsModel" "wasLetter" "Z" ∈ AW := aw (t4 (List.mem_of_getElem? (i := 38) rfl)) rfl
theorem a_fl_X9_182 : Cond.fieldLink RX9 182 "EndlessRootsModel" "keptA" "I" ∈ AW := aw (t4 (List.mem_of_getElem? (i := 39) rfl)) rfl
theorem a_fl_X9_185 : Cond.fieldLink RX9 185 "EndlessRootsModel" "keptB" "I" ∈ AW := aw (t4 (List.mem_of_getElem? (i := 40) rfl)) rfl
theorem a_fl_X9_24 : Cond.fieldLink RX9 24 "EndlessRootsModel" "above" "[J" ∈ AW := aw (t4 (List.mem_of_getElem? (i := 41) rfl)) rfl
theorem a_fl_X9_28 : Cond.fieldLink RX9 28 "EndlessRootsModel" "below" "[J" ∈ AW := aw (t4 (List.mem_of_getElem? (i := 42) rfl)) rfl
theorem a_fl_X9_31 : Cond.fieldLink RX9 31 "EndlessRootsModel" "counts" "[I" ∈ AW := aw (t4 (List.mem_of_getElem? (i := 43) rfl)) rfl
theorem a_fl_X9_148 : Cond.fieldLink RX9 148 "EndlessRootsModel" "up" "J" ∈ AW := aw (t4 (List.mem_of_getElem? (i := 44) rfl)) rfl
theorem a_fl_X9_152 : Cond.fieldLink RX9 152 "EndlessRootsModel" "low" "J" ∈ AW := aw (t4 (List.mem_of_getElem? (i := 45) rfl)) rfl
theorem a_fl_X9_35 : Cond.fieldLink RX9 35 "EndlessRootsModel" "noteX" "[I" ∈ AW := aw (t4 (List.mem_of_getElem? (i := 46) rfl)) rfl
theorem a_fl_X9_38 : Cond.fieldLink RX9 38 "EndlessRootsModel" "noteY" "[I" ∈ AW := aw (t4 (List.mem_of_getElem? (i := 47) rfl)) rfl
theorem a_fl_X9_213 : Cond.fieldLink RX9 213 "EndlessRootsModel" "notes" "I" ∈ AW := aw (t4 (List.mem_of_getElem? (i := 48) rfl)) rfl
theorem a_fl_X9_41 : Cond.fieldLink RX9 41 "EndlessRootsModel" "text" "[B" ∈ AW := aw (t4 (List.mem_of_getElem? (i := 49) rfl)) rfl
theorem a_fl_X9_218 : Cond.fieldLink RX9 218 "EndlessRootsModel" "texted" "I" ∈ AW := aw (t4 (List.mem_of_getElem? (i := 50) rfl)) rfl
theorem a_fl_X9_230 : Cond.fieldLink RX9 230 "EndlessRootsModel" "at" "I" ∈ AW := aw (t4 (List.mem_of_getElem? (i := 51) rfl)) rfl
theorem a_fl_X9_248 : Cond.fieldLink RX9 248 "EndlessRootsModel" "clauses" "I" ∈ AW := aw (t4 (List.mem_of_getElem? (i := 52) rfl)) rfl
theorem a_fl_X9_45 : Cond.fieldLink RX9 45 "EndlessRootsModel" "words" "[I" ∈ AW := aw (t4 (List.mem_of_getElem? (i := 53) rfl)) rfl
theorem a_fl_X9_48 : Cond.fieldLink RX9 48 "EndlessRootsModel" "firsts" "[I" ∈ AW := aw (t4 (List.mem_of_getElem? (i := 54) rfl)) rfl
theorem a_fl_X9_51 : Cond.fieldLink RX9 51 "EndlessRootsModel" "seconds" "[I" ∈ AW := aw (t4 (List.mem_of_getElem? (i := 55) rfl)) rfl
theorem a_fl_X9_255 : Cond.fieldLink RX9 255 "EndlessRootsModel" "read" "I" ∈ AW := aw (t4 (List.mem_of_getElem? (i := 56) rfl)) rfl
theorem a_fl_X9_54 : Cond.fieldLink RX9 54 "EndlessRootsModel" "row" "[J" ∈ AW := aw (t4 (List.mem_of_getElem? (i := 57) rfl)) rfl
theorem a_fl_X9_57 : Cond.fieldLink RX9 57 "EndlessRootsModel" "seenX" "[I" ∈ AW := aw (t4 (List.mem_of_getElem? (i := 58) rfl)) rfl
theorem a_fl_X9_60 : Cond.fieldLink RX9 60 "EndlessRootsModel" "seenY" "[I" ∈ AW := aw (t4 (List.mem_of_getElem? (i := 59) rfl)) rfl
theorem a_fl_X9_63 : Cond.fieldLink RX9 63 "EndlessRootsModel" "seenSort" "[I" ∈ AW := aw (t4 (List.mem_of_getElem? (i := 60) rfl)) rfl
theorem a_fl_X9_336 : Cond.fieldLink RX9 336 "EndlessRootsModel" "seen" "I" ∈ AW := aw (t4 (List.mem_of_getElem? (i := 61) rfl)) rfl
theorem a_fl_X9_66 : Cond.fieldLink RX9 66 "EndlessRootsModel" "eventWhat" "[I" ∈ AW := aw (t4 (List.mem_of_getElem? (i := 62) rfl)) rfl
theorem a_fl_X9_69 : Cond.fieldLink RX9 69 "EndlessRootsModel" "eventOf" "[I" ∈ AW := aw (t4 (List.mem_of_getElem? (i := 63) rfl)) rfl
theorem a_fl_X9_348 : Cond.fieldLink RX9 348 "EndlessRootsModel" "events" "I" ∈ AW := aw (t4 (List.mem_of_getElem? (i := 64) rfl)) rfl
theorem a_fl_X9_72 : Cond.fieldLink RX9 72 "EndlessRootsModel" "bookX" "[I" ∈ AW := aw (t4 (List.mem_of_getElem? (i := 65) rfl)) rfl
theorem a_fl_X9_75 : Cond.fieldLink RX9 75 "EndlessRootsModel" "bookY" "[I" ∈ AW := aw (t4 (List.mem_of_getElem? (i := 66) rfl)) rfl
theorem a_fl_X9_78 : Cond.fieldLink RX9 78 "EndlessRootsModel" "bookOf" "[I" ∈ AW := aw (t4 (List.mem_of_getElem? (i := 67) rfl)) rfl
theorem a_fl_X9_354 : Cond.fieldLink RX9 354 "EndlessRootsModel" "books" "I" ∈ AW := aw (t4 (List.mem_of_getElem? (i := 68) rfl)) rfl
theorem a_fl_X9_360 : Cond.fieldLink RX9 360 "EndlessRootsModel" "isKept" "Z" ∈ AW := aw (t4 (List.mem_of_getElem? (i := 69) rfl)) rfl
theorem a_fl_X9_81 : Cond.fieldLink RX9 81 "EndlessRootsModel" "imageNumbers" "[I" ∈ AW := aw (t4 (List.mem_of_getElem? (i := 70) rfl)) rfl
theorem a_fl_X9_86 : Cond.fieldLink RX9 86 "EndlessRootsModel" "imageRows" "[[I" ∈ AW := aw (t4 (List.mem_of_getElem? (i := 71) rfl)) rfl
theorem a_fl_X9_89 : Cond.fieldLink RX9 89 "EndlessRootsModel" "sorts" "[I" ∈ AW := aw (t4 (List.mem_of_getElem? (i := 72) rfl)) rfl
theorem a_fl_X9_92 : Cond.fieldLink RX9 92 "EndlessRootsModel" "sizes" "[I" ∈ AW := aw (t4 (List.mem_of_getElem? (i := 73) rfl)) rfl
theorem a_fl_X9_97 : Cond.fieldLink RX9 97 "EndlessRootsModel" "items" "[[J" ∈ AW := aw (t4 (List.mem_of_getElem? (i := 74) rfl)) rfl
theorem a_ml_L_17 : Cond.methodLink RL 17 yX9_table ∈ AW := aw (t4 (List.mem_of_getElem? (i := 164) rfl)) rfl
theorem a_im_yX9_table : Cond.instanceMethod yX9_table ∈ AW := aw (t4 (List.mem_of_getElem? (i := 165) rfl)) rfl
theorem a_se_yX9_table : Cond.selects RX9 yX9_table yX9_table ∈ AW := aw (t4 (List.mem_of_getElem? (i := 166) rfl)) rfl
theorem a_co_yX9_table : Cond.code yX9_table cX9_table 4 (some .int) ∈ AW := aw (t4 (List.mem_of_getElem? (i := 167) rfl)) rfl
theorem a_cl_X9_196 : Cond.constantLong RX9 196 (6) ∈ AW := aw (t4 (List.mem_of_getElem? (i := 168) rfl)) rfl
theorem a_ml_X9_104 : Cond.methodLink RX9 104 yX9_in ∈ AW := aw (t4 (List.mem_of_getElem? (i := 169) rfl)) rfl
theorem a_st_yX9_in : Cond.static yX9_in ∈ AW := aw (t4 (List.mem_of_getElem? (i := 170) rfl)) rfl
theorem a_co_yX9_in : Cond.code yX9_in cX9_in 6 (some .boolean) ∈ AW := aw (t4 (List.mem_of_getElem? (i := 171) rfl)) rfl
theorem a_ml_X9_198 : Cond.methodLink RX9 198 yX9_told ∈ AW := aw (t4 (List.mem_of_getElem? (i := 172) rfl)) rfl
theorem a_im_yX9_told : Cond.instanceMethod yX9_told ∈ AW := aw (t4 (List.mem_of_getElem? (i := 174) rfl)) rfl
theorem a_co_yX9_told : Cond.code yX9_told cX9_told 1 (some .int) ∈ AW := aw (t4 (List.mem_of_getElem? (i := 175) rfl)) rfl
theorem a_ml_L_21 : Cond.methodLink RL 21 yX9_place ∈ AW := aw (t4 (List.mem_of_getElem? (i := 176) rfl)) rfl
theorem a_im_yX9_place : Cond.instanceMethod yX9_place ∈ AW := aw (t4 (List.mem_of_getElem? (i := 177) rfl)) rfl
theorem a_se_yX9_place : Cond.selects RX9 yX9_place yX9_place ∈ AW := aw (t4 (List.mem_of_getElem? (i := 178) rfl)) rfl
theorem a_co_yX9_place : Cond.code yX9_place cX9_place 3 (some .int) ∈ AW := aw (t4 (List.mem_of_getElem? (i := 179) rfl)) rfl
theorem a_ml_X9_202 : Cond.methodLink RX9 202 yX9_isPlace ∈ AW := aw (t4 (List.mem_of_getElem? (i := 180) rfl)) rfl
theorem a_st_yX9_isPlace : Cond.static yX9_isPlace ∈ AW := aw (t4 (List.mem_of_getElem? (i := 181) rfl)) rfl
theorem a_co_yX9_isPlace : Cond.code yX9_isPlace cX9_isPlace 4 (some .boolean) ∈ AW := aw (t4 (List.mem_of_getElem? (i := 182) rfl)) rfl
theorem a_cl_X9_100 : Cond.constantLong RX9 100 (-999) ∈ AW := aw (t4 (List.mem_of_getElem? (i := 183) rfl)) rfl
theorem a_cl_X9_102 : Cond.constantLong RX9 102 (999) ∈ AW := aw (t4 (List.mem_of_getElem? (i := 184) rfl)) rfl
theorem a_ml_X9_173 : Cond.methodLink RX9 173 yX9_sortOf ∈ AW := aw (t4 (List.mem_of_getElem? (i := 185) rfl)) rfl
theorem a_im_yX9_sortOf : Cond.instanceMethod yX9_sortOf ∈ AW := aw (t4 (List.mem_of_getElem? (i := 187) rfl)) rfl
theorem a_co_yX9_sortOf : Cond.code yX9_sortOf cX9_sortOf 3 (some .int) ∈ AW := aw (t4 (List.mem_of_getElem? (i := 188) rfl)) rfl
theorem a_ml_X9_131 : Cond.methodLink RX9 131 Lib.Math.abs.name ∈ AW := aw (t4 (List.mem_of_getElem? (i := 189) rfl)) rfl
theorem a_ml_X9_137 : Cond.methodLink RX9 137 yX9_lower ∈ AW := aw (t4 (List.mem_of_getElem? (i := 190) rfl)) rfl
theorem a_im_yX9_lower : Cond.instanceMethod yX9_lower ∈ AW := aw (t4 (List.mem_of_getElem? (i := 192) rfl)) rfl
theorem a_co_yX9_lower : Cond.code yX9_lower cX9_lower 5 none ∈ AW := aw (t4 (List.mem_of_getElem? (i := 193) rfl)) rfl
theorem a_ml_X9_119 : Cond.methodLink RX9 119 yX9_isLetter ∈ AW := aw (t4 (List.mem_of_getElem? (i := 194) rfl)) rfl
theorem a_im_yX9_isLetter : Cond.instanceMethod yX9_isLetter ∈ AW := aw (t4 (List.mem_of_getElem? (i := 196) rfl)) rfl
theorem a_co_yX9_isLetter : Cond.code yX9_isLetter cX9_isLetter 1 (some .boolean) ∈ AW := aw (t4 (List.mem_of_getElem? (i := 197) rfl)) rfl
theorem a_ml_X9_127 : Cond.methodLink RX9 127 yX9_coatOf ∈ AW := aw (t4 (List.mem_of_getElem? (i := 198) rfl)) rfl
theorem a_im_yX9_coatOf : Cond.instanceMethod yX9_coatOf ∈ AW := aw (t4 (List.mem_of_getElem? (i := 200) rfl)) rfl
theorem a_co_yX9_coatOf : Cond.code yX9_coatOf cX9_coatOf 4 (some .int) ∈ AW := aw (t4 (List.mem_of_getElem? (i := 201) rfl)) rfl
theorem a_ml_L_26 : Cond.methodLink RL 26 yX9_carry ∈ AW := aw (t4 (List.mem_of_getElem? (i := 202) rfl)) rfl
theorem a_im_yX9_carry : Cond.instanceMethod yX9_carry ∈ AW := aw (t4 (List.mem_of_getElem? (i := 203) rfl)) rfl
theorem a_se_yX9_carry : Cond.selects RX9 yX9_carry yX9_carry ∈ AW := aw (t4 (List.mem_of_getElem? (i := 204) rfl)) rfl
theorem a_co_yX9_carry : Cond.code yX9_carry cX9_carry 2 (some .int) ∈ AW := aw (t4 (List.mem_of_getElem? (i := 205) rfl)) rfl
theorem a_ml_X9_206 : Cond.methodLink RX9 206 yX9_isSide ∈ AW := aw (t4 (List.mem_of_getElem? (i := 206) rfl)) rfl
theorem a_st_yX9_isSide : Cond.static yX9_isSide ∈ AW := aw (t4 (List.mem_of_getElem? (i := 207) rfl)) rfl
theorem a_co_yX9_isSide : Cond.code yX9_isSide cX9_isSide 1 (some .boolean) ∈ AW := aw (t4 (List.mem_of_getElem? (i := 208) rfl)) rfl
theorem a_ml_X9_210 : Cond.methodLink RX9 210 yX9_carries ∈ AW := aw (t4 (List.mem_of_getElem? (i := 209) rfl)) rfl
theorem a_im_yX9_carries : Cond.instanceMethod yX9_carries ∈ AW := aw (t4 (List.mem_of_getElem? (i := 211) rfl)) rfl
theorem a_co_yX9_carries : Cond.code yX9_carries cX9_carries 4 (some .boolean) ∈ AW := aw (t4 (List.mem_of_getElem? (i := 212) rfl)) rfl
theorem a_ml_L_31 : Cond.methodLink RL 31 yX9_note ∈ AW := aw (t4 (List.mem_of_getElem? (i := 213) rfl)) rfl
theorem a_im_yX9_note : Cond.instanceMethod yX9_note ∈ AW := aw (t4 (List.mem_of_getElem? (i := 214) rfl)) rfl
theorem a_se_yX9_note : Cond.selects RX9 yX9_note yX9_note ∈ AW := aw (t4 (List.mem_of_getElem? (i := 215) rfl)) rfl
theorem a_co_yX9_note : Cond.code yX9_note cX9_note 2 (some .int) ∈ AW := aw (t4 (List.mem_of_getElem? (i := 216) rfl)) rfl
theorem a_ml_L_35 : Cond.methodLink RL 35 yX9_wipe ∈ AW := aw (t4 (List.mem_of_getElem? (i := 217) rfl)) rfl
theorem a_im_yX9_wipe : Cond.instanceMethod yX9_wipe ∈ AW := aw (t4 (List.mem_of_getElem? (i := 218) rfl)) rfl
theorem a_se_yX9_wipe : Cond.selects RX9 yX9_wipe yX9_wipe ∈ AW := aw (t4 (List.mem_of_getElem? (i := 219) rfl)) rfl
theorem a_co_yX9_wipe : Cond.code yX9_wipe cX9_wipe 2 (some .int) ∈ AW := aw (t4 (List.mem_of_getElem? (i := 220) rfl)) rfl
theorem a_ml_L_39 : Cond.methodLink RL 39 yX9_feed ∈ AW := aw (t4 (List.mem_of_getElem? (i := 221) rfl)) rfl
theorem a_im_yX9_feed : Cond.instanceMethod yX9_feed ∈ AW := aw (t4 (List.mem_of_getElem? (i := 222) rfl)) rfl
theorem a_se_yX9_feed : Cond.selects RX9 yX9_feed yX9_feed ∈ AW := aw (t4 (List.mem_of_getElem? (i := 223) rfl)) rfl
theorem a_co_yX9_feed : Cond.code yX9_feed cX9_feed 2 (some .int) ∈ AW := aw (t4 (List.mem_of_getElem? (i := 224) rfl)) rfl
theorem a_cl_X9_216 : Cond.constantLong RX9 216 (127) ∈ AW := aw (t4 (List.mem_of_getElem? (i := 225) rfl)) rfl
theorem a_ml_L_43 : Cond.methodLink RL 43 yX9_read ∈ AW := aw (t4 (List.mem_of_getElem? (i := 226) rfl)) rfl
theorem a_im_yX9_read : Cond.instanceMethod yX9_read ∈ AW := aw (t4 (List.mem_of_getElem? (i := 227) rfl)) rfl
theorem a_se_yX9_read : Cond.selects RX9 yX9_read yX9_read ∈ AW := aw (t4 (List.mem_of_getElem? (i := 228) rfl)) rfl
theorem a_co_yX9_read : Cond.code yX9_read cX9_read 4 (some .int) ∈ AW := aw (t4 (List.mem_of_getElem? (i := 229) rfl)) rfl
theorem a_ml_X9_292 : Cond.methodLink RX9 292 yX9_takesAll ∈ AW := aw (t4 (List.mem_of_getElem? (i := 230) rfl)) rfl
theorem a_im_yX9_takesAll : Cond.instanceMethod yX9_takesAll ∈ AW := aw (t4 (List.mem_of_getElem? (i := 232) rfl)) rfl
theorem a_co_yX9_takesAll : Cond.code yX9_takesAll cX9_takesAll 1 (some .boolean) ∈ AW := aw (t4 (List.mem_of_getElem? (i := 233) rfl)) rfl
theorem a_ml_X9_276 : Cond.methodLink RX9 276 yX9_takesClause ∈ AW := aw (t4 (List.mem_of_getElem? (i := 234) rfl)) rfl
theorem a_im_yX9_takesClause : Cond.instanceMethod yX9_takesClause ∈ AW := aw (t4 (List.mem_of_getElem? (i := 236) rfl)) rfl
theorem a_co_yX9_takesClause : Cond.code yX9_takesClause cX9_takesClause 2 (some .boolean) ∈ AW := aw (t4 (List.mem_of_getElem? (i := 237) rfl)) rfl
theorem a_ml_X9_267 : Cond.methodLink RX9 267 yX9_takesWord ∈ AW := aw (t4 (List.mem_of_getElem? (i := 238) rfl)) rfl
theorem a_im_yX9_takesWord : Cond.instanceMethod yX9_takesWord ∈ AW := aw (t5 (List.mem_of_getElem? (i := 0) rfl)) rfl
theorem a_co_yX9_takesWord : Cond.code yX9_takesWord cX9_takesWord 3 (some .boolean) ∈ AW := aw (t5 (List.mem_of_getElem? (i := 1) rfl)) rfl
theorem a_ml_X9_245 : Cond.methodLink RX9 245 yX9_begun ∈ AW := aw (t5 (List.mem_of_getElem? (i := 2) rfl)) rfl
theorem a_im_yX9_begun : Cond.instanceMethod yX9_begun ∈ AW := aw (t5 (List.mem_of_getElem? (i := 4) rfl)) rfl
theorem a_co_yX9_begun : Cond.code yX9_begun cX9_begun 4 (some .int) ∈ AW := aw (t5 (List.mem_of_getElem? (i := 5) rfl)) rfl
theorem a_ml_X9_232 : Cond.methodLink RX9 232 yX9_wordOf ∈ AW := aw (t5 (List.mem_of_getElem? (i := 6) rfl)) rfl
theorem a_st_yX9_wordOf : Cond.static yX9_wordOf ∈ AW := aw (t5 (List.mem_of_getElem? (i := 7) rfl)) rfl
theorem a_co_yX9_wordOf : Cond.code yX9_wordOf cX9_wordOf 1 (some (.object "java/lang/String")) ∈ AW := aw (t5 (List.mem_of_getElem? (i := 8) rfl)) rfl
theorem a_ml_X9_270 : Cond.methodLink RX9 270 yX9_takesTwo ∈ AW := aw (t5 (List.mem_of_getElem? (i := 16) rfl)) rfl
theorem a_im_yX9_takesTwo : Cond.instanceMethod yX9_takesTwo ∈ AW := aw (t5 (List.mem_of_getElem? (i := 18) rfl)) rfl
theorem a_co_yX9_takesTwo : Cond.code yX9_takesTwo cX9_takesTwo 2 (some .boolean) ∈ AW := aw (t5 (List.mem_of_getElem? (i := 19) rfl)) rfl
theorem a_ml_X9_264 : Cond.methodLink RX9 264 yX9_takesNumber ∈ AW := aw (t5 (List.mem_of_getElem? (i := 20) rfl)) rfl
theorem a_im_yX9_takesNumber : Cond.instanceMethod yX9_takesNumber ∈ AW := aw (t5 (List.mem_of_getElem? (i := 22) rfl)) rfl
theorem a_co_yX9_takesNumber : Cond.code yX9_takesNumber cX9_takesNumber 3 (some .boolean) ∈ AW := aw (t5 (List.mem_of_getElem? (i := 23) rfl)) rfl
theorem a_ml_X9_258 : Cond.methodLink RX9 258 yX9_takesBlank ∈ AW := aw (t5 (List.mem_of_getElem? (i := 24) rfl)) rfl
theorem a_im_yX9_takesBlank : Cond.instanceMethod yX9_takesBlank ∈ AW := aw (t5 (List.mem_of_getElem? (i := 26) rfl)) rfl
theorem a_co_yX9_takesBlank : Cond.code yX9_takesBlank cX9_takesBlank 1 (some .boolean) ∈ AW := aw (t5 (List.mem_of_getElem? (i := 27) rfl)) rfl
theorem a_ml_X9_251 : Cond.methodLink RX9 251 yX9_isAt ∈ AW := aw (t5 (List.mem_of_getElem? (i := 28) rfl)) rfl
theorem a_im_yX9_isAt : Cond.instanceMethod yX9_isAt ∈ AW := aw (t5 (List.mem_of_getElem? (i := 30) rfl)) rfl
theorem a_co_yX9_isAt : Cond.code yX9_isAt cX9_isAt 3 (some .boolean) ∈ AW := aw (t5 (List.mem_of_getElem? (i := 31) rfl)) rfl
theorem a_ml_X9_261 : Cond.methodLink RX9 261 yX9_takesDigits ∈ AW := aw (t5 (List.mem_of_getElem? (i := 32) rfl)) rfl
theorem a_im_yX9_takesDigits : Cond.instanceMethod yX9_takesDigits ∈ AW := aw (t5 (List.mem_of_getElem? (i := 34) rfl)) rfl
theorem a_co_yX9_takesDigits : Cond.code yX9_takesDigits cX9_takesDigits 3 (some .boolean) ∈ AW := aw (t5 (List.mem_of_getElem? (i := 35) rfl)) rfl
theorem a_ml_X9_273 : Cond.methodLink RX9 273 yX9_takesSigns ∈ AW := aw (t5 (List.mem_of_getElem? (i := 36) rfl)) rfl
theorem a_im_yX9_takesSigns : Cond.instanceMethod yX9_takesSigns ∈ AW := aw (t5 (List.mem_of_getElem? (i := 38) rfl)) rfl
theorem a_co_yX9_takesSigns : Cond.code yX9_takesSigns cX9_takesSigns 2 (some .boolean) ∈ AW := aw (t5 (List.mem_of_getElem? (i := 39) rfl)) rfl
theorem a_ml_X9_295 : Cond.methodLink RX9 295 yX9_isDone ∈ AW := aw (t5 (List.mem_of_getElem? (i := 40) rfl)) rfl
theorem a_im_yX9_isDone : Cond.instanceMethod yX9_isDone ∈ AW := aw (t5 (List.mem_of_getElem? (i := 42) rfl)) rfl
theorem a_co_yX9_isDone : Cond.code yX9_isDone cX9_isDone 2 (some .boolean) ∈ AW := aw (t5 (List.mem_of_getElem? (i := 43) rfl)) rfl
theorem a_ml_X9_279 : Cond.methodLink RX9 279 yX9_table ∈ AW := aw (t5 (List.mem_of_getElem? (i := 44) rfl)) rfl
theorem a_ml_X9_281 : Cond.methodLink RX9 281 yX9_place ∈ AW := aw (t5 (List.mem_of_getElem? (i := 45) rfl)) rfl
theorem a_ml_X9_284 : Cond.methodLink RX9 284 yX9_isCarried ∈ AW := aw (t5 (List.mem_of_getElem? (i := 46) rfl)) rfl
theorem a_im_yX9_isCarried : Cond.instanceMethod yX9_isCarried ∈ AW := aw (t5 (List.mem_of_getElem? (i := 48) rfl)) rfl
theorem a_co_yX9_isCarried : Cond.code yX9_isCarried cX9_isCarried 6 (some .boolean) ∈ AW := aw (t5 (List.mem_of_getElem? (i := 49) rfl)) rfl
theorem a_ml_X9_288 : Cond.methodLink RX9 288 yX9_note ∈ AW := aw (t5 (List.mem_of_getElem? (i := 50) rfl)) rfl
theorem a_ml_X9_290 : Cond.methodLink RX9 290 yX9_wipe ∈ AW := aw (t5 (List.mem_of_getElem? (i := 51) rfl)) rfl
theorem a_ml_L_47 : Cond.methodLink RL 47 yX9_told_ ∈ AW := aw (t5 (List.mem_of_getElem? (i := 52) rfl)) rfl
theorem a_im_yX9_told_ : Cond.instanceMethod yX9_told_ ∈ AW := aw (t5 (List.mem_of_getElem? (i := 53) rfl)) rfl
theorem a_se_yX9_told_ : Cond.selects RX9 yX9_told_ yX9_told_ ∈ AW := aw (t5 (List.mem_of_getElem? (i := 54) rfl)) rfl
theorem a_co_yX9_told_ : Cond.code yX9_told_ cX9_told_ 2 (some .int) ∈ AW := aw (t5 (List.mem_of_getElem? (i := 55) rfl)) rfl
theorem a_ml_X9_298 : Cond.methodLink RX9 298 yX9_kind ∈ AW := aw (t5 (List.mem_of_getElem? (i := 56) rfl)) rfl
theorem a_im_yX9_kind : Cond.instanceMethod yX9_kind ∈ AW := aw (t5 (List.mem_of_getElem? (i := 58) rfl)) rfl
theorem a_co_yX9_kind : Cond.code yX9_kind cX9_kind 1 (some .int) ∈ AW := aw (t5 (List.mem_of_getElem? (i := 59) rfl)) rfl
theorem a_ml_L_51 : Cond.methodLink RL 51 yX9_noted ∈ AW := aw (t5 (List.mem_of_getElem? (i := 60) rfl)) rfl
theorem a_im_yX9_noted : Cond.instanceMethod yX9_noted ∈ AW := aw (t5 (List.mem_of_getElem? (i := 61) rfl)) rfl
theorem a_se_yX9_noted : Cond.selects RX9 yX9_noted yX9_noted ∈ AW := aw (t5 (List.mem_of_getElem? (i := 62) rfl)) rfl
theorem a_co_yX9_noted : Cond.code yX9_noted cX9_noted 3 (some .int) ∈ AW := aw (t5 (List.mem_of_getElem? (i := 63) rfl)) rfl
theorem a_cl_X9_108 : Cond.constantLong RX9 108 (2) ∈ AW := aw (t5 (List.mem_of_getElem? (i := 64) rfl)) rfl
theorem a_ml_L_56 : Cond.methodLink RL 56 yX9_norm ∈ AW := aw (t5 (List.mem_of_getElem? (i := 65) rfl)) rfl
theorem a_im_yX9_norm : Cond.instanceMethod yX9_norm ∈ AW := aw (t5 (List.mem_of_getElem? (i := 66) rfl)) rfl
theorem a_se_yX9_norm : Cond.selects RX9 yX9_norm yX9_norm ∈ AW := aw (t5 (List.mem_of_getElem? (i := 67) rfl)) rfl
theorem a_co_yX9_norm : Cond.code yX9_norm cX9_norm 3 (some .long) ∈ AW := aw (t5 (List.mem_of_getElem? (i := 68) rfl)) rfl
theorem a_ml_X9_170 : Cond.methodLink RX9 170 yX9_normOf ∈ AW := aw (t5 (List.mem_of_getElem? (i := 69) rfl)) rfl
theorem a_im_yX9_normOf : Cond.instanceMethod yX9_normOf ∈ AW := aw (t5 (List.mem_of_getElem? (i := 71) rfl)) rfl
theorem a_co_yX9_normOf : Cond.code yX9_normOf cX9_normOf 5 (some .long) ∈ AW := aw (t5 (List.mem_of_getElem? (i := 72) rfl)) rfl
theorem a_cl_X9_301 : Cond.constantLong RX9 301 (-9223372036854775808) ∈ AW := aw (t5 (List.mem_of_getElem? (i := 73) rfl)) rfl
theorem a_ml_L_61 : Cond.methodLink RL 61 yX9_product ∈ AW := aw (t5 (List.mem_of_getElem? (i := 74) rfl)) rfl
theorem a_im_yX9_product : Cond.instanceMethod yX9_product ∈ AW := aw (t5 (List.mem_of_getElem? (i := 75) rfl)) rfl
theorem a_se_yX9_product : Cond.selects RX9 yX9_product yX9_product ∈ AW := aw (t5 (List.mem_of_getElem? (i := 76) rfl)) rfl
theorem a_co_yX9_product : Cond.code yX9_product cX9_product 5 (some .long) ∈ AW := aw (t5 (List.mem_of_getElem? (i := 77) rfl)) rfl
theorem a_ml_X9_166 : Cond.methodLink RX9 166 yX9_productOf ∈ AW := aw (t5 (List.mem_of_getElem? (i := 78) rfl)) rfl
theorem a_im_yX9_productOf : Cond.instanceMethod yX9_productOf ∈ AW := aw (t5 (List.mem_of_getElem? (i := 80) rfl)) rfl
theorem a_co_yX9_productOf : Cond.code yX9_productOf cX9_productOf 9 (some .long) ∈ AW := aw (t5 (List.mem_of_getElem? (i := 81) rfl)) rfl
theorem a_ml_L_66 : Cond.methodLink RL 66 yX9_coat ∈ AW := aw (t5 (List.mem_of_getElem? (i := 82) rfl)) rfl
theorem a_im_yX9_coat : Cond.instanceMethod yX9_coat ∈ AW := aw (t5 (List.mem_of_getElem? (i := 83) rfl)) rfl
theorem a_se_yX9_coat : Cond.selects RX9 yX9_coat yX9_coat ∈ AW := aw (t5 (List.mem_of_getElem? (i := 84) rfl)) rfl
theorem a_co_yX9_coat : Cond.code yX9_coat cX9_coat 4 (some .int) ∈ AW := aw (t5 (List.mem_of_getElem? (i := 85) rfl)) rfl
theorem a_ml_L_70 : Cond.methodLink RL 70 yX9_sort ∈ AW := aw (t5 (List.mem_of_getElem? (i := 86) rfl)) rfl
theorem a_im_yX9_sort : Cond.instanceMethod yX9_sort ∈ AW := aw (t5 (List.mem_of_getElem? (i := 87) rfl)) rfl
theorem a_se_yX9_sort : Cond.selects RX9 yX9_sort yX9_sort ∈ AW := aw (t5 (List.mem_of_getElem? (i := 88) rfl)) rfl
theorem a_co_yX9_sort : Cond.code yX9_sort cX9_sort 3 (some .int) ∈ AW := aw (t5 (List.mem_of_getElem? (i := 89) rfl)) rfl
theorem a_ml_L_74 : Cond.methodLink RL 74 yX9_lowered ∈ AW := aw (t5 (List.mem_of_getElem? (i := 90) rfl)) rfl
theorem a_im_yX9_lowered : Cond.instanceMethod yX9_lowered ∈ AW := aw (t5 (List.mem_of_getElem? (i := 91) rfl)) rfl
theorem a_se_yX9_lowered : Cond.selects RX9 yX9_lowered yX9_lowered ∈ AW := aw (t5 (List.mem_of_getElem? (i := 92) rfl)) rfl
theorem a_co_yX9_lowered : Cond.code yX9_lowered cX9_lowered 4 (some .int) ∈ AW := aw (t5 (List.mem_of_getElem? (i := 93) rfl)) rfl
theorem a_ml_L_79 : Cond.methodLink RL 79 yX9_string ∈ AW := aw (t5 (List.mem_of_getElem? (i := 94) rfl)) rfl
theorem a_im_yX9_string : Cond.instanceMethod yX9_string ∈ AW := aw (t5 (List.mem_of_getElem? (i := 95) rfl)) rfl
theorem a_se_yX9_string : Cond.selects RX9 yX9_string yX9_string ∈ AW := aw (t5 (List.mem_of_getElem? (i := 96) rfl)) rfl
theorem a_co_yX9_string : Cond.code yX9_string cX9_string 5 (some .int) ∈ AW := aw (t5 (List.mem_of_getElem? (i := 97) rfl)) rfl
theorem a_cl_X9_303 : Cond.constantLong RX9 303 (-99) ∈ AW := aw (t5 (List.mem_of_getElem? (i := 98) rfl)) rfl
theorem a_cl_X9_305 : Cond.constantLong RX9 305 (99) ∈ AW := aw (t5 (List.mem_of_getElem? (i := 99) rfl)) rfl
theorem a_ml_X9_307 : Cond.methodLink RX9 307 yX9_isOwn ∈ AW := aw (t5 (List.mem_of_getElem? (i := 100) rfl)) rfl
theorem a_st_yX9_isOwn : Cond.static yX9_isOwn ∈ AW := aw (t5 (List.mem_of_getElem? (i := 101) rfl)) rfl
theorem a_co_yX9_isOwn : Cond.code yX9_isOwn cX9_isOwn 3 (some .boolean) ∈ AW := aw (t5 (List.mem_of_getElem? (i := 102) rfl)) rfl
theorem a_ml_X9_311 : Cond.methodLink RX9 311 yX9_along ∈ AW := aw (t5 (List.mem_of_getElem? (i := 103) rfl)) rfl
theorem a_im_yX9_along : Cond.instanceMethod yX9_along ∈ AW := aw (t5 (List.mem_of_getElem? (i := 105) rfl)) rfl
theorem a_co_yX9_along : Cond.code yX9_along cX9_along 8 (some .int) ∈ AW := aw (t5 (List.mem_of_getElem? (i := 106) rfl)) rfl
theorem a_ml_L_83 : Cond.methodLink RL 83 yX9_counted ∈ AW := aw (t5 (List.mem_of_getElem? (i := 107) rfl)) rfl
theorem a_im_yX9_counted : Cond.instanceMethod yX9_counted ∈ AW := aw (t5 (List.mem_of_getElem? (i := 108) rfl)) rfl
theorem a_se_yX9_counted : Cond.selects RX9 yX9_counted yX9_counted ∈ AW := aw (t5 (List.mem_of_getElem? (i := 109) rfl)) rfl
theorem a_co_yX9_counted : Cond.code yX9_counted cX9_counted 3 (some .int) ∈ AW := aw (t5 (List.mem_of_getElem? (i := 110) rfl)) rfl
theorem a_ml_X9_315 : Cond.methodLink RX9 315 yX9_isLow ∈ AW := aw (t5 (List.mem_of_getElem? (i := 111) rfl)) rfl
theorem a_st_yX9_isLow : Cond.static yX9_isLow ∈ AW := aw (t5 (List.mem_of_getElem? (i := 112) rfl)) rfl
theorem a_co_yX9_isLow : Cond.code yX9_isLow cX9_isLow 3 (some .boolean) ∈ AW := aw (t5 (List.mem_of_getElem? (i := 113) rfl)) rfl
theorem a_cl_X9_194 : Cond.constantLong RX9 194 (12) ∈ AW := aw (t5 (List.mem_of_getElem? (i := 114) rfl)) rfl
theorem a_ml_X9_318 : Cond.methodLink RX9 318 yX9_countOf ∈ AW := aw (t5 (List.mem_of_getElem? (i := 115) rfl)) rfl
theorem a_im_yX9_countOf : Cond.instanceMethod yX9_countOf ∈ AW := aw (t5 (List.mem_of_getElem? (i := 117) rfl)) rfl
theorem a_co_yX9_countOf : Cond.code yX9_countOf cX9_countOf 3 (some .int) ∈ AW := aw (t5 (List.mem_of_getElem? (i := 118) rfl)) rfl
theorem a_ml_X9_191 : Cond.methodLink RX9 191 yX9_layCounts ∈ AW := aw (t5 (List.mem_of_getElem? (i := 119) rfl)) rfl
theorem a_im_yX9_layCounts : Cond.instanceMethod yX9_layCounts ∈ AW := aw (t5 (List.mem_of_getElem? (i := 121) rfl)) rfl
theorem a_co_yX9_layCounts : Cond.code yX9_layCounts cX9_layCounts 3 none ∈ AW := aw (t5 (List.mem_of_getElem? (i := 122) rfl)) rfl
theorem a_ml_X9_188 : Cond.methodLink RX9 188 yX9_works ∈ AW := aw (t5 (List.mem_of_getElem? (i := 123) rfl)) rfl
theorem a_im_yX9_works : Cond.instanceMethod yX9_works ∈ AW := aw (t5 (List.mem_of_getElem? (i := 125) rfl)) rfl
theorem a_co_yX9_works : Cond.code yX9_works cX9_works 6 none ∈ AW := aw (t5 (List.mem_of_getElem? (i := 126) rfl)) rfl
theorem a_ml_X9_159 : Cond.methodLink RX9 159 yX9_at ∈ AW := aw (t5 (List.mem_of_getElem? (i := 127) rfl)) rfl
theorem a_st_yX9_at : Cond.static yX9_at ∈ AW := aw (t5 (List.mem_of_getElem? (i := 128) rfl)) rfl
theorem a_co_yX9_at : Cond.code yX9_at cX9_at 2 (some .int) ∈ AW := aw (t5 (List.mem_of_getElem? (i := 129) rfl)) rfl
theorem a_ml_X9_155 : Cond.methodLink RX9 155 yX9_lay ∈ AW := aw (t5 (List.mem_of_getElem? (i := 130) rfl)) rfl
theorem a_im_yX9_lay : Cond.instanceMethod yX9_lay ∈ AW := aw (t5 (List.mem_of_getElem? (i := 132) rfl)) rfl
theorem a_co_yX9_lay : Cond.code yX9_lay cX9_lay 9 none ∈ AW := aw (t5 (List.mem_of_getElem? (i := 133) rfl)) rfl
theorem a_ml_X9_145 : Cond.methodLink RX9 145 Lib.MathLoose.abs_long.x ∈ AW := aw (t5 (List.mem_of_getElem? (i := 134) rfl)) rfl
theorem a_ml_X9_141 : Cond.methodLink RX9 141 yX9_common ∈ AW := aw (t5 (List.mem_of_getElem? (i := 135) rfl)) rfl
theorem a_st_yX9_common : Cond.static yX9_common ∈ AW := aw (t5 (List.mem_of_getElem? (i := 136) rfl)) rfl
theorem a_co_yX9_common : Cond.code yX9_common cX9_common 4 (some .long) ∈ AW := aw (t5 (List.mem_of_getElem? (i := 137) rfl)) rfl
theorem a_ml_X9_176 : Cond.methodLink RX9 176 yX9_layParts ∈ AW := aw (t5 (List.mem_of_getElem? (i := 138) rfl)) rfl
theorem a_im_yX9_layParts : Cond.instanceMethod yX9_layParts ∈ AW := aw (t5 (List.mem_of_getElem? (i := 140) rfl)) rfl
theorem a_co_yX9_layParts : Cond.code yX9_layParts cX9_layParts 4 none ∈ AW := aw (t5 (List.mem_of_getElem? (i := 141) rfl)) rfl
theorem a_ml_X9_163 : Cond.methodLink RX9 163 yX9_adds ∈ AW := aw (t5 (List.mem_of_getElem? (i := 142) rfl)) rfl
theorem a_im_yX9_adds : Cond.instanceMethod yX9_adds ∈ AW := aw (t5 (List.mem_of_getElem? (i := 144) rfl)) rfl
theorem a_co_yX9_adds : Cond.code yX9_adds cX9_adds 5 none ∈ AW := aw (t5 (List.mem_of_getElem? (i := 145) rfl)) rfl
theorem a_ml_X9_179 : Cond.methodLink RX9 179 yX9_layPairs ∈ AW := aw (t5 (List.mem_of_getElem? (i := 146) rfl)) rfl
theorem a_im_yX9_layPairs : Cond.instanceMethod yX9_layPairs ∈ AW := aw (t5 (List.mem_of_getElem? (i := 148) rfl)) rfl
theorem a_co_yX9_layPairs : Cond.code yX9_layPairs cX9_layPairs 13 none ∈ AW := aw (t5 (List.mem_of_getElem? (i := 149) rfl)) rfl
theorem a_ml_L_88 : Cond.methodLink RL 88 yX9_c ∈ AW := aw (t5 (List.mem_of_getElem? (i := 150) rfl)) rfl
theorem a_im_yX9_c : Cond.instanceMethod yX9_c ∈ AW := aw (t5 (List.mem_of_getElem? (i := 151) rfl)) rfl
theorem a_se_yX9_c : Cond.selects RX9 yX9_c yX9_c ∈ AW := aw (t5 (List.mem_of_getElem? (i := 152) rfl)) rfl
theorem a_co_yX9_c : Cond.code yX9_c cX9_c 4 (some .long) ∈ AW := aw (t5 (List.mem_of_getElem? (i := 153) rfl)) rfl
theorem a_ml_L_92 : Cond.methodLink RL 92 yX9_level ∈ AW := aw (t5 (List.mem_of_getElem? (i := 154) rfl)) rfl
theorem a_im_yX9_level : Cond.instanceMethod yX9_level ∈ AW := aw (t5 (List.mem_of_getElem? (i := 155) rfl)) rfl
theorem a_se_yX9_level : Cond.selects RX9 yX9_level yX9_level ∈ AW := aw (t5 (List.mem_of_getElem? (i := 156) rfl)) rfl
theorem a_co_yX9_level : Cond.code yX9_level cX9_level 3 (some .int) ∈ AW := aw (t5 (List.mem_of_getElem? (i := 157) rfl)) rfl
theorem a_ml_X9_321 : Cond.methodLink RX9 321 yX9_levelOf ∈ AW := aw (t5 (List.mem_of_getElem? (i := 158) rfl)) rfl
theorem a_im_yX9_levelOf : Cond.instanceMethod yX9_levelOf ∈ AW := aw (t5 (List.mem_of_getElem? (i := 160) rfl)) rfl
theorem a_co_yX9_levelOf : Cond.code yX9_levelOf cX9_levelOf 5 (some .int) ∈ AW := aw (t5 (List.mem_of_getElem? (i := 161) rfl)) rfl
theorem a_ml_L_96 : Cond.methodLink RL 96 yX9_made ∈ AW := aw (t5 (List.mem_of_getElem? (i := 162) rfl)) rfl
theorem a_im_yX9_made : Cond.instanceMethod yX9_made ∈ AW := aw (t5 (List.mem_of_getElem? (i := 163) rfl)) rfl
theorem a_se_yX9_made : Cond.selects RX9 yX9_made yX9_made ∈ AW := aw (t5 (List.mem_of_getElem? (i := 164) rfl)) rfl
theorem a_co_yX9_made : Cond.code yX9_made cX9_made 6 (some .long) ∈ AW := aw (t5 (List.mem_of_getElem? (i := 165) rfl)) rfl
theorem a_ml_X9_325 : Cond.methodLink RX9 325 yX9_multiplies ∈ AW := aw (t5 (List.mem_of_getElem? (i := 166) rfl)) rfl
theorem a_im_yX9_multiplies : Cond.instanceMethod yX9_multiplies ∈ AW := aw (t5 (List.mem_of_getElem? (i := 168) rfl)) rfl
theorem a_co_yX9_multiplies : Cond.code yX9_multiplies cX9_multiplies 6 none ∈ AW := aw (t5 (List.mem_of_getElem? (i := 169) rfl)) rfl
theorem a_ml_L_100 : Cond.methodLink RL 100 yX9_signed ∈ AW := aw (t5 (List.mem_of_getElem? (i := 170) rfl)) rfl
theorem a_im_yX9_signed : Cond.instanceMethod yX9_signed ∈ AW := aw (t5 (List.mem_of_getElem? (i := 171) rfl)) rfl
theorem a_se_yX9_signed : Cond.selects RX9 yX9_signed yX9_signed ∈ AW := aw (t5 (List.mem_of_getElem? (i := 172) rfl)) rfl
theorem a_co_yX9_signed : Cond.code yX9_signed cX9_signed 4 (some .int) ∈ AW := aw (t5 (List.mem_of_getElem? (i := 173) rfl)) rfl
theorem a_ml_X9_330 : Cond.methodLink RX9 330 yX9_signedBy ∈ AW := aw (t5 (List.mem_of_getElem? (i := 174) rfl)) rfl
theorem a_im_yX9_signedBy : Cond.instanceMethod yX9_signedBy ∈ AW := aw (t5 (List.mem_of_getElem? (i := 176) rfl)) rfl
theorem a_co_yX9_signedBy : Cond.code yX9_signedBy cX9_signedBy 9 (some .int) ∈ AW := aw (t5 (List.mem_of_getElem? (i := 177) rfl)) rfl
theorem a_cl_X9_328 : Cond.constantLong RX9 328 (1000000) ∈ AW := aw (t5 (List.mem_of_getElem? (i := 178) rfl)) rfl
theorem a_ml_X9_333 : Cond.methodLink RX9 333 Lib.Math.min.name ∈ AW := aw (t5 (List.mem_of_getElem? (i := 179) rfl)) rfl
theorem a_st_Lib_Math_min_name : Cond.static Lib.Math.min.name ∈ AW := aw (t5 (List.mem_of_getElem? (i := 180) rfl)) rfl
theorem a_co_Lib_Math_min_name : Cond.code Lib.Math.min.name Lib.Math.min.code 2 (some .int) ∈ AW := aw (t5 (List.mem_of_getElem? (i := 181) rfl)) rfl
theorem a_ml_L_104 : Cond.methodLink RL 104 yX9_see ∈ AW := aw (t5 (List.mem_of_getElem? (i := 182) rfl)) rfl
theorem a_im_yX9_see : Cond.instanceMethod yX9_see ∈ AW := aw (t5 (List.mem_of_getElem? (i := 183) rfl)) rfl
theorem a_se_yX9_see : Cond.selects RX9 yX9_see yX9_see ∈ AW := aw (t5 (List.mem_of_getElem? (i := 184) rfl)) rfl
theorem a_co_yX9_see : Cond.code yX9_see cX9_see 4 (some .int) ∈ AW := aw (t5 (List.mem_of_getElem? (i := 185) rfl)) rfl
theorem a_cl_X9_339 : Cond.constantLong RX9 339 (-12) ∈ AW := aw (t5 (List.mem_of_getElem? (i := 186) rfl)) rfl
theorem a_ml_L_108 : Cond.methodLink RL 108 yX9_fits ∈ AW := aw (t5 (List.mem_of_getElem? (i := 187) rfl)) rfl
theorem a_im_yX9_fits : Cond.instanceMethod yX9_fits ∈ AW := aw (t5 (List.mem_of_getElem? (i := 188) rfl)) rfl
theorem a_se_yX9_fits : Cond.selects RX9 yX9_fits yX9_fits ∈ AW := aw (t5 (List.mem_of_getElem? (i := 189) rfl)) rfl
theorem a_co_yX9_fits : Cond.code yX9_fits cX9_fits 3 (some .int) ∈ AW := aw (t5 (List.mem_of_getElem? (i := 190) rfl)) rfl
theorem a_ml_X9_341 : Cond.methodLink RX9 341 yX9_isSo ∈ AW := aw (t5 (List.mem_of_getElem? (i := 191) rfl)) rfl
theorem a_im_yX9_isSo : Cond.instanceMethod yX9_isSo ∈ AW := aw (t5 (List.mem_of_getElem? (i := 193) rfl)) rfl
theorem a_co_yX9_isSo : Cond.code yX9_isSo cX9_isSo 2 (some .boolean) ∈ AW := aw (t5 (List.mem_of_getElem? (i := 194) rfl)) rfl
theorem a_ml_L_112 : Cond.methodLink RL 112 yX9_odds ∈ AW := aw (t5 (List.mem_of_getElem? (i := 195) rfl)) rfl
theorem a_im_yX9_odds : Cond.instanceMethod yX9_odds ∈ AW := aw (t5 (List.mem_of_getElem? (i := 196) rfl)) rfl
theorem a_se_yX9_odds : Cond.selects RX9 yX9_odds yX9_odds ∈ AW := aw (t5 (List.mem_of_getElem? (i := 197) rfl)) rfl
theorem a_co_yX9_odds : Cond.code yX9_odds cX9_odds 3 (some .long) ∈ AW := aw (t5 (List.mem_of_getElem? (i := 198) rfl)) rfl
theorem a_ml_X9_344 : Cond.methodLink RX9 344 yX9_lowest ∈ AW := aw (t5 (List.mem_of_getElem? (i := 199) rfl)) rfl
theorem a_im_yX9_lowest : Cond.instanceMethod yX9_lowest ∈ AW := aw (t5 (List.mem_of_getElem? (i := 201) rfl)) rfl
theorem a_co_yX9_lowest : Cond.code yX9_lowest cX9_lowest 4 (some .long) ∈ AW := aw (t5 (List.mem_of_getElem? (i := 202) rfl)) rfl
theorem a_ml_L_116 : Cond.methodLink RL 116 yX9_mean ∈ AW := aw (t5 (List.mem_of_getElem? (i := 203) rfl)) rfl
theorem a_im_yX9_mean : Cond.instanceMethod yX9_mean ∈ AW := aw (t5 (List.mem_of_getElem? (i := 204) rfl)) rfl
theorem a_se_yX9_mean : Cond.selects RX9 yX9_mean yX9_mean ∈ AW := aw (t5 (List.mem_of_getElem? (i := 205) rfl)) rfl
theorem a_co_yX9_mean : Cond.code yX9_mean cX9_mean 3 (some .long) ∈ AW := aw (t5 (List.mem_of_getElem? (i := 206) rfl)) rfl
theorem a_ml_L_120 : Cond.methodLink RL 120 yX9_event ∈ AW := aw (t5 (List.mem_of_getElem? (i := 207) rfl)) rfl
theorem a_im_yX9_event : Cond.instanceMethod yX9_event ∈ AW := aw (t5 (List.mem_of_getElem? (i := 208) rfl)) rfl
theorem a_se_yX9_event : Cond.selects RX9 yX9_event yX9_event ∈ AW := aw (t5 (List.mem_of_getElem? (i := 209) rfl)) rfl
theorem a_co_yX9_event : Cond.code yX9_event cX9_event 3 (some .int) ∈ AW := aw (t5 (List.mem_of_getElem? (i := 210) rfl)) rfl
theorem a_ml_L_125 : Cond.methodLink RL 125 yX9_after ∈ AW := aw (t5 (List.mem_of_getElem? (i := 211) rfl)) rfl
theorem a_im_yX9_after : Cond.instanceMethod yX9_after ∈ AW := aw (t5 (List.mem_of_getElem? (i := 212) rfl)) rfl
theorem a_se_yX9_after : Cond.selects RX9 yX9_after yX9_after ∈ AW := aw (t5 (List.mem_of_getElem? (i := 213) rfl)) rfl
theorem a_co_yX9_after : Cond.code yX9_after cX9_after 8 (some .long) ∈ AW := aw (t5 (List.mem_of_getElem? (i := 214) rfl)) rfl
theorem a_ml_X9_351 : Cond.methodLink RX9 351 yX9_happens ∈ AW := aw (t5 (List.mem_of_getElem? (i := 215) rfl)) rfl
theorem a_im_yX9_happens : Cond.instanceMethod yX9_happens ∈ AW := aw (t5 (List.mem_of_getElem? (i := 217) rfl)) rfl
theorem a_co_yX9_happens : Cond.code yX9_happens cX9_happens 4 none ∈ AW := aw (t5 (List.mem_of_getElem? (i := 218) rfl)) rfl
theorem a_ml_L_129 : Cond.methodLink RL 129 yX9_book ∈ AW := aw (t5 (List.mem_of_getElem? (i := 219) rfl)) rfl
theorem a_im_yX9_book : Cond.instanceMethod yX9_book ∈ AW := aw (t5 (List.mem_of_getElem? (i := 220) rfl)) rfl
theorem a_se_yX9_book : Cond.selects RX9 yX9_book yX9_book ∈ AW := aw (t5 (List.mem_of_getElem? (i := 221) rfl)) rfl
theorem a_co_yX9_book : Cond.code yX9_book cX9_book 4 (some .int) ∈ AW := aw (t5 (List.mem_of_getElem? (i := 222) rfl)) rfl
theorem a_ml_L_133 : Cond.methodLink RL 133 yX9_looked ∈ AW := aw (t5 (List.mem_of_getElem? (i := 223) rfl)) rfl
theorem a_im_yX9_looked : Cond.instanceMethod yX9_looked ∈ AW := aw (t5 (List.mem_of_getElem? (i := 224) rfl)) rfl
theorem a_se_yX9_looked : Cond.selects RX9 yX9_looked yX9_looked ∈ AW := aw (t5 (List.mem_of_getElem? (i := 225) rfl)) rfl
theorem a_co_yX9_looked : Cond.code yX9_looked cX9_looked 2 (some .int) ∈ AW := aw (t5 (List.mem_of_getElem? (i := 226) rfl)) rfl
theorem a_ml_L_137 : Cond.methodLink RL 137 yX9_judge ∈ AW := aw (t5 (List.mem_of_getElem? (i := 227) rfl)) rfl
theorem a_im_yX9_judge : Cond.instanceMethod yX9_judge ∈ AW := aw (t5 (List.mem_of_getElem? (i := 228) rfl)) rfl
theorem a_se_yX9_judge : Cond.selects RX9 yX9_judge yX9_judge ∈ AW := aw (t5 (List.mem_of_getElem? (i := 229) rfl)) rfl
theorem a_co_yX9_judge : Cond.code yX9_judge cX9_judge 4 (some .int) ∈ AW := aw (t5 (List.mem_of_getElem? (i := 230) rfl)) rfl
theorem a_ml_X9_357 : Cond.methodLink RX9 357 yX9_isTape ∈ AW := aw (t5 (List.mem_of_getElem? (i := 231) rfl)) rfl
theorem a_st_yX9_isTape : Cond.static yX9_isTape ∈ AW := aw (t5 (List.mem_of_getElem? (i := 232) rfl)) rfl
theorem a_co_yX9_isTape : Cond.code yX9_isTape cX9_isTape 1 (some .boolean) ∈ AW := aw (t5 (List.mem_of_getElem? (i := 233) rfl)) rfl
theorem a_cl_X9_373 : Cond.constantLong RX9 373 (5) ∈ AW := aw (t5 (List.mem_of_getElem? (i := 234) rfl)) rfl
theorem a_ml_L_141 : Cond.methodLink RL 141 yX9_image ∈ AW := aw (t5 (List.mem_of_getElem? (i := 235) rfl)) rfl
theorem a_im_yX9_image : Cond.instanceMethod yX9_image ∈ AW := aw (t5 (List.mem_of_getElem? (i := 236) rfl)) rfl
theorem a_se_yX9_image : Cond.selects RX9 yX9_image yX9_image ∈ AW := aw (t5 (List.mem_of_getElem? (i := 237) rfl)) rfl
theorem a_co_yX9_image : Cond.code yX9_image cX9_image 2 (some .int) ∈ AW := aw (t5 (List.mem_of_getElem? (i := 238) rfl)) rfl
theorem a_ml_X9_363 : Cond.methodLink RX9 363 yX9_rowOf ∈ AW := aw (t5 (List.mem_of_getElem? (i := 239) rfl)) rfl
theorem a_im_yX9_rowOf : Cond.instanceMethod yX9_rowOf ∈ AW := aw (t6 (List.mem_of_getElem? (i := 1) rfl)) rfl
theorem a_co_yX9_rowOf : Cond.code yX9_rowOf cX9_rowOf 2 (some (.array .int)) ∈ AW := aw (t6 (List.mem_of_getElem? (i := 2) rfl)) rfl
theorem a_ml_X9_367 : Cond.methodLink RX9 367 arraycopyName ∈ AW := aw (t6 (List.mem_of_getElem? (i := 3) rfl)) rfl
theorem a_ml_L_145 : Cond.methodLink RL 145 yX9_undo ∈ AW := aw (t6 (List.mem_of_getElem? (i := 4) rfl)) rfl
theorem a_im_yX9_undo : Cond.instanceMethod yX9_undo ∈ AW := aw (t6 (List.mem_of_getElem? (i := 5) rfl)) rfl
theorem a_se_yX9_undo : Cond.selects RX9 yX9_undo yX9_undo ∈ AW := aw (t6 (List.mem_of_getElem? (i := 6) rfl)) rfl
theorem a_co_yX9_undo : Cond.code yX9_undo cX9_undo 2 (some .int) ∈ AW := aw (t6 (List.mem_of_getElem? (i := 7) rfl)) rfl
theorem a_ml_L_149 : Cond.methodLink RL 149 yX9_count ∈ AW := aw (t6 (List.mem_of_getElem? (i := 8) rfl)) rfl
theorem a_im_yX9_count : Cond.instanceMethod yX9_count ∈ AW := aw (t6 (List.mem_of_getElem? (i := 9) rfl)) rfl
theorem a_se_yX9_count : Cond.selects RX9 yX9_count yX9_count ∈ AW := aw (t6 (List.mem_of_getElem? (i := 10) rfl)) rfl
theorem a_co_yX9_count : Cond.code yX9_count cX9_count 2 (some .int) ∈ AW := aw (t6 (List.mem_of_getElem? (i := 11) rfl)) rfl
theorem a_ml_L_153 : Cond.methodLink RL 153 yX9_tape ∈ AW := aw (t6 (List.mem_of_getElem? (i := 12) rfl)) rfl
theorem a_im_yX9_tape : Cond.instanceMethod yX9_tape ∈ AW := aw (t6 (List.mem_of_getElem? (i := 13) rfl)) rfl
theorem a_se_yX9_tape : Cond.selects RX9 yX9_tape yX9_tape ∈ AW := aw (t6 (List.mem_of_getElem? (i := 14) rfl)) rfl
theorem a_co_yX9_tape : Cond.code yX9_tape cX9_tape 5 (some .int) ∈ AW := aw (t6 (List.mem_of_getElem? (i := 15) rfl)) rfl
theorem a_cl_X9_375 : Cond.constantLong RX9 375 (-1) ∈ AW := aw (t6 (List.mem_of_getElem? (i := 16) rfl)) rfl
theorem a_cl_X9_377 : Cond.constantLong RX9 377 (4) ∈ AW := aw (t6 (List.mem_of_getElem? (i := 17) rfl)) rfl
theorem a_ml_L_160 : Cond.methodLink RL 160 yX9_item ∈ AW := aw (t6 (List.mem_of_getElem? (i := 18) rfl)) rfl
theorem a_im_yX9_item : Cond.instanceMethod yX9_item ∈ AW := aw (t6 (List.mem_of_getElem? (i := 19) rfl)) rfl
theorem a_se_yX9_item : Cond.selects RX9 yX9_item yX9_item ∈ AW := aw (t6 (List.mem_of_getElem? (i := 20) rfl)) rfl
theorem a_co_yX9_item : Cond.code yX9_item cX9_item 5 (some .int) ∈ AW := aw (t6 (List.mem_of_getElem? (i := 21) rfl)) rfl
theorem a_ml_X9_379 : Cond.methodLink RX9 379 yX9_asItem ∈ AW := aw (t6 (List.mem_of_getElem? (i := 22) rfl)) rfl
theorem a_st_yX9_asItem : Cond.static yX9_asItem ∈ AW := aw (t6 (List.mem_of_getElem? (i := 23) rfl)) rfl
theorem a_co_yX9_asItem : Cond.code yX9_asItem cX9_asItem 3 (some .long) ∈ AW := aw (t6 (List.mem_of_getElem? (i := 24) rfl)) rfl
theorem a_ml_L_164 : Cond.methodLink RL 164 yX9_peek ∈ AW := aw (t6 (List.mem_of_getElem? (i := 25) rfl)) rfl
theorem a_im_yX9_peek : Cond.instanceMethod yX9_peek ∈ AW := aw (t6 (List.mem_of_getElem? (i := 26) rfl)) rfl
theorem a_se_yX9_peek : Cond.selects RX9 yX9_peek yX9_peek ∈ AW := aw (t6 (List.mem_of_getElem? (i := 27) rfl)) rfl
theorem a_co_yX9_peek : Cond.code yX9_peek cX9_peek 3 (some .long) ∈ AW := aw (t6 (List.mem_of_getElem? (i := 28) rfl)) rfl
theorem a_ml_L_169 : Cond.methodLink RL 169 yX9_shift ∈ AW := aw (t6 (List.mem_of_getElem? (i := 29) rfl)) rfl
theorem a_im_yX9_shift : Cond.instanceMethod yX9_shift ∈ AW := aw (t6 (List.mem_of_getElem? (i := 30) rfl)) rfl
theorem a_se_yX9_shift : Cond.selects RX9 yX9_shift yX9_shift ∈ AW := aw (t6 (List.mem_of_getElem? (i := 31) rfl)) rfl
theorem a_co_yX9_shift : Cond.code yX9_shift cX9_shift 6 (some .int) ∈ AW := aw (t6 (List.mem_of_getElem? (i := 32) rfl)) rfl
theorem a_ml_X9_383 : Cond.methodLink RX9 383 yX9_isWithin ∈ AW := aw (t6 (List.mem_of_getElem? (i := 33) rfl)) rfl
theorem a_im_yX9_isWithin : Cond.instanceMethod yX9_isWithin ∈ AW := aw (t6 (List.mem_of_getElem? (i := 35) rfl)) rfl
theorem a_co_yX9_isWithin : Cond.code yX9_isWithin cX9_isWithin 4 (some .boolean) ∈ AW := aw (t6 (List.mem_of_getElem? (i := 36) rfl)) rfl
theorem a_cl_L_154 : Cond.constantLong RL 154 (4294967295) ∈ AW := aw (t6 (List.mem_of_getElem? (i := 37) rfl)) rfl
theorem a_fl_J0_9 : Cond.fieldLink RJ0 9 "java/lang/String" "value" "[B" ∈ AW := aw (t6 (List.mem_of_getElem? (i := 38) rfl)) rfl
theorem a_fl_J0_15 : Cond.fieldLink RJ0 15 "java/lang/String" "coder" "B" ∈ AW := aw (t6 (List.mem_of_getElem? (i := 39) rfl)) rfl
theorem a_se_yX8_tableNumber : Cond.selects RX8 yX8_tableNumber yX8_tableNumber ∈ AW := aw (tp (List.mem_of_getElem? (i := 0) rfl)) rfl
theorem a_se_yX8_sortNow : Cond.selects RX8 yX8_sortNow yX8_sortNow ∈ AW := aw (tp (List.mem_of_getElem? (i := 1) rfl)) rfl
theorem a_se_yX3_isLetter : Cond.selects RX3 yX3_isLetter yX3_isLetter ∈ AW := aw (tp (List.mem_of_getElem? (i := 2) rfl)) rfl
theorem a_se_yX5_takeClause : Cond.selects RX5 yX5_takeClause yX5_takeClause ∈ AW := aw (tp (List.mem_of_getElem? (i := 3) rfl)) rfl
theorem a_se_yX5_takeKind : Cond.selects RX5 yX5_takeKind yX5_takeKind ∈ AW := aw (tp (List.mem_of_getElem? (i := 4) rfl)) rfl
theorem a_se_yX5_takeTwo : Cond.selects RX5 yX5_takeTwo yX5_takeTwo ∈ AW := aw (tp (List.mem_of_getElem? (i := 5) rfl)) rfl
theorem a_se_yX5_takeByte : Cond.selects RX5 yX5_takeByte yX5_takeByte ∈ AW := aw (tp (List.mem_of_getElem? (i := 6) rfl)) rfl
theorem a_se_yX5_takeNumber : Cond.selects RX5 yX5_takeNumber yX5_takeNumber ∈ AW := aw (tp (List.mem_of_getElem? (i := 7) rfl)) rfl
theorem a_se_yX5_takeSigns : Cond.selects RX5 yX5_takeSigns yX5_takeSigns ∈ AW := aw (tp (List.mem_of_getElem? (i := 8) rfl)) rfl
theorem a_se_yX8_doClause : Cond.selects RX8 yX8_doClause yX8_doClause ∈ AW := aw (tp (List.mem_of_getElem? (i := 9) rfl)) rfl
theorem a_se_yX8_carryByWord : Cond.selects RX8 yX8_carryByWord yX8_carryByWord ∈ AW := aw (tp (List.mem_of_getElem? (i := 10) rfl)) rfl
theorem a_se_yX8_rootsAhead : Cond.selects RX8 yX8_rootsAhead yX8_rootsAhead ∈ AW := aw (tp (List.mem_of_getElem? (i := 11) rfl)) rfl
theorem a_se_yX0_fillPlace : Cond.selects RX0 yX0_fillPlace yX0_fillPlace ∈ AW := aw (tp (List.mem_of_getElem? (i := 12) rfl)) rfl
theorem a_se_yX0_sharesOfParts : Cond.selects RX0 yX0_sharesOfParts yX0_sharesOfParts ∈ AW := aw (tp (List.mem_of_getElem? (i := 13) rfl)) rfl
theorem a_se_yX0_shareOfOther : Cond.selects RX0 yX0_shareOfOther yX0_shareOfOther ∈ AW := aw (tp (List.mem_of_getElem? (i := 14) rfl)) rfl
theorem a_se_yX1_multiply : Cond.selects RX1 yX1_multiply yX1_multiply ∈ AW := aw (tp (List.mem_of_getElem? (i := 15) rfl)) rfl
theorem a_se_yX1_fromBelow : Cond.selects RX1 yX1_fromBelow yX1_fromBelow ∈ AW := aw (tp (List.mem_of_getElem? (i := 16) rfl)) rfl
theorem a_se_yX8_shortestWordTo : Cond.selects RX8 yX8_shortestWordTo yX8_shortestWordTo ∈ AW := aw (tp (List.mem_of_getElem? (i := 17) rfl)) rfl
theorem a_se_yX8_isAllSeenBy : Cond.selects RX8 yX8_isAllSeenBy yX8_isAllSeenBy ∈ AW := aw (tp (List.mem_of_getElem? (i := 18) rfl)) rfl
theorem a_se_yX8_happen : Cond.selects RX8 yX8_happen yX8_happen ∈ AW := aw (tp (List.mem_of_getElem? (i := 19) rfl)) rfl
theorem a_se_yX9_told : Cond.selects RX9 yX9_told yX9_told ∈ AW := aw (tp (List.mem_of_getElem? (i := 20) rfl)) rfl
theorem a_se_yX9_sortOf : Cond.selects RX9 yX9_sortOf yX9_sortOf ∈ AW := aw (tp (List.mem_of_getElem? (i := 21) rfl)) rfl
theorem a_se_yX9_lower : Cond.selects RX9 yX9_lower yX9_lower ∈ AW := aw (tp (List.mem_of_getElem? (i := 22) rfl)) rfl
theorem a_se_yX9_isLetter : Cond.selects RX9 yX9_isLetter yX9_isLetter ∈ AW := aw (tp (List.mem_of_getElem? (i := 23) rfl)) rfl
theorem a_se_yX9_coatOf : Cond.selects RX9 yX9_coatOf yX9_coatOf ∈ AW := aw (tp (List.mem_of_getElem? (i := 24) rfl)) rfl
theorem a_se_yX9_carries : Cond.selects RX9 yX9_carries yX9_carries ∈ AW := aw (tp (List.mem_of_getElem? (i := 25) rfl)) rfl
theorem a_se_yX9_takesAll : Cond.selects RX9 yX9_takesAll yX9_takesAll ∈ AW := aw (tp (List.mem_of_getElem? (i := 26) rfl)) rfl
theorem a_se_yX9_takesClause : Cond.selects RX9 yX9_takesClause yX9_takesClause ∈ AW := aw (tp (List.mem_of_getElem? (i := 27) rfl)) rfl
theorem a_se_yX9_takesWord : Cond.selects RX9 yX9_takesWord yX9_takesWord ∈ AW := aw (tp (List.mem_of_getElem? (i := 28) rfl)) rfl
theorem a_se_yX9_begun : Cond.selects RX9 yX9_begun yX9_begun ∈ AW := aw (tp (List.mem_of_getElem? (i := 29) rfl)) rfl
theorem a_se_yX9_takesTwo : Cond.selects RX9 yX9_takesTwo yX9_takesTwo ∈ AW := aw (tp (List.mem_of_getElem? (i := 30) rfl)) rfl
theorem a_se_yX9_takesNumber : Cond.selects RX9 yX9_takesNumber yX9_takesNumber ∈ AW := aw (tp (List.mem_of_getElem? (i := 31) rfl)) rfl
theorem a_se_yX9_takesBlank : Cond.selects RX9 yX9_takesBlank yX9_takesBlank ∈ AW := aw (tp (List.mem_of_getElem? (i := 32) rfl)) rfl
theorem a_se_yX9_isAt : Cond.selects RX9 yX9_isAt yX9_isAt ∈ AW := aw (tp (List.mem_of_getElem? (i := 33) rfl)) rfl
theorem a_se_yX9_takesDigits : Cond.selects RX9 yX9_takesDigits yX9_takesDigits ∈ AW := aw (tp (List.mem_of_getElem? (i := 34) rfl)) rfl
theorem a_se_yX9_takesSigns : Cond.selects RX9 yX9_takesSigns yX9_takesSigns ∈ AW := aw (tp (List.mem_of_getElem? (i := 35) rfl)) rfl
theorem a_se_yX9_isDone : Cond.selects RX9 yX9_isDone yX9_isDone ∈ AW := aw (tp (List.mem_of_getElem? (i := 36) rfl)) rfl
theorem a_se_yX9_isCarried : Cond.selects RX9 yX9_isCarried yX9_isCarried ∈ AW := aw (tp (List.mem_of_getElem? (i := 37) rfl)) rfl
theorem a_se_yX9_kind : Cond.selects RX9 yX9_kind yX9_kind ∈ AW := aw (tp (List.mem_of_getElem? (i := 38) rfl)) rfl
theorem a_se_yX9_normOf : Cond.selects RX9 yX9_normOf yX9_normOf ∈ AW := aw (tp (List.mem_of_getElem? (i := 39) rfl)) rfl
theorem a_se_yX9_productOf : Cond.selects RX9 yX9_productOf yX9_productOf ∈ AW := aw (tp (List.mem_of_getElem? (i := 40) rfl)) rfl
theorem a_se_yX9_along : Cond.selects RX9 yX9_along yX9_along ∈ AW := aw (tp (List.mem_of_getElem? (i := 41) rfl)) rfl
theorem a_se_yX9_countOf : Cond.selects RX9 yX9_countOf yX9_countOf ∈ AW := aw (tp (List.mem_of_getElem? (i := 42) rfl)) rfl
theorem a_se_yX9_layCounts : Cond.selects RX9 yX9_layCounts yX9_layCounts ∈ AW := aw (tp (List.mem_of_getElem? (i := 43) rfl)) rfl
theorem a_se_yX9_works : Cond.selects RX9 yX9_works yX9_works ∈ AW := aw (tp (List.mem_of_getElem? (i := 44) rfl)) rfl
theorem a_se_yX9_lay : Cond.selects RX9 yX9_lay yX9_lay ∈ AW := aw (tp (List.mem_of_getElem? (i := 45) rfl)) rfl
theorem a_se_yX9_layParts : Cond.selects RX9 yX9_layParts yX9_layParts ∈ AW := aw (tp (List.mem_of_getElem? (i := 46) rfl)) rfl
theorem a_se_yX9_adds : Cond.selects RX9 yX9_adds yX9_adds ∈ AW := aw (tp (List.mem_of_getElem? (i := 47) rfl)) rfl
theorem a_se_yX9_layPairs : Cond.selects RX9 yX9_layPairs yX9_layPairs ∈ AW := aw (tp (List.mem_of_getElem? (i := 48) rfl)) rfl
theorem a_se_yX9_levelOf : Cond.selects RX9 yX9_levelOf yX9_levelOf ∈ AW := aw (tp (List.mem_of_getElem? (i := 49) rfl)) rfl
theorem a_se_yX9_multiplies : Cond.selects RX9 yX9_multiplies yX9_multiplies ∈ AW := aw (tp (List.mem_of_getElem? (i := 50) rfl)) rfl
theorem a_se_yX9_signedBy : Cond.selects RX9 yX9_signedBy yX9_signedBy ∈ AW := aw (tp (List.mem_of_getElem? (i := 51) rfl)) rfl
theorem a_se_yX9_isSo : Cond.selects RX9 yX9_isSo yX9_isSo ∈ AW := aw (tp (List.mem_of_getElem? (i := 52) rfl)) rfl
theorem a_se_yX9_lowest : Cond.selects RX9 yX9_lowest yX9_lowest ∈ AW := aw (tp (List.mem_of_getElem? (i := 53) rfl)) rfl
theorem a_se_yX9_happens : Cond.selects RX9 yX9_happens yX9_happens ∈ AW := aw (tp (List.mem_of_getElem? (i := 54) rfl)) rfl
theorem a_se_yX9_rowOf : Cond.selects RX9 yX9_rowOf yX9_rowOf ∈ AW := aw (tp (List.mem_of_getElem? (i := 55) rfl)) rfl
theorem a_se_yX9_isWithin : Cond.selects RX9 yX9_isWithin yX9_isWithin ∈ AW := aw (tp (List.mem_of_getElem? (i := 56) rfl)) rfl
theorem a_ly_X0_0 : u_lay RX0 TX0 0 ∈ AW := aw (t1 (List.mem_of_getElem? (i := 133) rfl)) rfl
theorem a_ly_X0_1 : u_lay RX0 TX0 1 ∈ AW := aw (t1 (List.mem_of_getElem? (i := 135) rfl)) rfl
theorem a_ly_X0_2 : u_lay RX0 TX0 2 ∈ AW := aw (t1 (List.mem_of_getElem? (i := 137) rfl)) rfl
theorem a_ly_X0_3 : u_lay RX0 TX0 3 ∈ AW := aw (t1 (List.mem_of_getElem? (i := 139) rfl)) rfl
theorem a_ly_X0_4 : u_lay RX0 TX0 4 ∈ AW := aw (t1 (List.mem_of_getElem? (i := 141) rfl)) rfl
theorem a_ly_X0_5 : u_lay RX0 TX0 5 ∈ AW := aw (t1 (List.mem_of_getElem? (i := 143) rfl)) rfl
theorem lyX0 : ∀ w ∈ u_ws RX0 TX0 6, w ∈ AW := fun w h => by
  obtain ⟨k, hk, rfl⟩ := List.mem_map.mp h
  have hk := List.mem_range.mp hk
  match k, hk with
  | 0, _ => exact a_ly_X0_0
  | 1, _ => exact a_ly_X0_1
  | 2, _ => exact a_ly_X0_2
  | 3, _ => exact a_ly_X0_3
  | 4, _ => exact a_ly_X0_4
  | 5, _ => exact a_ly_X0_5
  | k + 6, hk => exact absurd hk (by omega)
theorem a_ly_X1_0 : u_lay RX1 TX1 0 ∈ AW := aw (t1 (List.mem_of_getElem? (i := 156) rfl)) rfl
theorem a_ly_X1_1 : u_lay RX1 TX1 1 ∈ AW := aw (t1 (List.mem_of_getElem? (i := 158) rfl)) rfl
theorem a_ly_X1_2 : u_lay RX1 TX1 2 ∈ AW := aw (t1 (List.mem_of_getElem? (i := 160) rfl)) rfl
theorem lyX1 : ∀ w ∈ u_ws RX1 TX1 3, w ∈ AW := fun w h => by
  obtain ⟨k, hk, rfl⟩ := List.mem_map.mp h
  have hk := List.mem_range.mp hk
  match k, hk with
  | 0, _ => exact a_ly_X1_0
  | 1, _ => exact a_ly_X1_1
  | 2, _ => exact a_ly_X1_2
  | k + 3, hk => exact absurd hk (by omega)
theorem a_ly_X2_0 : u_lay RX2 TX2 0 ∈ AW := aw (t1 (List.mem_of_getElem? (i := 45) rfl)) rfl
theorem a_ly_X2_1 : u_lay RX2 TX2 1 ∈ AW := aw (t1 (List.mem_of_getElem? (i := 47) rfl)) rfl
theorem a_ly_X2_2 : u_lay RX2 TX2 2 ∈ AW := aw (t1 (List.mem_of_getElem? (i := 49) rfl)) rfl
theorem a_ly_X2_3 : u_lay RX2 TX2 3 ∈ AW := aw (t1 (List.mem_of_getElem? (i := 51) rfl)) rfl
theorem lyX2 : ∀ w ∈ u_ws RX2 TX2 4, w ∈ AW := fun w h => by
  obtain ⟨k, hk, rfl⟩ := List.mem_map.mp h
  have hk := List.mem_range.mp hk
  match k, hk with
  | 0, _ => exact a_ly_X2_0
  | 1, _ => exact a_ly_X2_1
  | 2, _ => exact a_ly_X2_2
  | 3, _ => exact a_ly_X2_3
  | k + 4, hk => exact absurd hk (by omega)
theorem a_ly_X3_0 : u_lay RX3 TX3 0 ∈ AW := aw (t1 (List.mem_of_getElem? (i := 110) rfl)) rfl
theorem a_ly_X3_1 : u_lay RX3 TX3 1 ∈ AW := aw (t1 (List.mem_of_getElem? (i := 112) rfl)) rfl
theorem a_ly_X3_2 : u_lay RX3 TX3 2 ∈ AW := aw (t1 (List.mem_of_getElem? (i := 114) rfl)) rfl
theorem a_ly_X3_3 : u_lay RX3 TX3 3 ∈ AW := aw (t1 (List.mem_of_getElem? (i := 116) rfl)) rfl
theorem lyX3 : ∀ w ∈ u_ws RX3 TX3 4, w ∈ AW := fun w h => by
  obtain ⟨k, hk, rfl⟩ := List.mem_map.mp h
  have hk := List.mem_range.mp hk
  match k, hk with
  | 0, _ => exact a_ly_X3_0
  | 1, _ => exact a_ly_X3_1
  | 2, _ => exact a_ly_X3_2
  | 3, _ => exact a_ly_X3_3
  | k + 4, hk => exact absurd hk (by omega)
theorem a_ly_X4_0 : u_lay RX4 TX4 0 ∈ AW := aw (t1 (List.mem_of_getElem? (i := 66) rfl)) rfl
theorem a_ly_X4_1 : u_lay RX4 TX4 1 ∈ AW := aw (t1 (List.mem_of_getElem? (i := 68) rfl)) rfl
theorem a_ly_X4_2 : u_lay RX4 TX4 2 ∈ AW := aw (t1 (List.mem_of_getElem? (i := 70) rfl)) rfl
theorem lyX4 : ∀ w ∈ u_ws RX4 TX4 3, w ∈ AW := fun w h => by
  obtain ⟨k, hk, rfl⟩ := List.mem_map.mp h
  have hk := List.mem_range.mp hk
  match k, hk with
  | 0, _ => exact a_ly_X4_0
  | 1, _ => exact a_ly_X4_1
  | 2, _ => exact a_ly_X4_2
  | k + 3, hk => exact absurd hk (by omega)
theorem a_ly_X5_0 : u_lay RX5 TX5 0 ∈ AW := aw (t1 (List.mem_of_getElem? (i := 177) rfl)) rfl
theorem a_ly_X5_1 : u_lay RX5 TX5 1 ∈ AW := aw (t1 (List.mem_of_getElem? (i := 179) rfl)) rfl
theorem a_ly_X5_2 : u_lay RX5 TX5 2 ∈ AW := aw (t1 (List.mem_of_getElem? (i := 181) rfl)) rfl
theorem a_ly_X5_3 : u_lay RX5 TX5 3 ∈ AW := aw (t1 (List.mem_of_getElem? (i := 183) rfl)) rfl
theorem a_ly_X5_4 : u_lay RX5 TX5 4 ∈ AW := aw (t1 (List.mem_of_getElem? (i := 185) rfl)) rfl
theorem a_ly_X5_5 : u_lay RX5 TX5 5 ∈ AW := aw (t1 (List.mem_of_getElem? (i := 187) rfl)) rfl
theorem a_ly_X5_6 : u_lay RX5 TX5 6 ∈ AW := aw (t1 (List.mem_of_getElem? (i := 189) rfl)) rfl
theorem a_ly_X5_7 : u_lay RX5 TX5 7 ∈ AW := aw (t1 (List.mem_of_getElem? (i := 191) rfl)) rfl
theorem lyX5 : ∀ w ∈ u_ws RX5 TX5 8, w ∈ AW := fun w h => by
  obtain ⟨k, hk, rfl⟩ := List.mem_map.mp h
  have hk := List.mem_range.mp hk
  match k, hk with
  | 0, _ => exact a_ly_X5_0
  | 1, _ => exact a_ly_X5_1
  | 2, _ => exact a_ly_X5_2
  | 3, _ => exact a_ly_X5_3
  | 4, _ => exact a_ly_X5_4
  | 5, _ => exact a_ly_X5_5
  | 6, _ => exact a_ly_X5_6
  | 7, _ => exact a_ly_X5_7
  | k + 8, hk => exact absurd hk (by omega)
theorem a_ly_X6_0 : u_lay RX6 TX6 0 ∈ AW := aw (t1 (List.mem_of_getElem? (i := 84) rfl)) rfl
theorem a_ly_X6_1 : u_lay RX6 TX6 1 ∈ AW := aw (t1 (List.mem_of_getElem? (i := 86) rfl)) rfl
theorem a_ly_X6_2 : u_lay RX6 TX6 2 ∈ AW := aw (t1 (List.mem_of_getElem? (i := 88) rfl)) rfl
theorem a_ly_X6_3 : u_lay RX6 TX6 3 ∈ AW := aw (t1 (List.mem_of_getElem? (i := 90) rfl)) rfl
theorem a_ly_X6_4 : u_lay RX6 TX6 4 ∈ AW := aw (t1 (List.mem_of_getElem? (i := 92) rfl)) rfl
theorem lyX6 : ∀ w ∈ u_ws RX6 TX6 5, w ∈ AW := fun w h => by
  obtain ⟨k, hk, rfl⟩ := List.mem_map.mp h
  have hk := List.mem_range.mp hk
  match k, hk with
  | 0, _ => exact a_ly_X6_0
  | 1, _ => exact a_ly_X6_1
  | 2, _ => exact a_ly_X6_2
  | 3, _ => exact a_ly_X6_3
  | 4, _ => exact a_ly_X6_4
  | k + 5, hk => exact absurd hk (by omega)
theorem a_ly_X7_0 : u_lay RX7 TX7 0 ∈ AW := aw (t1 (List.mem_of_getElem? (i := 203) rfl)) rfl
theorem a_ly_X7_1 : u_lay RX7 TX7 1 ∈ AW := aw (t1 (List.mem_of_getElem? (i := 205) rfl)) rfl
theorem a_ly_X7_2 : u_lay RX7 TX7 2 ∈ AW := aw (t1 (List.mem_of_getElem? (i := 207) rfl)) rfl
theorem lyX7 : ∀ w ∈ u_ws RX7 TX7 3, w ∈ AW := fun w h => by
  obtain ⟨k, hk, rfl⟩ := List.mem_map.mp h
  have hk := List.mem_range.mp hk
  match k, hk with
  | 0, _ => exact a_ly_X7_0
  | 1, _ => exact a_ly_X7_1
  | 2, _ => exact a_ly_X7_2
  | k + 3, hk => exact absurd hk (by omega)
theorem a_ly_X8_0 : u_lay RX8 TX8 0 ∈ AW := aw (t1 (List.mem_of_getElem? (i := 219) rfl)) rfl
theorem a_ly_X8_1 : u_lay RX8 TX8 1 ∈ AW := aw (t1 (List.mem_of_getElem? (i := 221) rfl)) rfl
theorem a_ly_X8_2 : u_lay RX8 TX8 2 ∈ AW := aw (t1 (List.mem_of_getElem? (i := 223) rfl)) rfl
theorem a_ly_X8_3 : u_lay RX8 TX8 3 ∈ AW := aw (t1 (List.mem_of_getElem? (i := 225) rfl)) rfl
theorem a_ly_X8_4 : u_lay RX8 TX8 4 ∈ AW := aw (t1 (List.mem_of_getElem? (i := 227) rfl)) rfl
theorem a_ly_X8_5 : u_lay RX8 TX8 5 ∈ AW := aw (t1 (List.mem_of_getElem? (i := 229) rfl)) rfl
theorem a_ly_X8_6 : u_lay RX8 TX8 6 ∈ AW := aw (t1 (List.mem_of_getElem? (i := 231) rfl)) rfl
theorem a_ly_X8_7 : u_lay RX8 TX8 7 ∈ AW := aw (t1 (List.mem_of_getElem? (i := 233) rfl)) rfl
theorem a_ly_X8_8 : u_lay RX8 TX8 8 ∈ AW := aw (t1 (List.mem_of_getElem? (i := 235) rfl)) rfl
theorem lyX8 : ∀ w ∈ u_ws RX8 TX8 9, w ∈ AW := fun w h => by
  obtain ⟨k, hk, rfl⟩ := List.mem_map.mp h
  have hk := List.mem_range.mp hk
  match k, hk with
  | 0, _ => exact a_ly_X8_0
  | 1, _ => exact a_ly_X8_1
  | 2, _ => exact a_ly_X8_2
  | 3, _ => exact a_ly_X8_3
  | 4, _ => exact a_ly_X8_4
  | 5, _ => exact a_ly_X8_5
  | 6, _ => exact a_ly_X8_6
  | 7, _ => exact a_ly_X8_7
  | 8, _ => exact a_ly_X8_8
  | k + 9, hk => exact absurd hk (by omega)
theorem a_ly_X9_0 : u_lay RX9 TX9 0 ∈ AW := aw (t4 (List.mem_of_getElem? (i := 75) rfl)) rfl
theorem a_ly_X9_1 : u_lay RX9 TX9 1 ∈ AW := aw (t4 (List.mem_of_getElem? (i := 77) rfl)) rfl
theorem a_ly_X9_2 : u_lay RX9 TX9 2 ∈ AW := aw (t4 (List.mem_of_getElem? (i := 79) rfl)) rfl
theorem a_ly_X9_3 : u_lay RX9 TX9 3 ∈ AW := aw (t4 (List.mem_of_getElem? (i := 81) rfl)) rfl
theorem a_ly_X9_4 : u_lay RX9 TX9 4 ∈ AW := aw (t4 (List.mem_of_getElem? (i := 83) rfl)) rfl
theorem a_ly_X9_5 : u_lay RX9 TX9 5 ∈ AW := aw (t4 (List.mem_of_getElem? (i := 85) rfl)) rfl
theorem a_ly_X9_6 : u_lay RX9 TX9 6 ∈ AW := aw (t4 (List.mem_of_getElem? (i := 87) rfl)) rfl
theorem a_ly_X9_7 : u_lay RX9 TX9 7 ∈ AW := aw (t4 (List.mem_of_getElem? (i := 89) rfl)) rfl
theorem a_ly_X9_8 : u_lay RX9 TX9 8 ∈ AW := aw (t4 (List.mem_of_getElem? (i := 91) rfl)) rfl
theorem a_ly_X9_9 : u_lay RX9 TX9 9 ∈ AW := aw (t4 (List.mem_of_getElem? (i := 93) rfl)) rfl
theorem a_ly_X9_10 : u_lay RX9 TX9 10 ∈ AW := aw (t4 (List.mem_of_getElem? (i := 95) rfl)) rfl
theorem a_ly_X9_11 : u_lay RX9 TX9 11 ∈ AW := aw (t4 (List.mem_of_getElem? (i := 97) rfl)) rfl
theorem a_ly_X9_12 : u_lay RX9 TX9 12 ∈ AW := aw (t4 (List.mem_of_getElem? (i := 99) rfl)) rfl
theorem a_ly_X9_13 : u_lay RX9 TX9 13 ∈ AW := aw (t4 (List.mem_of_getElem? (i := 101) rfl)) rfl
theorem a_ly_X9_14 : u_lay RX9 TX9 14 ∈ AW := aw (t4 (List.mem_of_getElem? (i := 103) rfl)) rfl
theorem a_ly_X9_15 : u_lay RX9 TX9 15 ∈ AW := aw (t4 (List.mem_of_getElem? (i := 105) rfl)) rfl
theorem a_ly_X9_16 : u_lay RX9 TX9 16 ∈ AW := aw (t4 (List.mem_of_getElem? (i := 107) rfl)) rfl
theorem a_ly_X9_17 : u_lay RX9 TX9 17 ∈ AW := aw (t4 (List.mem_of_getElem? (i := 109) rfl)) rfl
theorem a_ly_X9_18 : u_lay RX9 TX9 18 ∈ AW := aw (t4 (List.mem_of_getElem? (i := 111) rfl)) rfl
theorem a_ly_X9_19 : u_lay RX9 TX9 19 ∈ AW := aw (t4 (List.mem_of_getElem? (i := 113) rfl)) rfl
theorem a_ly_X9_20 : u_lay RX9 TX9 20 ∈ AW := aw (t4 (List.mem_of_getElem? (i := 115) rfl)) rfl
theorem a_ly_X9_21 : u_lay RX9 TX9 21 ∈ AW := aw (t4 (List.mem_of_getElem? (i := 117) rfl)) rfl
theorem a_ly_X9_22 : u_lay RX9 TX9 22 ∈ AW := aw (t4 (List.mem_of_getElem? (i := 119) rfl)) rfl
theorem a_ly_X9_23 : u_lay RX9 TX9 23 ∈ AW := aw (t4 (List.mem_of_getElem? (i := 121) rfl)) rfl
theorem a_ly_X9_24 : u_lay RX9 TX9 24 ∈ AW := aw (t4 (List.mem_of_getElem? (i := 123) rfl)) rfl
theorem a_ly_X9_25 : u_lay RX9 TX9 25 ∈ AW := aw (t4 (List.mem_of_getElem? (i := 125) rfl)) rfl
theorem a_ly_X9_26 : u_lay RX9 TX9 26 ∈ AW := aw (t4 (List.mem_of_getElem? (i := 127) rfl)) rfl
theorem a_ly_X9_27 : u_lay RX9 TX9 27 ∈ AW := aw (t4 (List.mem_of_getElem? (i := 129) rfl)) rfl
theorem a_ly_X9_28 : u_lay RX9 TX9 28 ∈ AW := aw (t4 (List.mem_of_getElem? (i := 131) rfl)) rfl
theorem a_ly_X9_29 : u_lay RX9 TX9 29 ∈ AW := aw (t4 (List.mem_of_getElem? (i := 133) rfl)) rfl
theorem a_ly_X9_30 : u_lay RX9 TX9 30 ∈ AW := aw (t4 (List.mem_of_getElem? (i := 135) rfl)) rfl
theorem a_ly_X9_31 : u_lay RX9 TX9 31 ∈ AW := aw (t4 (List.mem_of_getElem? (i := 137) rfl)) rfl
theorem a_ly_X9_32 : u_lay RX9 TX9 32 ∈ AW := aw (t4 (List.mem_of_getElem? (i := 139) rfl)) rfl
theorem a_ly_X9_33 : u_lay RX9 TX9 33 ∈ AW := aw (t4 (List.mem_of_getElem? (i := 141) rfl)) rfl
theorem a_ly_X9_34 : u_lay RX9 TX9 34 ∈ AW := aw (t4 (List.mem_of_getElem? (i := 143) rfl)) rfl
theorem a_ly_X9_35 : u_lay RX9 TX9 35 ∈ AW := aw (t4 (List.mem_of_getElem? (i := 145) rfl)) rfl
theorem a_ly_X9_36 : u_lay RX9 TX9 36 ∈ AW := aw (t4 (List.mem_of_getElem? (i := 147) rfl)) rfl
theorem a_ly_X9_37 : u_lay RX9 TX9 37 ∈ AW := aw (t4 (List.mem_of_getElem? (i := 149) rfl)) rfl
theorem a_ly_X9_38 : u_lay RX9 TX9 38 ∈ AW := aw (t4 (List.mem_of_getElem? (i := 151) rfl)) rfl
theorem a_ly_X9_39 : u_lay RX9 TX9 39 ∈ AW := aw (t4 (List.mem_of_getElem? (i := 153) rfl)) rfl
theorem a_ly_X9_40 : u_lay RX9 TX9 40 ∈ AW := aw (t4 (List.mem_of_getElem? (i := 155) rfl)) rfl
theorem a_ly_X9_41 : u_lay RX9 TX9 41 ∈ AW := aw (t4 (List.mem_of_getElem? (i := 157) rfl)) rfl
theorem a_ly_X9_42 : u_lay RX9 TX9 42 ∈ AW := aw (t4 (List.mem_of_getElem? (i := 159) rfl)) rfl
theorem a_ly_X9_43 : u_lay RX9 TX9 43 ∈ AW := aw (t4 (List.mem_of_getElem? (i := 161) rfl)) rfl
theorem lyX9 : ∀ w ∈ u_ws RX9 TX9 44, w ∈ AW := fun w h => by
  obtain ⟨k, hk, rfl⟩ := List.mem_map.mp h
  have hk := List.mem_range.mp hk
  match k, hk with
  | 0, _ => exact a_ly_X9_0
  | 1, _ => exact a_ly_X9_1
  | 2, _ => exact a_ly_X9_2
  | 3, _ => exact a_ly_X9_3
  | 4, _ => exact a_ly_X9_4
  | 5, _ => exact a_ly_X9_5
  | 6, _ => exact a_ly_X9_6
  | 7, _ => exact a_ly_X9_7
  | 8, _ => exact a_ly_X9_8
  | 9, _ => exact a_ly_X9_9
  | 10, _ => exact a_ly_X9_10
  | 11, _ => exact a_ly_X9_11
  | 12, _ => exact a_ly_X9_12
  | 13, _ => exact a_ly_X9_13
  | 14, _ => exact a_ly_X9_14
  | 15, _ => exact a_ly_X9_15
  | 16, _ => exact a_ly_X9_16
  | 17, _ => exact a_ly_X9_17
  | 18, _ => exact a_ly_X9_18
  | 19, _ => exact a_ly_X9_19
  | 20, _ => exact a_ly_X9_20
  | 21, _ => exact a_ly_X9_21
  | 22, _ => exact a_ly_X9_22
  | 23, _ => exact a_ly_X9_23
  | 24, _ => exact a_ly_X9_24
  | 25, _ => exact a_ly_X9_25
  | 26, _ => exact a_ly_X9_26
  | 27, _ => exact a_ly_X9_27
  | 28, _ => exact a_ly_X9_28
  | 29, _ => exact a_ly_X9_29
  | 30, _ => exact a_ly_X9_30
  | 31, _ => exact a_ly_X9_31
  | 32, _ => exact a_ly_X9_32
  | 33, _ => exact a_ly_X9_33
  | 34, _ => exact a_ly_X9_34
  | 35, _ => exact a_ly_X9_35
  | 36, _ => exact a_ly_X9_36
  | 37, _ => exact a_ly_X9_37
  | 38, _ => exact a_ly_X9_38
  | 39, _ => exact a_ly_X9_39
  | 40, _ => exact a_ly_X9_40
  | 41, _ => exact a_ly_X9_41
  | 42, _ => exact a_ly_X9_42
  | 43, _ => exact a_ly_X9_43
  | k + 44, hk => exact absurd hk (by omega)
