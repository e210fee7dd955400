def wsX4_cell : List Cond := .code yX4_cell cX4_cell 4 (some .int) :: ((wsX4_cell_r1 ++ wsX4_cell_r2) ++ wsX40 ++ wsX00 ++ (vx_atS RX4 162 "java/lang/IllegalArgumentException" ["java/lang/RuntimeException", "java/lang/Exception"]).filter goodWord)
def wsX4_count : List Cond := .code yX4_count cX4_count 2 (some .int) :: ([.classLink RX4 158 "java/lang/IllegalArgumentException", .initialized "java/lang/IllegalArgumentException", .fieldLink RX4 22 "CutRows" "arena" "LCutRows$Arena;", .fieldLink RX4 106 "CutRows" "inputRows" "I", .fieldLink RX4 85 "CutRows" "vectorSize" "I", .fieldLink RX4 98 "CutRows" "sealed" "Z", .fieldLink RX4 113 "CutRows" "sumBegun" "Z", .fieldLink RX4 29 "CutRows" "register" "LCutRows$Register;", .fieldLink RX4 82 "CutRows$Register" "state" "I", .methodLink RX4 175 yX0_cellsLeft, .instanceMethod yX0_cellsLeft, .selects RX0 yX0_cellsLeft yX0_cellsLeft, .initialized RX0, .code yX0_cellsLeft cX0_cellsLeft 1 (some .int), .fieldLink RX0 18 "CutRows$Arena" "cells" "[I", .fieldLink RX0 25 "CutRows$Arena" "used" "I"] ++ wsX40 ++ wsX20 ++ wsX00 ++ (vx_atS RX4 162 "java/lang/IllegalArgumentException" ["java/lang/RuntimeException", "java/lang/Exception"]).filter goodWord)
def wsL_cell : List Cond := .code yL_cell cL_cell 2 (some .int) :: ([])
def wsL_cell__r1 : List Cond := [Cond.classLink RL 13 "java/lang/IllegalArgumentException", Cond.methodLink RL 7 yX4_cell, Cond.instanceMethod yX4_cell, Cond.selects RX4 yX4_cell yX4_cell, Cond.initialized RX4, Cond.code yX4_cell cX4_cell 4 (some .int), Cond.classLink RX4 158 "java/lang/IllegalArgumentException", Cond.initialized "java/lang/IllegalArgumentException", Cond.fieldLink RX4 22 "CutRows" "arena" "LCutRows$Arena;", Cond.fieldLink RX4 13 "CutRows" "vars" "I", Cond.methodLink RX4 116 yX0_has, Cond.instanceMethod yX0_has, Cond.selects RX0 yX0_has yX0_has, Cond.initialized RX0, Cond.code yX0_has cX0_has 2 (some .boolean), Cond.fieldLink RX0 28 "CutRows$Arena" "rows" "I", Cond.methodLink RX4 165 yX0_signOf, Cond.instanceMethod yX0_signOf, Cond.selects RX0 yX0_signOf yX0_signOf, Cond.code yX0_signOf cX0_signOf 3 (some .int), Cond.fieldLink RX0 18 "CutRows$Arena" "cells" "[I", Cond.fieldLink RX0 22 "CutRows$Arena" "starts" "[I", Cond.fieldLink RX0 9 "CutRows$Arena" "width" "I", Cond.methodLink RX0 31 yJ6_signum_0f7a4]
def wsL_cell__r2 : List Cond := [Cond.static yJ6_signum_0f7a4, Cond.initialized RJ6, Cond.code yJ6_signum_0f7a4 cJ6_signum_0f7a4 1 (some .int), Cond.methodLink RX4 168 yX0_sizeOf, Cond.instanceMethod yX0_sizeOf, Cond.selects RX0 yX0_sizeOf yX0_sizeOf, Cond.code yX0_sizeOf cX0_sizeOf 3 (some .int), Cond.methodLink RX0 37 Lib.Math.abs.name, Cond.static Lib.Math.abs.name, Cond.initialized "java/lang/Math", Cond.code Lib.Math.abs.name Lib.Math.abs.code 1 (some .int), Cond.methodLink RX4 171 yX0_digitOf, Cond.instanceMethod yX0_digitOf, Cond.selects RX0 yX0_digitOf yX0_digitOf, Cond.code yX0_digitOf cX0_digitOf 4 (some .int), Cond.methodLink RX0 42 yX0_sizeOf]
def wsL_cell_ : List Cond := .codeWith yL_cell_ cL_cell_ 6 (some .int) [(0, 12, 15, 13)] :: ((wsL_cell__r1 ++ wsL_cell__r2) ++ wsX40 ++ wsX00 ++ (vx_atS RX4 162 "java/lang/IllegalArgumentException" ["java/lang/RuntimeException", "java/lang/Exception"]).filter goodWord)
def wsL_count : List Cond := .codeWith yL_count cL_count 4 (some .int) [(0, 9, 12, 13)] :: ([.classLink RL 13 "java/lang/IllegalArgumentException", .methodLink RL 15 yX4_count, .instanceMethod yX4_count, .selects RX4 yX4_count yX4_count, .initialized RX4, .code yX4_count cX4_count 2 (some .int), .classLink RX4 158 "java/lang/IllegalArgumentException", .initialized "java/lang/IllegalArgumentException", .fieldLink RX4 22 "CutRows" "arena" "LCutRows$Arena;", .fieldLink RX4 106 "CutRows" "inputRows" "I", .fieldLink RX4 85 "CutRows" "vectorSize" "I", .fieldLink RX4 98 "CutRows" "sealed" "Z", .fieldLink RX4 113 "CutRows" "sumBegun" "Z", .fieldLink RX4 29 "CutRows" "register" "LCutRows$Register;", .fieldLink RX4 82 "CutRows$Register" "state" "I", .methodLink RX4 175 yX0_cellsLeft, .instanceMethod yX0_cellsLeft, .selects RX0 yX0_cellsLeft yX0_cellsLeft, .initialized RX0, .code yX0_cellsLeft cX0_cellsLeft 1 (some .int), .fieldLink RX0 18 "CutRows$Arena" "cells" "[I", .fieldLink RX0 25 "CutRows$Arena" "used" "I"] ++ wsX40 ++ wsX20 ++ wsX00 ++ (vx_atS RX4 162 "java/lang/IllegalArgumentException" ["java/lang/RuntimeException", "java/lang/Exception"]).filter goodWord)
def wsL_law0_r1 : List Cond := [Cond.classLink RL 8 RX4, Cond.instantiable RX4 16, Cond.initialized RX4, Cond.classLink RL 27 RX5, Cond.instantiable RX5 15, Cond.initialized RX5, Cond.arrayClass .long, Cond.methodLink RL 19 yL_cell, Cond.static yL_cell, Cond.initialized RL, Cond.code yL_cell cL_cell 2 (some .int), Cond.methodLink RL 24 yX4_init, Cond.instanceMethod yX4_init, Cond.code yX4_init cX4_init 5 none, Cond.methodLink RX4 3 objectInit, Cond.instanceMethod objectInit, Cond.code objectInit ⟨#[0xb1]⟩ 1 none, Cond.fieldLink RX4 13 "CutRows" "vars" "I", Cond.classLink RX4 17 RX0, Cond.instantiable RX0 6, Cond.initialized RX0, Cond.fieldLink RX4 22 "CutRows" "arena" "LCutRows$Arena;", Cond.classLink RX4 26 RX2, Cond.instantiable RX2 4]
def wsL_law0_r2 : List Cond := [Cond.initialized RX2, Cond.fieldLink RX4 29 "CutRows" "register" "LCutRows$Register;", Cond.fieldLink RX4 37 "CutRows" "vector" "[LCutRows$Whole;", Cond.fieldLink RX4 41 "CutRows" "point" "[LCutRows$Whole;", Cond.classLink RX4 44 RX1, Cond.instantiable RX1 5, Cond.initialized RX1, Cond.fieldLink RX4 47 "CutRows" "divider" "LCutRows$Divider;", Cond.fieldLink RX4 51 "CutRows" "sum" "[LCutRows$Whole;", Cond.fieldLink RX4 54 "CutRows" "draft" "[LCutRows$Whole;", Cond.classLink RX4 57 RX3, Cond.instantiable RX3 3, Cond.initialized RX3, Cond.fieldLink RX4 62 "CutRows" "factor" "LCutRows$Whole;", Cond.fieldLink RX4 66 "CutRows" "product" "LCutRows$Whole;", Cond.fieldLink RX4 69 "CutRows" "total" "LCutRows$Whole;", Cond.methodLink RX4 9 yX4_nearest, Cond.static yX4_nearest, Cond.code yX4_nearest cX4_nearest 2 (some .int), Cond.methodLink RX4 181 Lib.Math.min.name, Cond.static Lib.Math.min.name, Cond.initialized "java/lang/Math", Cond.code Lib.Math.min.name Lib.Math.min.code 2 (some .int), Cond.methodLink RX4 186 Lib.Math.max.name]
def wsL_law0_r3 : List Cond := [Cond.static Lib.Math.max.name, Cond.code Lib.Math.max.name Lib.Math.max.code 2 (some .int), Cond.methodLink RX4 19 yX0_init, Cond.instanceMethod yX0_init, Cond.code yX0_init cX0_init 4 none, Cond.methodLink RX0 3 objectInit, Cond.fieldLink RX0 9 "CutRows$Arena" "width" "I", Cond.fieldLink RX0 15 "CutRows$Arena" "maxRows" "I", Cond.arrayClass .int, Cond.fieldLink RX0 18 "CutRows$Arena" "cells" "[I", Cond.fieldLink RX0 22 "CutRows$Arena" "starts" "[I", Cond.instanceMethod yX2_init, Cond.code yX2_init cX2_init 1 none, Cond.methodLink RX2 3 objectInit, Cond.classLink RX2 9 RX3, Cond.fieldLink RX2 14 "CutRows$Register" "number" "LCutRows$Whole;", Cond.fieldLink RX2 20 "CutRows$Register" "state" "I", Cond.methodLink RX2 11 yX3_init, Cond.instanceMethod yX3_init, Cond.code yX3_init cX3_init 2 none, Cond.methodLink RX3 3 objectInit, Cond.fieldLink RX3 9 "CutRows$Whole" "limbs" "[I", Cond.methodLink RX4 33 yX4_zeros, Cond.static yX4_zeros]
def wsL_law0_r4 : List Cond := [Cond.code yX4_zeros cX4_zeros 4 (some (.array (.object "CutRows$Whole"))), Cond.methodLink RX4 59 yX3_init, Cond.instanceMethod yX1_init, Cond.code yX1_init cX1_init 1 none, Cond.methodLink RX1 3 objectInit, Cond.classLink RX1 9 RX3, Cond.fieldLink RX1 14 "CutRows$Divider" "greatest" "LCutRows$Whole;", Cond.fieldLink RX1 20 "CutRows$Divider" "quotient" "LCutRows$Whole;", Cond.fieldLink RX1 23 "CutRows$Divider" "remainder" "LCutRows$Whole;", Cond.fieldLink RX1 26 "CutRows$Divider" "top" "[I", Cond.fieldLink RX1 30 "CutRows$Divider" "bottom" "[I", Cond.methodLink RX1 11 yX3_init, Cond.methodLink RL 29 yX5_init, Cond.instanceMethod yX5_init, Cond.code yX5_init cX5_init 4 none, Cond.methodLink RX5 1 objectInit, Cond.fieldLink RX5 7 "CutRowsModel" "limbs" "[I", Cond.fieldLink RX5 13 "CutRowsModel" "length" "[I", Cond.arrayClass .boolean, Cond.fieldLink RX5 16 "CutRowsModel" "isBelow" "[Z", Cond.fieldLink RX5 24 "CutRowsModel" "vars" "I", Cond.fieldLink RX5 28 "CutRowsModel" "maxRows" "I", Cond.fieldLink RX5 31 "CutRowsModel" "cells" "I", Cond.methodLink RX5 20 yX5_between]
def wsL_law0_r5 : List Cond := [Cond.static yX5_between, Cond.code yX5_between cX5_between 2 (some .int), Cond.methodLink RL 30 yX4_beginNumber, Cond.instanceMethod yX4_beginNumber, Cond.selects RX4 yX4_beginNumber yX4_beginNumber, Cond.code yX4_beginNumber cX4_beginNumber 2 (some .boolean), Cond.methodLink RX4 72 yX2_open, Cond.instanceMethod yX2_open, Cond.selects RX2 yX2_open yX2_open, Cond.code yX2_open cX2_open 2 none, Cond.fieldLink RX2 27 "CutRows$Register" "givenSign" "I", Cond.fieldLink RX2 30 "CutRows$Register" "fed" "I", Cond.methodLink RX2 24 yX3_setZero, Cond.instanceMethod yX3_setZero, Cond.selects RX3 yX3_setZero yX3_setZero, Cond.code yX3_setZero cX3_setZero 1 none, Cond.fieldLink RX3 15 "CutRows$Whole" "size" "I", Cond.fieldLink RX3 19 "CutRows$Whole" "sign" "I", Cond.methodLink RL 34 yX5_beginNumber, Cond.instanceMethod yX5_beginNumber, Cond.selects RX5 yX5_beginNumber yX5_beginNumber, Cond.code yX5_beginNumber cX5_beginNumber 2 (some .boolean), Cond.fieldLink RX5 34 "CutRowsModel" "refusal" "I", Cond.fieldLink RX5 81 "CutRowsModel" "sign" "I"]
def wsL_law0_r6 : List Cond := [Cond.fieldLink RX5 84 "CutRowsModel" "state" "I", Cond.fieldLink RX5 87 "CutRowsModel" "given" "I", Cond.methodLink RX5 62 yX5_clear, Cond.instanceMethod yX5_clear, Cond.selects RX5 yX5_clear yX5_clear, Cond.code yX5_clear cX5_clear 2 none, Cond.methodLink RL 35 yX4_limb, Cond.instanceMethod yX4_limb, Cond.selects RX4 yX4_limb yX4_limb, Cond.code yX4_limb cX4_limb 2 (some .boolean), Cond.methodLink RX4 75 yX2_takesMore, Cond.instanceMethod yX2_takesMore, Cond.selects RX2 yX2_takesMore yX2_takesMore, Cond.code yX2_takesMore cX2_takesMore 1 (some .boolean), Cond.methodLink RX4 79 yX2_append, Cond.instanceMethod yX2_append, Cond.selects RX2 yX2_append yX2_append, Cond.code yX2_append cX2_append 2 none, Cond.fieldLink RX2 33 "CutRows$Whole" "limbs" "[I", Cond.fieldLink RX2 37 "CutRows$Whole" "size" "I", Cond.fieldLink RX2 40 "CutRows$Whole" "sign" "I", Cond.methodLink RL 38 yX5_limb, Cond.instanceMethod yX5_limb, Cond.selects RX5 yX5_limb yX5_limb]
def wsL_law0_r7 : List Cond := [Cond.code yX5_limb cX5_limb 2 (some .boolean), Cond.methodLink RL 39 yX4_endCoefficient, Cond.instanceMethod yX4_endCoefficient, Cond.selects RX4 yX4_endCoefficient yX4_endCoefficient, Cond.code yX4_endCoefficient cX4_endCoefficient 1 (some .boolean), Cond.fieldLink RX4 82 "CutRows$Register" "state" "I", Cond.fieldLink RX4 85 "CutRows" "vectorSize" "I", Cond.fieldLink RX4 88 "CutRows$Register" "number" "LCutRows$Whole;", Cond.methodLink RX4 91 yX3_copyFrom, Cond.instanceMethod yX3_copyFrom, Cond.selects RX3 yX3_copyFrom yX3_copyFrom, Cond.code yX3_copyFrom cX3_copyFrom 2 none, Cond.methodLink RX3 22 arraycopyName, Cond.native arraycopyName, Cond.static arraycopyName, Cond.initialized "java/lang/System", Cond.methodLink RX4 95 yX2_finish, Cond.instanceMethod yX2_finish, Cond.selects RX2 yX2_finish yX2_finish, Cond.code yX2_finish cX2_finish 1 none, Cond.methodLink RL 43 yX5_endCoefficient, Cond.instanceMethod yX5_endCoefficient, Cond.selects RX5 yX5_endCoefficient yX5_endCoefficient, Cond.code yX5_endCoefficient cX5_endCoefficient 1 (some .boolean)]
def wsL_law0_r8 : List Cond := [Cond.fieldLink RX5 90 "CutRowsModel" "filled" "I", Cond.methodLink RX5 93 yX5_settle, Cond.instanceMethod yX5_settle, Cond.selects RX5 yX5_settle yX5_settle, Cond.code yX5_settle cX5_settle 1 none, Cond.methodLink RX5 43 yX5_trim, Cond.instanceMethod yX5_trim, Cond.selects RX5 yX5_trim yX5_trim, Cond.code yX5_trim cX5_trim 2 none, Cond.methodLink RX5 58 yX5_copy, Cond.instanceMethod yX5_copy, Cond.selects RX5 yX5_copy yX5_copy, Cond.code yX5_copy cX5_copy 4 none, Cond.methodLink RL 44 yX4_endConstraint, Cond.instanceMethod yX4_endConstraint, Cond.selects RX4 yX4_endConstraint yX4_endConstraint, Cond.code yX4_endConstraint cX4_endConstraint 3 (some .int), Cond.fieldLink RX4 98 "CutRows" "sealed" "Z", Cond.fieldLink RX4 106 "CutRows" "inputRows" "I", Cond.methodLink RX4 102 yX0_keep, Cond.instanceMethod yX0_keep, Cond.selects RX0 yX0_keep yX0_keep, Cond.code yX0_keep cX0_keep 3 (some .int), Cond.fieldLink RX0 28 "CutRows$Arena" "rows" "I"]
def wsL_law0_r9 : List Cond := [Cond.fieldLink RX0 25 "CutRows$Arena" "used" "I", Cond.methodLink RX0 66 yX0_isFull, Cond.instanceMethod yX0_isFull, Cond.selects RX0 yX0_isFull yX0_isFull, Cond.code yX0_isFull cX0_isFull 1 (some .boolean), Cond.methodLink RX0 70 yX0_cellsFor, Cond.instanceMethod yX0_cellsFor, Cond.selects RX0 yX0_cellsFor yX0_cellsFor, Cond.code yX0_cellsFor cX0_cellsFor 4 (some .int), Cond.fieldLink RX0 57 "CutRows$Whole" "size" "I", Cond.methodLink RX0 74 yX0_cellsLeft, Cond.instanceMethod yX0_cellsLeft, Cond.selects RX0 yX0_cellsLeft yX0_cellsLeft, Cond.code yX0_cellsLeft cX0_cellsLeft 1 (some .int), Cond.methodLink RX0 78 yX0_append, Cond.instanceMethod yX0_append, Cond.selects RX0 yX0_append yX0_append, Cond.code yX0_append cX0_append 2 none, Cond.fieldLink RX0 63 "CutRows$Whole" "sign" "I", Cond.fieldLink RX0 46 "CutRows$Whole" "limbs" "[I", Cond.methodLink RX0 51 arraycopyName, Cond.methodLink RL 48 yX5_endConstraint, Cond.instanceMethod yX5_endConstraint, Cond.selects RX5 yX5_endConstraint yX5_endConstraint]
def wsL_law0_r10 : List Cond := [Cond.code yX5_endConstraint cX5_endConstraint 3 (some .int), Cond.fieldLink RX5 102 "CutRowsModel" "isSealed" "Z", Cond.fieldLink RX5 96 "CutRowsModel" "rows" "I", Cond.fieldLink RX5 109 "CutRowsModel" "input" "I", Cond.methodLink RX5 106 yX5_store, Cond.instanceMethod yX5_store, Cond.selects RX5 yX5_store yX5_store, Cond.code yX5_store cX5_store 4 (some .int), Cond.methodLink RX5 99 yX5_placeOf, Cond.static yX5_placeOf, Cond.code yX5_placeOf cX5_placeOf 2 (some .int), Cond.methodLink RL 49 yX4_sealInput, Cond.instanceMethod yX4_sealInput, Cond.selects RX4 yX4_sealInput yX4_sealInput, Cond.code yX4_sealInput cX4_sealInput 2 (some .boolean), Cond.methodLink RL 52 yX5_sealInput, Cond.instanceMethod yX5_sealInput, Cond.selects RX5 yX5_sealInput yX5_sealInput, Cond.code yX5_sealInput cX5_sealInput 2 (some .boolean), Cond.methodLink RL 53 yX4_combineStart, Cond.instanceMethod yX4_combineStart, Cond.selects RX4 yX4_combineStart yX4_combineStart, Cond.code yX4_combineStart cX4_combineStart 1 (some .boolean), Cond.fieldLink RX4 113 "CutRows" "sumBegun" "Z"]
def wsL_law0_r11 : List Cond := [Cond.methodLink RX4 109 yX4_setAllZero, Cond.static yX4_setAllZero, Cond.code yX4_setAllZero cX4_setAllZero 2 none, Cond.methodLink RX4 189 yX3_setZero, Cond.methodLink RL 56 yX5_combineStart, Cond.instanceMethod yX5_combineStart, Cond.selects RX5 yX5_combineStart yX5_combineStart, Cond.code yX5_combineStart cX5_combineStart 2 (some .boolean), Cond.fieldLink RX5 112 "CutRowsModel" "isBegun" "Z", Cond.methodLink RL 57 yX4_combineAdd, Cond.instanceMethod yX4_combineAdd, Cond.selects RX4 yX4_combineAdd yX4_combineAdd, Cond.code yX4_combineAdd cX4_combineAdd 3 (some .int), Cond.fieldLink RX4 123 "CutRows$Whole" "sign" "I", Cond.methodLink RX4 116 yX0_has, Cond.instanceMethod yX0_has, Cond.selects RX0 yX0_has yX0_has, Cond.code yX0_has cX0_has 2 (some .boolean), Cond.methodLink RX4 120 yX2_hasNumber, Cond.instanceMethod yX2_hasNumber, Cond.selects RX2 yX2_hasNumber yX2_hasNumber, Cond.code yX2_hasNumber cX2_hasNumber 1 (some .boolean), Cond.methodLink RX4 126 yX4_draftSumWith, Cond.instanceMethod yX4_draftSumWith]
def wsL_law0_r12 : List Cond := [Cond.selects RX4 yX4_draftSumWith yX4_draftSumWith, Cond.code yX4_draftSumWith cX4_draftSumWith 3 (some .boolean), Cond.fieldLink RX4 198 "CutRows$Whole" "size" "I", Cond.methodLink RX4 141 yX0_load, Cond.instanceMethod yX0_load, Cond.selects RX0 yX0_load yX0_load, Cond.code yX0_load cX0_load 5 none, Cond.methodLink RX0 42 yX0_sizeOf, Cond.instanceMethod yX0_sizeOf, Cond.selects RX0 yX0_sizeOf yX0_sizeOf, Cond.code yX0_sizeOf cX0_sizeOf 3 (some .int), Cond.methodLink RX0 37 Lib.Math.abs.name, Cond.static Lib.Math.abs.name, Cond.code Lib.Math.abs.name Lib.Math.abs.code 1 (some .int), Cond.methodLink RX0 60 yX0_signOf, Cond.instanceMethod yX0_signOf, Cond.selects RX0 yX0_signOf yX0_signOf, Cond.code yX0_signOf cX0_signOf 3 (some .int), Cond.methodLink RX0 31 yJ6_signum_0f7a4, Cond.static yJ6_signum_0f7a4, Cond.initialized RJ6, Cond.code yJ6_signum_0f7a4 cJ6_signum_0f7a4 1 (some .int), Cond.methodLink RX4 192 yX3_setProduct, Cond.instanceMethod yX3_setProduct]
def wsL_law0_r13 : List Cond := [Cond.selects RX3 yX3_setProduct yX3_setProduct, Cond.code yX3_setProduct cX3_setProduct 4 none, Cond.methodLink RX3 34 yJ7_fill_fda19, Cond.static yJ7_fill_fda19, Cond.initialized RJ7, Cond.code yJ7_fill_fda19 cJ7_fill_fda19 5 none, Cond.methodLink RJ7 13 yJ7_rangeCheck_23922, Cond.static yJ7_rangeCheck_23922, Cond.code yJ7_rangeCheck_23922 cJ7_rangeCheck_23922 3 none, Cond.classLink RJ7 45 RJ4, Cond.instantiable RJ4 4, Cond.initialized RJ4, Cond.methodLink RX3 40 yX3_addTimes, Cond.instanceMethod yX3_addTimes, Cond.selects RX3 yX3_addTimes yX3_addTimes, Cond.code yX3_addTimes cX3_addTimes 8 none, Cond.constant RX3 48 (2147483647), Cond.methodLink RX3 44 yX3_settle, Cond.instanceMethod yX3_settle, Cond.selects RX3 yX3_settle yX3_settle, Cond.code yX3_settle cX3_settle 3 none, Cond.methodLink RX4 195 yX3_add, Cond.instanceMethod yX3_add, Cond.selects RX3 yX3_add yX3_add]
def wsL_law0_r14 : List Cond := [Cond.code yX3_add cX3_add 2 none, Cond.methodLink RX3 49 yX3_addLimbs, Cond.instanceMethod yX3_addLimbs, Cond.selects RX3 yX3_addLimbs yX3_addLimbs, Cond.code yX3_addLimbs cX3_addLimbs 7 none, Cond.methodLink RX3 61 Lib.Math.max.name, Cond.methodLink RX3 66 yX3_digit, Cond.instanceMethod yX3_digit, Cond.selects RX3 yX3_digit yX3_digit, Cond.code yX3_digit cX3_digit 2 (some .int), Cond.methodLink RX3 53 yX3_compareSize, Cond.instanceMethod yX3_compareSize, Cond.selects RX3 yX3_compareSize yX3_compareSize, Cond.code yX3_compareSize cX3_compareSize 3 (some .int), Cond.methodLink RX3 28 yJ6_compare_7cf53, Cond.static yJ6_compare_7cf53, Cond.code yJ6_compare_7cf53 cJ6_compare_7cf53 2 (some .int), Cond.methodLink RX3 57 yX3_setDifference, Cond.instanceMethod yX3_setDifference, Cond.selects RX3 yX3_setDifference yX3_setDifference, Cond.code yX3_setDifference cX3_setDifference 8 none, Cond.methodLink RL 60 yX5_combineAdd, Cond.instanceMethod yX5_combineAdd, Cond.selects RX5 yX5_combineAdd yX5_combineAdd]
def wsL_law0_r15 : List Cond := [Cond.code yX5_combineAdd cX5_combineAdd 3 (some .int), Cond.methodLink RX5 115 yX5_isRow, Cond.instanceMethod yX5_isRow, Cond.selects RX5 yX5_isRow yX5_isRow, Cond.code yX5_isRow cX5_isRow 2 (some .boolean), Cond.methodLink RX5 118 yX5_multiply, Cond.instanceMethod yX5_multiply, Cond.selects RX5 yX5_multiply yX5_multiply, Cond.code yX5_multiply cX5_multiply 12 none, Cond.constantLong RX5 41 (2147483647), Cond.methodLink RX5 37 yX5_limbOf, Cond.instanceMethod yX5_limbOf, Cond.selects RX5 yX5_limbOf yX5_limbOf, Cond.code yX5_limbOf cX5_limbOf 3 (some .long), Cond.methodLink RX5 121 yX5_add, Cond.instanceMethod yX5_add, Cond.selects RX5 yX5_add yX5_add, Cond.code yX5_add cX5_add 6 none, Cond.methodLink RX5 47 yX5_addSizes, Cond.instanceMethod yX5_addSizes, Cond.selects RX5 yX5_addSizes yX5_addSizes, Cond.code yX5_addSizes cX5_addSizes 10 none, Cond.methodLink RX5 51 yX5_compareSizes, Cond.instanceMethod yX5_compareSizes]
def wsL_law0_r16 : List Cond := [Cond.selects RX5 yX5_compareSizes yX5_compareSizes, Cond.code yX5_compareSizes cX5_compareSizes 4 (some .int), Cond.methodLink RX5 54 yX5_subtractSizes, Cond.instanceMethod yX5_subtractSizes, Cond.selects RX5 yX5_subtractSizes yX5_subtractSizes, Cond.code yX5_subtractSizes cX5_subtractSizes 10 none, Cond.methodLink RL 61 yX4_combineEnd, Cond.instanceMethod yX4_combineEnd, Cond.selects RX4 yX4_combineEnd yX4_combineEnd, Cond.code yX4_combineEnd cX4_combineEnd 2 (some .int), Cond.methodLink RX4 129 yX4_keepMade, Cond.instanceMethod yX4_keepMade, Cond.selects RX4 yX4_keepMade yX4_keepMade, Cond.code yX4_keepMade cX4_keepMade 3 (some .int), Cond.fieldLink RX4 149 "CutRows" "contradicted" "Z", Cond.methodLink RX4 132 yX4_hasCoefficient, Cond.instanceMethod yX4_hasCoefficient, Cond.selects RX4 yX4_hasCoefficient yX4_hasCoefficient, Cond.code yX4_hasCoefficient cX4_hasCoefficient 3 (some .boolean), Cond.methodLink RX4 165 yX0_signOf, Cond.methodLink RL 64 yX5_combineEnd, Cond.instanceMethod yX5_combineEnd, Cond.selects RX5 yX5_combineEnd yX5_combineEnd, Cond.code yX5_combineEnd cX5_combineEnd 2 (some .int)]
def wsL_law0_r17 : List Cond := [Cond.methodLink RL 65 yX4_divideRound, Cond.instanceMethod yX4_divideRound, Cond.selects RX4 yX4_divideRound yX4_divideRound, Cond.code yX4_divideRound cX4_divideRound 3 (some .int), Cond.methodLink RX4 135 yX0_isFull, Cond.methodLink RX4 138 yX4_findGreatestDivisor, Cond.instanceMethod yX4_findGreatestDivisor, Cond.selects RX4 yX4_findGreatestDivisor yX4_findGreatestDivisor, Cond.code yX4_findGreatestDivisor cX4_findGreatestDivisor 3 none, Cond.fieldLink RX4 201 "CutRows$Divider" "greatest" "LCutRows$Whole;", Cond.methodLink RX4 204 yX1_narrowGreatest, Cond.instanceMethod yX1_narrowGreatest, Cond.selects RX1 yX1_narrowGreatest yX1_narrowGreatest, Cond.code yX1_narrowGreatest cX1_narrowGreatest 3 none, Cond.constant RX1 33 (1000000), Cond.fieldLink RX1 34 "CutRows$Whole" "size" "I", Cond.methodLink RX1 38 yX1_divide, Cond.instanceMethod yX1_divide, Cond.selects RX1 yX1_divide yX1_divide, Cond.code yX1_divide cX1_divide 3 none, Cond.fieldLink RX1 59 "CutRows$Whole" "limbs" "[I", Cond.methodLink RX1 52 yX3_compareSize, Cond.methodLink RX1 56 yX3_setZero, Cond.methodLink RX1 42 yX3_copyFrom]
def wsL_law0_r18 : List Cond := [Cond.methodLink RX1 62 yX1_divideByDigit, Cond.instanceMethod yX1_divideByDigit, Cond.selects RX1 yX1_divideByDigit yX1_divideByDigit, Cond.code yX1_divideByDigit cX1_divideByDigit 6 none, Cond.methodLink RX1 69 yX3_settle, Cond.methodLink RX1 66 yX1_divideByMany, Cond.instanceMethod yX1_divideByMany, Cond.selects RX1 yX1_divideByMany yX1_divideByMany, Cond.code yX1_divideByMany cX1_divideByMany 8 none, Cond.constant RX1 91 (2147483647), Cond.methodLink RX1 73 yJ6_numberOfLeadingZeros_0f7a4, Cond.static yJ6_numberOfLeadingZeros_0f7a4, Cond.code yJ6_numberOfLeadingZeros_0f7a4 cJ6_numberOfLeadingZeros_0f7a4 2 (some .int), Cond.constant RJ6 264 (65536), Cond.methodLink RX1 79 yX1_shiftUp, Cond.static yX1_shiftUp, Cond.code yX1_shiftUp cX1_shiftUp 6 (some .int), Cond.methodLink RX1 83 yX1_guessDigit, Cond.instanceMethod yX1_guessDigit, Cond.selects RX1 yX1_guessDigit yX1_guessDigit, Cond.code yX1_guessDigit cX1_guessDigit 16 (some .long), Cond.constantLong RX1 92 (2147483647), Cond.methodLink RX1 87 yX1_takeOut, Cond.instanceMethod yX1_takeOut]
def wsL_law0_r19 : List Cond := [Cond.selects RX1 yX1_takeOut yX1_takeOut, Cond.code yX1_takeOut cX1_takeOut 9 (some .int), Cond.methodLink RX1 94 yX1_putBack, Cond.instanceMethod yX1_putBack, Cond.selects RX1 yX1_putBack yX1_putBack, Cond.code yX1_putBack cX1_putBack 6 none, Cond.methodLink RX4 145 yX1_floorByGreatest, Cond.instanceMethod yX1_floorByGreatest, Cond.selects RX1 yX1_floorByGreatest yX1_floorByGreatest, Cond.code yX1_floorByGreatest cX1_floorByGreatest 3 none, Cond.fieldLink RX1 46 "CutRows$Whole" "sign" "I", Cond.methodLink RX1 49 yX3_growByOne, Cond.instanceMethod yX3_growByOne, Cond.selects RX3 yX3_growByOne yX3_growByOne, Cond.code yX3_growByOne cX3_growByOne 3 none, Cond.methodLink RL 68 yX5_divideRound, Cond.instanceMethod yX5_divideRound, Cond.selects RX5 yX5_divideRound yX5_divideRound, Cond.code yX5_divideRound cX5_divideRound 5 (some .int), Cond.methodLink RX5 124 yX5_common, Cond.instanceMethod yX5_common, Cond.selects RX5 yX5_common yX5_common, Cond.code yX5_common cX5_common 4 none, Cond.methodLink RX5 74 yX5_isEven]
def wsL_law0_r20 : List Cond := [Cond.instanceMethod yX5_isEven, Cond.selects RX5 yX5_isEven yX5_isEven, Cond.code yX5_isEven cX5_isEven 2 (some .boolean), Cond.constantLong RX5 72 (2), Cond.methodLink RX5 78 yX5_halve, Cond.instanceMethod yX5_halve, Cond.selects RX5 yX5_halve yX5_halve, Cond.code yX5_halve cX5_halve 6 none, Cond.methodLink RX5 127 yX5_divide, Cond.instanceMethod yX5_divide, Cond.selects RX5 yX5_divide yX5_divide, Cond.code yX5_divide cX5_divide 10 none, Cond.methodLink RX5 65 yX5_bitsOf, Cond.instanceMethod yX5_bitsOf, Cond.selects RX5 yX5_bitsOf yX5_bitsOf, Cond.code yX5_bitsOf cX5_bitsOf 4 (some .int), Cond.constant RX5 57 (1073741824), Cond.methodLink RX5 69 yX5_bitOf, Cond.instanceMethod yX5_bitOf, Cond.selects RX5 yX5_bitOf yX5_bitOf, Cond.code yX5_bitOf cX5_bitOf 3 (some .int), Cond.methodLink RL 69 yX4_refuted, Cond.instanceMethod yX4_refuted, Cond.selects RX4 yX4_refuted yX4_refuted]
def wsL_law0_r21 : List Cond := [Cond.code yX4_refuted cX4_refuted 1 (some .boolean), Cond.methodLink RL 72 yX5_refuted, Cond.instanceMethod yX5_refuted, Cond.selects RX5 yX5_refuted yX5_refuted, Cond.code yX5_refuted cX5_refuted 4 (some .boolean), Cond.methodLink RL 73 yX4_rowCount, Cond.instanceMethod yX4_rowCount, Cond.selects RX4 yX4_rowCount yX4_rowCount, Cond.code yX4_rowCount cX4_rowCount 1 (some .int), Cond.fieldLink RX4 152 "CutRows$Arena" "rows" "I", Cond.methodLink RL 76 yX5_rowCount, Cond.instanceMethod yX5_rowCount, Cond.selects RX5 yX5_rowCount yX5_rowCount, Cond.code yX5_rowCount cX5_rowCount 1 (some .int), Cond.methodLink RL 77 yX4_evalStart, Cond.instanceMethod yX4_evalStart, Cond.selects RX4 yX4_evalStart yX4_evalStart, Cond.code yX4_evalStart cX4_evalStart 1 (some .boolean), Cond.methodLink RL 80 yX5_evalStart, Cond.instanceMethod yX5_evalStart, Cond.selects RX5 yX5_evalStart yX5_evalStart, Cond.code yX5_evalStart cX5_evalStart 2 (some .boolean), Cond.methodLink RL 81 yX4_evalPoint, Cond.instanceMethod yX4_evalPoint]
def wsL_law0_r22 : List Cond := [Cond.selects RX4 yX4_evalPoint yX4_evalPoint, Cond.code yX4_evalPoint cX4_evalPoint 2 (some .boolean), Cond.methodLink RL 84 yX5_evalPoint, Cond.instanceMethod yX5_evalPoint, Cond.selects RX5 yX5_evalPoint yX5_evalPoint, Cond.code yX5_evalPoint cX5_evalPoint 2 (some .boolean), Cond.methodLink RL 85 yX4_evalSatisfied, Cond.instanceMethod yX4_evalSatisfied, Cond.selects RX4 yX4_evalSatisfied yX4_evalSatisfied, Cond.code yX4_evalSatisfied cX4_evalSatisfied 2 (some .int), Cond.methodLink RX4 155 yX4_holdsAtPoint, Cond.instanceMethod yX4_holdsAtPoint, Cond.selects RX4 yX4_holdsAtPoint yX4_holdsAtPoint, Cond.code yX4_holdsAtPoint cX4_holdsAtPoint 3 (some .boolean), Cond.methodLink RL 88 yX5_evalSatisfied, Cond.instanceMethod yX5_evalSatisfied, Cond.selects RX5 yX5_evalSatisfied yX5_evalSatisfied, Cond.code yX5_evalSatisfied cX5_evalSatisfied 2 (some .int), Cond.methodLink RX5 130 yX5_holds, Cond.instanceMethod yX5_holds, Cond.selects RX5 yX5_holds yX5_holds, Cond.code yX5_holds cX5_holds 3 (some .boolean), Cond.methodLink RL 89 yL_cell_, Cond.static yL_cell_]
def wsL_law0_r23 : List Cond := [Cond.codeWith yL_cell_ cL_cell_ 6 (some .int) [(0, 12, 15, 13)], Cond.classLink RL 13 "java/lang/IllegalArgumentException", Cond.methodLink RL 7 yX4_cell, Cond.instanceMethod yX4_cell, Cond.selects RX4 yX4_cell yX4_cell, Cond.code yX4_cell cX4_cell 4 (some .int), Cond.classLink RX4 158 "java/lang/IllegalArgumentException", Cond.initialized "java/lang/IllegalArgumentException", Cond.methodLink RX4 168 yX0_sizeOf, Cond.methodLink RX4 171 yX0_digitOf, Cond.instanceMethod yX0_digitOf, Cond.selects RX0 yX0_digitOf yX0_digitOf, Cond.code yX0_digitOf cX0_digitOf 4 (some .int), Cond.methodLink RL 92 yX5_cell, Cond.instanceMethod yX5_cell, Cond.selects RX5 yX5_cell yX5_cell, Cond.code yX5_cell cX5_cell 5 (some .int), Cond.methodLink RX5 133 yX5_refused, Cond.instanceMethod yX5_refused, Cond.selects RX5 yX5_refused yX5_refused, Cond.code yX5_refused cX5_refused 2 (some .boolean), Cond.methodLink RL 93 yX5_thrown, Cond.instanceMethod yX5_thrown, Cond.selects RX5 yX5_thrown yX5_thrown]
def wsL_law0_r24 : List Cond := [Cond.code yX5_thrown cX5_thrown 1 (some .int), Cond.methodLink RL 96 yL_count, Cond.static yL_count, Cond.codeWith yL_count cL_count 4 (some .int) [(0, 9, 12, 13)], Cond.methodLink RL 15 yX4_count, Cond.instanceMethod yX4_count, Cond.selects RX4 yX4_count yX4_count, Cond.code yX4_count cX4_count 2 (some .int), Cond.methodLink RX4 175 yX0_cellsLeft, Cond.methodLink RL 99 yX5_count, Cond.instanceMethod yX5_count, Cond.selects RX5 yX5_count yX5_count, Cond.code yX5_count cX5_count 2 (some .int)]
def wsL_law0 : List Cond := (wsL_law0_r1 ++ (wsL_law0_r2 ++ (wsL_law0_r3 ++ (wsL_law0_r4 ++ (wsL_law0_r5 ++ (wsL_law0_r6 ++ (wsL_law0_r7 ++ (wsL_law0_r8 ++ (wsL_law0_r9 ++ (wsL_law0_r10 ++ (wsL_law0_r11 ++ (wsL_law0_r12 ++ (wsL_law0_r13 ++ (wsL_law0_r14 ++ (wsL_law0_r15 ++ (wsL_law0_r16 ++ (wsL_law0_r17 ++ (wsL_law0_r18 ++ (wsL_law0_r19 ++ (wsL_law0_r20 ++ (wsL_law0_r21 ++ (wsL_law0_r22 ++ (wsL_law0_r23 ++ wsL_law0_r24))))))))))))))))))))))) ++ wsX40 ++ wsX50 ++ wsX00 ++ wsX20 ++ wsX10 ++ wsX30 ++ wsJ40 ++ ([] : List Cond)
def wsL_law : List Cond := wsL_law0 ++ (vx_atS RX4 162 "java/lang/IllegalArgumentException" ["java/lang/RuntimeException", "java/lang/Exception"]).filter goodWord
theorem mem_ix {ws big : List Cond} {ps : List Nat} (h : ws = ps.filterMap (fun i => big[i]?)) : ∀ w ∈ ws, w ∈ big := fun w hw => by
  rw [h] at hw
  obtain ⟨i, -, hi⟩ := List.mem_filterMap.mp hw
  exact List.mem_of_getElem? hi
set_option maxRecDepth 20000 in
theorem wl_1 : ∀ w ∈ wsL_law0_r1, w ∈ lw_tbl := mem_ix (ps := [59, 60, 38, 807, 808, 44, 1017, 779, 780, 37, 781, 61, 62, 63, 64, 65, 66, 182, 76, 77, 40, 183, 103, 104]) (by decide +kernel)
set_option maxRecDepth 20000 in
theorem wl_2 : ∀ w ∈ wsL_law0_r2, w ∈ lw_tbl := mem_ix (ps := [41, 184, 185, 186, 157, 158, 43, 187, 193, 194, 154, 110, 42, 195, 196, 197, 67, 68, 69, 70, 71, 39, 72, 73]) (by decide +kernel)
set_option maxRecDepth 20000 in
theorem wl_3 : ∀ w ∈ wsL_law0_r3, w ∈ lw_tbl := mem_ix (ps := [74, 75, 78, 79, 80, 81, 84, 85, 102, 82, 83, 106, 107, 108, 109, 136, 138, 111, 112, 113, 114, 115, 151, 152]) (by decide +kernel)
set_option maxRecDepth 20000 in
theorem wl_4 : ∀ w ∈ wsL_law0_r4, w ∈ lw_tbl := mem_ix (ps := [153, 156, 160, 161, 162, 163, 165, 167, 168, 169, 170, 164, 809, 810, 811, 812, 820, 821, 862, 822, 817, 818, 819, 813]) (by decide +kernel)
set_option maxRecDepth 20000 in
theorem wl_5 : ∀ w ∈ wsL_law0_r5, w ∈ lw_tbl := mem_ix (ps := [814, 815, 231, 232, 233, 234, 235, 236, 237, 238, 140, 141, 239, 240, 241, 242, 119, 124, 867, 868, 869, 870, 816, 829]) (by decide +kernel)
set_option maxRecDepth 20000 in
theorem wl_6 : ∀ w ∈ wsL_law0_r6, w ∈ lw_tbl := mem_ix (ps := [828, 830, 871, 873, 17, 874, 243, 244, 245, 246, 247, 248, 249, 250, 251, 252, 253, 254, 116, 121, 126, 875, 876, 877]) (by decide +kernel)
set_option maxRecDepth 20000 in
theorem wl_7 : ∀ w ∈ wsL_law0_r7, w ∈ lw_tbl := mem_ix (ps := [878, 255, 256, 257, 258, 139, 188, 137, 259, 260, 261, 262, 263, 265, 264, 45, 266, 267, 268, 269, 879, 880, 881, 882]) (by decide +kernel)
set_option maxRecDepth 20000 in
theorem wl_8 : ∀ w ∈ wsL_law0_r8, w ∈ lw_tbl := mem_ix (ps := [825, 883, 885, 18, 886, 887, 889, 19, 890, 891, 893, 20, 894, 270, 271, 272, 273, 190, 189, 274, 275, 276, 277, 87]) (by decide +kernel)
set_option maxRecDepth 20000 in
theorem wl_9 : ∀ w ∈ wsL_law0_r9, w ∈ lw_tbl := mem_ix (ps := [86, 278, 279, 280, 281, 282, 284, 0, 285, 122, 286, 287, 288, 289, 290, 292, 1, 293, 128, 118, 294, 895, 896, 897]) (by decide +kernel)
set_option maxRecDepth 20000 in
theorem wl_10 : ∀ w ∈ wsL_law0_r10, w ∈ lw_tbl := mem_ix (ps := [898, 826, 823, 824, 899, 901, 21, 902, 903, 904, 905, 295, 296, 297, 298, 906, 907, 908, 909, 299, 300, 301, 302, 191]) (by decide +kernel)
set_option maxRecDepth 20000 in
theorem wl_11 : ∀ w ∈ wsL_law0_r11, w ∈ lw_tbl := mem_ix (ps := [303, 304, 305, 306, 910, 911, 912, 913, 827, 307, 308, 309, 310, 127, 311, 312, 313, 314, 315, 316, 317, 318, 319, 321]) (by decide +kernel)
set_option maxRecDepth 20000 in
theorem wl_12 : ∀ w ∈ wsL_law0_r12, w ∈ lw_tbl := mem_ix (ps := [2, 322, 123, 323, 324, 325, 326, 327, 328, 329, 330, 331, 332, 333, 334, 335, 336, 337, 338, 339, 46, 340, 341, 342]) (by decide +kernel)
set_option maxRecDepth 20000 in
theorem wl_13 : ∀ w ∈ wsL_law0_r13, w ∈ lw_tbl := mem_ix (ps := [343, 344, 345, 346, 47, 347, 348, 349, 350, 390, 391, 53, 650, 652, 4, 653, 654, 655, 656, 657, 658, 659, 660, 661]) (by decide +kernel)
set_option maxRecDepth 20000 in
theorem wl_14 : ∀ w ∈ wsL_law0_r14, w ∈ lw_tbl := mem_ix (ps := [662, 663, 665, 5, 666, 667, 668, 669, 670, 671, 672, 673, 674, 675, 676, 677, 678, 679, 681, 6, 682, 914, 915, 916]) (by decide +kernel)
set_option maxRecDepth 20000 in
theorem wl_15 : ∀ w ∈ wsL_law0_r15, w ∈ lw_tbl := mem_ix (ps := [917, 918, 920, 22, 921, 922, 924, 23, 925, 930, 926, 928, 24, 929, 931, 933, 25, 934, 935, 937, 26, 938, 939, 941]) (by decide +kernel)
set_option maxRecDepth 20000 in
theorem wl_16 : ∀ w ∈ wsL_law0_r16, w ∈ lw_tbl := mem_ix (ps := [27, 942, 943, 945, 28, 946, 683, 684, 685, 686, 687, 689, 7, 690, 192, 691, 693, 8, 694, 695, 947, 948, 949, 950]) (by decide +kernel)
set_option maxRecDepth 20000 in
theorem wl_17 : ∀ w ∈ wsL_law0_r17, w ∈ lw_tbl := mem_ix (ps := [696, 697, 698, 699, 700, 701, 703, 9, 704, 166, 705, 706, 707, 708, 709, 120, 710, 712, 10, 713, 117, 714, 715, 716]) (by decide +kernel)
set_option maxRecDepth 20000 in
theorem wl_18 : ∀ w ∈ wsL_law0_r18, w ∈ lw_tbl := mem_ix (ps := [717, 719, 11, 720, 721, 722, 724, 12, 725, 733, 726, 727, 728, 729, 730, 731, 732, 734, 736, 13, 737, 738, 739, 741]) (by decide +kernel)
set_option maxRecDepth 20000 in
theorem wl_19 : ∀ w ∈ wsL_law0_r19, w ∈ lw_tbl := mem_ix (ps := [14, 742, 743, 745, 15, 746, 747, 748, 749, 750, 125, 751, 752, 753, 754, 951, 952, 953, 954, 955, 957, 29, 958, 959]) (by decide +kernel)
set_option maxRecDepth 20000 in
theorem wl_20 : ∀ w ∈ wsL_law0_r20, w ∈ lw_tbl := mem_ix (ps := [961, 30, 962, 963, 964, 966, 31, 967, 968, 970, 32, 971, 972, 974, 33, 975, 976, 977, 979, 34, 980, 755, 756, 757]) (by decide +kernel)
set_option maxRecDepth 20000 in
theorem wl_21 : ∀ w ∈ wsL_law0_r21, w ∈ lw_tbl := mem_ix (ps := [758, 981, 982, 983, 984, 759, 760, 761, 762, 88, 985, 986, 987, 988, 763, 764, 765, 766, 989, 990, 991, 992, 767, 768]) (by decide +kernel)
set_option maxRecDepth 20000 in
theorem wl_22 : ∀ w ∈ wsL_law0_r22, w ∈ lw_tbl := mem_ix (ps := [769, 770, 993, 994, 995, 996, 771, 772, 773, 774, 775, 777, 16, 778, 997, 998, 999, 1000, 1001, 1003, 35, 1004, 782, 783]) (by decide +kernel)
set_option maxRecDepth 20000 in
theorem wl_23 : ∀ w ∈ wsL_law0_r23, w ∈ lw_tbl := mem_ix (ps := [784, 785, 786, 787, 788, 789, 790, 51, 793, 794, 795, 796, 797, 1005, 1006, 1007, 1008, 1009, 1011, 36, 1012, 863, 864, 865]) (by decide +kernel)
set_option maxRecDepth 20000 in
theorem wl_24 : ∀ w ∈ wsL_law0_r24, w ∈ lw_tbl := mem_ix (ps := [866, 798, 799, 800, 801, 802, 803, 804, 805, 1013, 1014, 1015, 1016]) (by decide +kernel)
theorem wl_X4 : ∀ w ∈ wsX40, w ∈ lw_tbl := by decide +kernel
theorem wl_X5 : ∀ w ∈ wsX50, w ∈ lw_tbl := by decide +kernel
theorem wl_X0 : ∀ w ∈ wsX00, w ∈ lw_tbl := by decide +kernel
theorem wl_X2 : ∀ w ∈ wsX20, w ∈ lw_tbl := by decide +kernel
theorem wl_X1 : ∀ w ∈ wsX10, w ∈ lw_tbl := by decide +kernel
theorem wl_X3 : ∀ w ∈ wsX30, w ∈ lw_tbl := by decide +kernel
theorem wl_J4 : ∀ w ∈ wsJ40, w ∈ lw_tbl := by decide +kernel
theorem wsL_law_in0 : ∀ w ∈ wsL_law0, w ∈ lw_tbl := List.forall_mem_append.mpr ⟨(List.forall_mem_append.mpr ⟨(List.forall_mem_append.mpr ⟨(List.forall_mem_append.mpr ⟨(List.forall_mem_append.mpr ⟨(List.forall_mem_append.mpr ⟨(List.forall_mem_append.mpr ⟨(List.forall_mem_append.mpr ⟨(List.forall_mem_append.mpr ⟨wl_1, List.forall_mem_append.mpr ⟨wl_2, List.forall_mem_append.mpr ⟨wl_3, List.forall_mem_append.mpr ⟨wl_4, List.forall_mem_append.mpr ⟨wl_5, List.forall_mem_append.mpr ⟨wl_6, List.forall_mem_append.mpr ⟨wl_7, List.forall_mem_append.mpr ⟨wl_8, List.forall_mem_append.mpr ⟨wl_9, List.forall_mem_append.mpr ⟨wl_10, List.forall_mem_append.mpr ⟨wl_11, List.forall_mem_append.mpr ⟨wl_12, List.forall_mem_append.mpr ⟨wl_13, List.forall_mem_append.mpr ⟨wl_14, List.forall_mem_append.mpr ⟨wl_15, List.forall_mem_append.mpr ⟨wl_16, List.forall_mem_append.mpr ⟨wl_17, List.forall_mem_append.mpr ⟨wl_18, List.forall_mem_append.mpr ⟨wl_19, List.forall_mem_append.mpr ⟨wl_20, List.forall_mem_append.mpr ⟨wl_21, List.forall_mem_append.mpr ⟨wl_22, List.forall_mem_append.mpr ⟨wl_23, wl_24⟩⟩⟩⟩⟩⟩⟩⟩⟩⟩⟩⟩⟩⟩⟩⟩⟩⟩⟩⟩⟩⟩⟩), wl_X4⟩), wl_X5⟩), wl_X0⟩), wl_X2⟩), wl_X1⟩), wl_X3⟩), wl_J4⟩), fun _ h => absurd h List.not_mem_nil⟩
theorem wsL_law_x0 : ∀ w ∈ (vx_atS RX4 162 "java/lang/IllegalArgumentException" ["java/lang/RuntimeException", "java/lang/Exception"]).filter goodWord, w ∈ lw_tbl := by decide +kernel
theorem wsL_law_in : ∀ w ∈ wsL_law, w ∈ lw_tbl := fun w h => (List.mem_append.mp h).elim (fun h => wsL_law_in0 w h) (fun h => wsL_law_x0 w h)
theorem inlX0 : ∀ w ∈ wsX00, w ∈ wsL_law := fun _ h => List.mem_append_left _ (List.mem_append_left _ (List.mem_append_left _ (List.mem_append_left _ (List.mem_append_left _ (List.mem_append_left _ (List.mem_append_right _ h))))))
theorem inX0 : ∀ w ∈ wsX00, w ∈ lw_tbl := fun w h => wsL_law_in w (inlX0 w h)
theorem inlX1 : ∀ w ∈ wsX10, w ∈ wsL_law := fun _ h => List.mem_append_left _ (List.mem_append_left _ (List.mem_append_left _ (List.mem_append_left _ (List.mem_append_right _ h))))
theorem inX1 : ∀ w ∈ wsX10, w ∈ lw_tbl := fun w h => wsL_law_in w (inlX1 w h)
theorem inlX2 : ∀ w ∈ wsX20, w ∈ wsL_law := fun _ h => List.mem_append_left _ (List.mem_append_left _ (List.mem_append_left _ (List.mem_append_left _ (List.mem_append_left _ (List.mem_append_right _ h)))))
theorem inX2 : ∀ w ∈ wsX20, w ∈ lw_tbl := fun w h => wsL_law_in w (inlX2 w h)
theorem inlX3 : ∀ w ∈ wsX30, w ∈ wsL_law := fun _ h => List.mem_append_left _ (List.mem_append_left _ (List.mem_append_left _ (List.mem_append_right _ h)))
theorem inX3 : ∀ w ∈ wsX30, w ∈ lw_tbl := fun w h => wsL_law_in w (inlX3 w h)
theorem inlX4 : ∀ w ∈ wsX40, w ∈ wsL_law := fun _ h => List.mem_append_left _ (List.mem_append_left _ (List.mem_append_left _ (List.mem_append_left _ (List.mem_append_left _ (List.mem_append_left _ (List.mem_append_left _ (List.mem_append_left _ (List.mem_append_right _ h))))))))
theorem inX4 : ∀ w ∈ wsX40, w ∈ lw_tbl := fun w h => wsL_law_in w (inlX4 w h)
theorem inlX5 : ∀ w ∈ wsX50, w ∈ wsL_law := fun _ h => List.mem_append_left _ (List.mem_append_left _ (List.mem_append_left _ (List.mem_append_left _ (List.mem_append_left _ (List.mem_append_left _ (List.mem_append_left _ (List.mem_append_right _ h)))))))
theorem inX5 : ∀ w ∈ wsX50, w ∈ lw_tbl := fun w h => wsL_law_in w (inlX5 w h)
theorem inJ5 : ∀ w ∈ wsJ50, w ∈ lw_tbl := by decide +kernel
theorem inJx8e188 : ∀ w ∈ wsJx8e1880, w ∈ lw_tbl := by decide +kernel
theorem inJ6 : ∀ w ∈ wsJ60, w ∈ lw_tbl := by decide +kernel
theorem inJ9 : ∀ w ∈ wsJ90, w ∈ lw_tbl := by decide +kernel
theorem inJ0 : ∀ w ∈ wsJ00, w ∈ lw_tbl := by decide +kernel
theorem inlJ4 : ∀ w ∈ wsJ40, w ∈ wsL_law := fun _ h => List.mem_append_left _ (List.mem_append_left _ (List.mem_append_right _ h))
theorem inJ4 : ∀ w ∈ wsJ40, w ∈ lw_tbl := fun w h => wsL_law_in w (inlJ4 w h)
theorem inJ1 : ∀ w ∈ wsJ10, w ∈ lw_tbl := by decide +kernel
theorem inJ2 : ∀ w ∈ wsJ20, w ∈ lw_tbl := by decide +kernel
theorem inJ10 : ∀ w ∈ wsJ100, w ∈ lw_tbl := by decide +kernel
theorem inJ7 : ∀ w ∈ wsJ70, w ∈ lw_tbl := by decide +kernel
theorem inJ8 : ∀ w ∈ wsJ80, w ∈ lw_tbl := by decide +kernel
theorem inJ3 : ∀ w ∈ wsJ30, w ∈ lw_tbl := by decide +kernel
set_option maxRecDepth 20000 in
theorem ggX4_cell_X0_has : GoodIn wsX4_cell wsX0_has := goodIn_r _ [9, 10, 51, 52, 53, 54, 55, 56] (by decide +kernel) (by decide +kernel)
set_option maxRecDepth 20000 in
theorem gX4_cell_X0_has : GoodIn wsX4_cell (wsV RX4 116 RX0 yX0_has wsX0_has) := goodIn_app (goodIn_of _ (by decide +kernel)) ggX4_cell_X0_has
set_option maxRecDepth 20000 in
theorem ggX4_cell_X0_signOf : GoodIn wsX4_cell wsX0_signOf := goodIn_r _ [14, 15, 16, 17, 18, 19, 20, 21, 51, 52, 53, 54, 55, 56] (by decide +kernel) (by decide +kernel)
set_option maxRecDepth 20000 in
theorem gX4_cell_X0_signOf : GoodIn wsX4_cell (wsV RX4 165 RX0 yX0_signOf wsX0_signOf) := goodIn_app (goodIn_of _ (by decide +kernel)) ggX4_cell_X0_signOf
set_option maxRecDepth 20000 in
theorem ggX4_cell_X0_sizeOf : GoodIn wsX4_cell wsX0_sizeOf := goodIn_r _ [25, 15, 16, 17, 26, 27, 28, 29, 51, 52, 53, 54, 55, 56] (by decide +kernel) (by decide +kernel)
set_option maxRecDepth 20000 in
theorem gX4_cell_X0_sizeOf : GoodIn wsX4_cell (wsV RX4 168 RX0 yX0_sizeOf wsX0_sizeOf) := goodIn_app (goodIn_of _ (by decide +kernel)) ggX4_cell_X0_sizeOf
set_option maxRecDepth 20000 in
theorem ggX4_cell_X0_digitOf : GoodIn wsX4_cell wsX0_digitOf := goodIn_r _ [33, 15, 16, 17, 34, 23, 24, 8, 25, 26, 27, 28, 29, 51, 52, 53, 54, 55, 56] (by decide +kernel) (by decide +kernel)
set_option maxRecDepth 20000 in
theorem gX4_cell_X0_digitOf : GoodIn wsX4_cell (wsV RX4 171 RX0 yX0_digitOf wsX0_digitOf) := goodIn_app (goodIn_of _ (by decide +kernel)) ggX4_cell_X0_digitOf
set_option maxRecDepth 20000 in
theorem ggX4_count_X0_cellsLeft : GoodIn wsX4_count wsX0_cellsLeft := goodIn_r _ [14, 15, 16, 37, 38, 39, 40, 41, 42] (by decide +kernel) (by decide +kernel)
set_option maxRecDepth 20000 in
theorem gX4_count_X0_cellsLeft : GoodIn wsX4_count (wsV RX4 175 RX0 yX0_cellsLeft wsX0_cellsLeft) := goodIn_app (goodIn_of _ (by decide +kernel)) ggX4_count_X0_cellsLeft
theorem dL_cell_0 : decode cL_cell 0 = .ok (.iload_n 1, 1) := by decide +kernel
theorem dL_cell_1 : decode cL_cell 1 = .ok (.aload_n 0, 1) := by decide +kernel
theorem dL_cell_2 : decode cL_cell 2 = .ok (.arraylength, 1) := by decide +kernel
theorem dL_cell_3 : decode cL_cell 3 = .ok (.if_icmp .ge 9, 3) := by decide +kernel
theorem dL_cell_6 : decode cL_cell 6 = .ok (.aload_n 0, 1) := by decide +kernel
theorem dL_cell_7 : decode cL_cell 7 = .ok (.iload_n 1, 1) := by decide +kernel
theorem dL_cell_8 : decode cL_cell 8 = .ok (.iaload, 1) := by decide +kernel
theorem dL_cell_9 : decode cL_cell 9 = .ok (.goto 4, 3) := by decide +kernel
theorem dL_cell_12 : decode cL_cell 12 = .ok (.iconst 0, 1) := by decide +kernel
theorem dL_cell_13 : decode cL_cell 13 = .ok (.ireturn, 1) := by decide +kernel
set_option maxRecDepth 20000 in
theorem ggL_cell__X4_cell : GoodIn wsL_cell_ wsX4_cell := goodIn_ca (goodIn_r _ [6, 7, 8, 9, 10, 11, 12, 13, 14, 15, 16, 17, 18, 19, 20, 21, 22, 23, 24, 25, 26, 27, 28, 29, 30, 31, 32, 33, 34, 35, 36, 37, 38, 39, 40, 41, 42, 43, 44, 45, 46, 47, 48, 49, 50, 51, 52, 53, 54, 55, 56, 57, 58, 59, 60, 61, 62] (by decide +kernel) (by decide +kernel)) (goodIn_sub (fun _ h => List.mem_cons_of_mem _ (List.mem_append_right _ h)) (by decide +kernel))
set_option maxRecDepth 20000 in
theorem gL_cell__X4_cell : GoodIn wsL_cell_ (wsV RL 7 RX4 yX4_cell wsX4_cell) := goodIn_app (goodIn_of _ (by decide +kernel)) ggL_cell__X4_cell
theorem dL_cell__0 : decode cL_cell_ 0 = .ok (.aload 4, 2) := by decide +kernel
theorem dL_cell__2 : decode cL_cell_ 2 = .ok (.iconst 0, 1) := by decide +kernel
theorem dL_cell__3 : decode cL_cell_ 3 = .ok (.aload_n 0, 1) := by decide +kernel
theorem dL_cell__4 : decode cL_cell_ 4 = .ok (.iload_n 1, 1) := by decide +kernel
theorem dL_cell__5 : decode cL_cell_ 5 = .ok (.iload_n 2, 1) := by decide +kernel
theorem dL_cell__6 : decode cL_cell_ 6 = .ok (.iload_n 3, 1) := by decide +kernel
theorem dL_cell__7 : decode cL_cell_ 7 = .ok (.invokevirtual 7, 3) := by decide +kernel
theorem dL_cell__10 : decode cL_cell_ 10 = .ok (.i2l, 1) := by decide +kernel
theorem dL_cell__11 : decode cL_cell_ 11 = .ok (.lastore, 1) := by decide +kernel
theorem dL_cell__12 : decode cL_cell_ 12 = .ok (.goto 7, 3) := by decide +kernel
theorem dL_cell__15 : decode cL_cell_ 15 = .ok (.astore 5, 2) := by decide +kernel
theorem dL_cell__17 : decode cL_cell_ 17 = .ok (.iconst 1, 1) := by decide +kernel
theorem dL_cell__18 : decode cL_cell_ 18 = .ok (.ireturn, 1) := by decide +kernel
theorem dL_cell__19 : decode cL_cell_ 19 = .ok (.iconst 0, 1) := by decide +kernel
theorem dL_cell__20 : decode cL_cell_ 20 = .ok (.ireturn, 1) := by decide +kernel
set_option maxRecDepth 20000 in
theorem ggL_count_X4_count : GoodIn wsL_count wsX4_count := goodIn_ca (goodIn_r _ [6, 7, 8, 9, 10, 11, 12, 13, 14, 15, 16, 17, 18, 19, 20, 21, 22, 23, 24, 25, 26, 27, 28, 29, 30, 31, 32, 33, 34, 35, 36, 37, 38, 39, 40, 41, 42, 43, 44, 45, 46, 47, 48] (by decide +kernel) (by decide +kernel)) (goodIn_sub (fun _ h => List.mem_cons_of_mem _ (List.mem_append_right _ h)) (by decide +kernel))
set_option maxRecDepth 20000 in
theorem gL_count_X4_count : GoodIn wsL_count (wsV RL 15 RX4 yX4_count wsX4_count) := goodIn_app (goodIn_of _ (by decide +kernel)) ggL_count_X4_count
theorem dL_count_0 : decode cL_count 0 = .ok (.aload_n 2, 1) := by decide +kernel
theorem dL_count_1 : decode cL_count 1 = .ok (.iconst 0, 1) := by decide +kernel
theorem dL_count_2 : decode cL_count 2 = .ok (.aload_n 0, 1) := by decide +kernel
theorem dL_count_3 : decode cL_count 3 = .ok (.iload_n 1, 1) := by decide +kernel
theorem dL_count_4 : decode cL_count 4 = .ok (.invokevirtual 15, 3) := by decide +kernel
theorem dL_count_7 : decode cL_count 7 = .ok (.i2l, 1) := by decide +kernel
theorem dL_count_8 : decode cL_count 8 = .ok (.lastore, 1) := by decide +kernel
theorem dL_count_9 : decode cL_count 9 = .ok (.goto 6, 3) := by decide +kernel
theorem dL_count_12 : decode cL_count 12 = .ok (.astore_n 3, 1) := by decide +kernel
theorem dL_count_13 : decode cL_count 13 = .ok (.iconst 1, 1) := by decide +kernel
theorem dL_count_14 : decode cL_count 14 = .ok (.ireturn, 1) := by decide +kernel
theorem dL_count_15 : decode cL_count 15 = .ok (.iconst 0, 1) := by decide +kernel
theorem dL_count_16 : decode cL_count 16 = .ok (.ireturn, 1) := by decide +kernel
set_option maxRecDepth 20000 in
theorem ggL_law_L_cell : GoodIn wsL_law wsL_cell := goodIn_r _ [10] (by decide +kernel) (by decide +kernel)
set_option maxRecDepth 20000 in
theorem gL_law_L_cell : GoodIn wsL_law (va_wsS RL 19 yL_cell wsL_cell) := goodIn_app (goodIn_of _ (by decide +kernel)) ggL_law_L_cell
set_option maxRecDepth 20000 in
theorem ggL_law_X4_init : GoodIn wsL_law wsX4_init := goodIn_r _ [13, 14, 15, 16, 17, 18, 19, 20, 21, 22, 23, 24, 25, 26, 27, 28, 29, 30, 31, 32, 33, 34, 35, 36, 37, 38, 39, 40, 41, 2, 42, 43, 44, 45, 46, 47, 48, 49, 50, 51, 52, 53, 54, 55, 56, 57, 58, 59, 60, 61, 62, 63, 64, 65, 66, 67, 68, 69, 70, 71, 72, 73, 74, 75, 76, 77, 78, 79, 80, 81, 82, 83, 565, 566, 567, 568, 569, 570, 571, 572, 573, 574, 575, 576, 577, 578, 579, 580, 596, 597, 598, 599, 600, 601, 602, 603, 604, 605, 606, 607, 608, 609, 610, 611, 612, 613] (by decide +kernel) (by decide +kernel)
set_option maxRecDepth 20000 in
theorem gL_law_X4_init : GoodIn wsL_law (wsX4_init) := ggL_law_X4_init
set_option maxRecDepth 20000 in
theorem ggL_law_X5_init : GoodIn wsL_law wsX5_init := goodIn_r _ [86, 87, 15, 16, 56, 88, 89, 90, 91, 92, 93, 94, 95, 96, 5, 97, 581, 582, 583, 584, 585, 586, 587, 588, 589, 590, 591, 592, 593, 594, 595] (by decide +kernel) (by decide +kernel)
set_option maxRecDepth 20000 in
theorem gL_law_X5_init : GoodIn wsL_law (wsX5_init) := ggL_law_X5_init
set_option maxRecDepth 20000 in
theorem ggL_law_X4_beginNumber : GoodIn wsL_law wsX4_beginNumber := goodIn_r _ [101, 25, 102, 103, 104, 24, 105, 63, 106, 107, 64, 108, 109, 110, 36, 111, 112, 113, 565, 566, 567, 568, 569, 570, 571, 572, 573, 574, 575, 576, 577, 578, 579, 580, 602, 603, 604, 605, 611, 612, 613] (by decide +kernel) (by decide +kernel)
set_option maxRecDepth 20000 in
theorem gL_law_X4_beginNumber : GoodIn wsL_law (wsV RL 30 RX4 yX4_beginNumber wsX4_beginNumber) := goodIn_app (goodIn_of _ (by decide +kernel)) ggL_law_X4_beginNumber
set_option maxRecDepth 20000 in
theorem ggL_law_X5_beginNumber : GoodIn wsL_law wsX5_beginNumber := goodIn_r _ [117, 118, 119, 120, 121, 122, 123, 124, 5, 125, 89, 91, 581, 582, 583, 584, 585, 586, 587, 588, 589, 590, 591, 592, 593, 594, 595] (by decide +kernel) (by decide +kernel)
set_option maxRecDepth 20000 in
theorem gL_law_X5_beginNumber : GoodIn wsL_law (wsV RL 34 RX5 yX5_beginNumber wsX5_beginNumber) := goodIn_app (goodIn_of _ (by decide +kernel)) ggL_law_X5_beginNumber
set_option maxRecDepth 20000 in
theorem ggL_law_X4_limb : GoodIn wsL_law wsX4_limb := goodIn_r _ [129, 25, 130, 131, 132, 24, 133, 64, 107, 134, 135, 136, 137, 63, 138, 106, 139, 140, 565, 566, 567, 568, 569, 570, 571, 572, 573, 574, 575, 576, 577, 578, 579, 580, 602, 603, 604, 605, 611, 612, 613] (by decide +kernel) (by decide +kernel)
set_option maxRecDepth 20000 in
theorem gL_law_X4_limb : GoodIn wsL_law (wsV RL 35 RX4 yX4_limb wsX4_limb) := goodIn_app (goodIn_of _ (by decide +kernel)) ggL_law_X4_limb
set_option maxRecDepth 20000 in
theorem ggL_law_X5_limb : GoodIn wsL_law wsX5_limb := goodIn_r _ [144, 118, 120, 121, 88, 581, 582, 583, 584, 585, 586, 587, 588, 589, 590, 591, 592, 593, 594, 595] (by decide +kernel) (by decide +kernel)
set_option maxRecDepth 20000 in
theorem gL_law_X5_limb : GoodIn wsL_law (wsV RL 38 RX5 yX5_limb wsX5_limb) := goodIn_app (goodIn_of _ (by decide +kernel)) ggL_law_X5_limb
set_option maxRecDepth 20000 in
theorem ggL_law_X4_endCoefficient : GoodIn wsL_law wsX4_endCoefficient := goodIn_r _ [148, 25, 149, 150, 26, 151, 152, 153, 154, 36, 155, 69, 112, 156, 157, 158, 159, 113, 160, 161, 162, 24, 163, 64, 565, 566, 567, 568, 569, 570, 571, 572, 573, 574, 575, 576, 577, 578, 579, 580, 602, 603, 604, 605, 611, 612, 613] (by decide +kernel) (by decide +kernel)
set_option maxRecDepth 20000 in
theorem gL_law_X4_endCoefficient : GoodIn wsL_law (wsV RL 39 RX4 yX4_endCoefficient wsX4_endCoefficient) := goodIn_app (goodIn_of _ (by decide +kernel)) ggL_law_X4_endCoefficient
set_option maxRecDepth 20000 in
theorem ggL_law_X5_endCoefficient : GoodIn wsL_law wsX5_endCoefficient := goodIn_r _ [167, 118, 120, 168, 92, 169, 170, 171, 5, 172, 89, 119, 121, 91, 173, 174, 175, 176, 88, 177, 178, 179, 180, 581, 582, 583, 584, 585, 586, 587, 588, 589, 590, 591, 592, 593, 594, 595] (by decide +kernel) (by decide +kernel)
set_option maxRecDepth 20000 in
theorem gL_law_X5_endCoefficient : GoodIn wsL_law (wsV RL 43 RX5 yX5_endCoefficient wsX5_endCoefficient) := goodIn_app (goodIn_of _ (by decide +kernel)) ggL_law_X5_endCoefficient
set_option maxRecDepth 20000 in
theorem ggL_law_X4_endConstraint : GoodIn wsL_law wsX4_endConstraint := goodIn_r _ [184, 150, 26, 185, 21, 186, 187, 188, 189, 20, 190, 54, 58, 191, 192, 193, 194, 195, 196, 55, 197, 198, 199, 200, 201, 202, 203, 204, 205, 57, 206, 207, 208, 209, 210, 211, 212, 157, 158, 159, 565, 566, 567, 568, 569, 570, 571, 572, 573, 574, 575, 576, 577, 578, 579, 580, 596, 597, 598, 599, 600, 601, 611, 612, 613] (by decide +kernel) (by decide +kernel)
set_option maxRecDepth 20000 in
theorem gL_law_X4_endConstraint : GoodIn wsL_law (wsV RL 44 RX4 yX4_endConstraint wsX4_endConstraint) := goodIn_app (goodIn_of _ (by decide +kernel)) ggL_law_X4_endConstraint
set_option maxRecDepth 20000 in
theorem ggL_law_X5_endConstraint : GoodIn wsL_law wsX5_endConstraint := goodIn_r _ [216, 118, 168, 217, 92, 218, 219, 220, 221, 222, 5, 223, 89, 93, 94, 224, 225, 226, 177, 178, 179, 180, 91, 88, 581, 582, 583, 584, 585, 586, 587, 588, 589, 590, 591, 592, 593, 594, 595] (by decide +kernel) (by decide +kernel)
set_option maxRecDepth 20000 in
theorem gL_law_X5_endConstraint : GoodIn wsL_law (wsV RL 48 RX5 yX5_endConstraint wsX5_endConstraint) := goodIn_app (goodIn_of _ (by decide +kernel)) ggL_law_X5_endConstraint
set_option maxRecDepth 20000 in
theorem ggL_law_X4_sealInput : GoodIn wsL_law wsX4_sealInput := goodIn_r _ [230, 185, 565, 566, 567, 568, 569, 570, 571, 572, 573, 574, 575, 576, 577, 578, 579, 580] (by decide +kernel) (by decide +kernel)
set_option maxRecDepth 20000 in
theorem gL_law_X4_sealInput : GoodIn wsL_law (wsV RL 49 RX4 yX4_sealInput wsX4_sealInput) := goodIn_app (goodIn_of _ (by decide +kernel)) ggL_law_X4_sealInput
set_option maxRecDepth 20000 in
theorem ggL_law_X5_sealInput : GoodIn wsL_law wsX5_sealInput := goodIn_r _ [234, 118, 217, 581, 582, 583, 584, 585, 586, 587, 588, 589, 590, 591, 592, 593, 594, 595] (by decide +kernel) (by decide +kernel)
set_option maxRecDepth 20000 in
theorem gL_law_X5_sealInput : GoodIn wsL_law (wsV RL 52 RX5 yX5_sealInput wsX5_sealInput) := goodIn_app (goodIn_of _ (by decide +kernel)) ggL_law_X5_sealInput
set_option maxRecDepth 20000 in
theorem ggL_law_X4_combineStart : GoodIn wsL_law wsX4_combineStart := goodIn_r _ [238, 185, 32, 239, 240, 241, 2, 242, 243, 109, 110, 36, 111, 112, 113, 565, 566, 567, 568, 569, 570, 571, 572, 573, 574, 575, 576, 577, 578, 579, 580, 611, 612, 613] (by decide +kernel) (by decide +kernel)
set_option maxRecDepth 20000 in
theorem gL_law_X4_combineStart : GoodIn wsL_law (wsV RL 53 RX4 yX4_combineStart wsX4_combineStart) := goodIn_app (goodIn_of _ (by decide +kernel)) ggL_law_X4_combineStart
set_option maxRecDepth 20000 in
theorem ggL_law_X5_combineStart : GoodIn wsL_law wsX5_combineStart := goodIn_r _ [247, 118, 217, 248, 92, 122, 123, 124, 5, 125, 89, 91, 581, 582, 583, 584, 585, 586, 587, 588, 589, 590, 591, 592, 593, 594, 595] (by decide +kernel) (by decide +kernel)
set_option maxRecDepth 20000 in
theorem gL_law_X5_combineStart : GoodIn wsL_law (wsV RL 56 RX5 yX5_combineStart wsX5_combineStart) := goodIn_app (goodIn_of _ (by decide +kernel)) ggL_law_X5_combineStart
set_option maxRecDepth 20000 in
theorem ggL_law_X4_combineAdd : GoodIn wsL_law wsX4_combineAdd := goodIn_r _ [252, 239, 21, 25, 151, 253, 32, 33, 254, 255, 256, 20, 257, 191, 258, 259, 260, 24, 261, 64, 262, 263, 264, 2, 265, 17, 37, 266, 267, 268, 269, 270, 57, 58, 54, 211, 212, 157, 158, 159, 201, 210, 271, 272, 273, 274, 275, 276, 45, 277, 278, 279, 280, 281, 282, 283, 284, 285, 286, 287, 288, 36, 289, 69, 112, 113, 290, 291, 292, 293, 294, 295, 296, 297, 298, 299, 300, 301, 302, 303, 304, 305, 306, 307, 308, 309, 310, 311, 312, 313, 314, 315, 316, 317, 48, 49, 318, 319, 320, 321, 322, 323, 324, 325, 326, 327, 328, 329, 330, 331, 332, 160, 161, 162, 163, 565, 566, 567, 568, 569, 570, 571, 572, 573, 574, 575, 576, 577, 578, 579, 580, 602, 603, 604, 605, 611, 612, 613, 596, 597, 598, 599, 600, 601, 614, 615, 616, 617] (by decide +kernel) (by decide +kernel)
set_option maxRecDepth 20000 in
theorem gL_law_X4_combineAdd : GoodIn wsL_law (wsV RL 57 RX4 yX4_combineAdd wsX4_combineAdd) := goodIn_app (goodIn_of _ (by decide +kernel)) ggL_law_X4_combineAdd
set_option maxRecDepth 20000 in
theorem ggL_law_X5_combineAdd : GoodIn wsL_law wsX5_combineAdd := goodIn_r _ [336, 118, 248, 120, 91, 92, 89, 337, 338, 339, 5, 340, 218, 169, 170, 171, 172, 119, 121, 173, 174, 175, 176, 88, 224, 225, 226, 341, 342, 343, 344, 345, 346, 347, 348, 349, 350, 351, 352, 353, 354, 355, 356, 357, 358, 359, 360, 361, 362, 363, 364, 365, 177, 178, 179, 180, 581, 582, 583, 584, 585, 586, 587, 588, 589, 590, 591, 592, 593, 594, 595] (by decide +kernel) (by decide +kernel)
set_option maxRecDepth 20000 in
theorem gL_law_X5_combineAdd : GoodIn wsL_law (wsV RL 60 RX5 yX5_combineAdd wsX5_combineAdd) := goodIn_app (goodIn_of _ (by decide +kernel)) ggL_law_X5_combineAdd
set_option maxRecDepth 20000 in
theorem ggL_law_X4_combineEnd : GoodIn wsL_law wsX4_combineEnd := goodIn_r _ [369, 239, 32, 370, 371, 372, 2, 373, 21, 17, 253, 374, 187, 188, 189, 20, 190, 54, 58, 191, 192, 193, 194, 195, 196, 55, 197, 198, 199, 200, 201, 202, 203, 204, 205, 57, 206, 207, 208, 209, 210, 211, 212, 157, 158, 159, 375, 376, 377, 378, 379, 279, 280, 281, 282, 283, 284, 285, 565, 566, 567, 568, 569, 570, 571, 572, 573, 574, 575, 576, 577, 578, 579, 580, 611, 612, 613, 596, 597, 598, 599, 600, 601] (by decide +kernel) (by decide +kernel)
set_option maxRecDepth 20000 in
theorem gL_law_X4_combineEnd : GoodIn wsL_law (wsV RL 61 RX4 yX4_combineEnd wsX4_combineEnd) := goodIn_app (goodIn_of _ (by decide +kernel)) ggL_law_X4_combineEnd
set_option maxRecDepth 20000 in
theorem ggL_law_X5_combineEnd : GoodIn wsL_law wsX5_combineEnd := goodIn_r _ [383, 118, 248, 220, 221, 222, 5, 223, 92, 89, 218, 93, 94, 224, 225, 226, 177, 178, 179, 180, 91, 88, 581, 582, 583, 584, 585, 586, 587, 588, 589, 590, 591, 592, 593, 594, 595] (by decide +kernel) (by decide +kernel)
set_option maxRecDepth 20000 in
theorem gL_law_X5_combineEnd : GoodIn wsL_law (wsV RL 64 RX5 yX5_combineEnd wsX5_combineEnd) := goodIn_app (goodIn_of _ (by decide +kernel)) ggL_law_X5_combineEnd
set_option maxRecDepth 20000 in
theorem ggL_law_X4_divideRound : GoodIn wsL_law wsX4_divideRound := goodIn_r _ [387, 185, 21, 17, 37, 31, 33, 254, 255, 256, 20, 257, 191, 375, 376, 377, 2, 378, 379, 279, 280, 281, 57, 58, 54, 282, 283, 284, 285, 388, 194, 195, 196, 55, 389, 390, 391, 392, 393, 243, 109, 110, 36, 111, 112, 113, 267, 268, 269, 270, 211, 212, 157, 158, 159, 201, 210, 271, 272, 273, 274, 275, 276, 45, 277, 278, 394, 395, 396, 30, 397, 398, 399, 78, 80, 400, 401, 402, 403, 79, 404, 405, 323, 324, 325, 69, 326, 327, 328, 406, 407, 153, 154, 155, 156, 408, 409, 410, 411, 412, 306, 307, 308, 413, 414, 415, 416, 82, 81, 417, 418, 419, 420, 421, 422, 423, 424, 425, 426, 427, 428, 429, 430, 431, 432, 433, 434, 435, 436, 437, 438, 439, 440, 441, 442, 443, 444, 445, 446, 304, 317, 48, 49, 318, 319, 320, 321, 305, 370, 371, 372, 373, 253, 374, 187, 188, 189, 190, 192, 193, 197, 198, 199, 200, 202, 203, 204, 205, 206, 207, 208, 209, 565, 566, 567, 568, 569, 570, 571, 572, 573, 574, 575, 576, 577, 578, 579, 580, 596, 597, 598, 599, 600, 601, 606, 607, 608, 609, 610, 611, 612, 613] (by decide +kernel) (by decide +kernel)
set_option maxRecDepth 20000 in
theorem gL_law_X4_divideRound : GoodIn wsL_law (wsV RL 65 RX4 yX4_divideRound wsX4_divideRound) := goodIn_app (goodIn_of _ (by decide +kernel)) ggL_law_X4_divideRound
set_option maxRecDepth 20000 in
theorem ggL_law_X5_divideRound : GoodIn wsL_law wsX5_divideRound := goodIn_r _ [450, 118, 217, 92, 89, 91, 337, 338, 339, 5, 340, 218, 122, 123, 124, 125, 224, 225, 226, 451, 452, 453, 454, 177, 178, 179, 180, 88, 455, 456, 457, 458, 459, 346, 347, 348, 349, 460, 461, 462, 463, 173, 174, 175, 176, 358, 359, 360, 361, 362, 363, 364, 365, 345, 354, 355, 356, 357, 464, 465, 466, 467, 468, 469, 470, 471, 472, 473, 474, 475, 476, 220, 221, 222, 223, 93, 94, 581, 582, 583, 584, 585, 586, 587, 588, 589, 590, 591, 592, 593, 594, 595] (by decide +kernel) (by decide +kernel)
set_option maxRecDepth 20000 in
theorem gL_law_X5_divideRound : GoodIn wsL_law (wsV RL 68 RX5 yX5_divideRound wsX5_divideRound) := goodIn_app (goodIn_of _ (by decide +kernel)) ggL_law_X5_divideRound
set_option maxRecDepth 20000 in
theorem ggL_law_X4_refuted : GoodIn wsL_law wsX4_refuted := goodIn_r _ [480, 374, 565, 566, 567, 568, 569, 570, 571, 572, 573, 574, 575, 576, 577, 578, 579, 580] (by decide +kernel) (by decide +kernel)
set_option maxRecDepth 20000 in
theorem gL_law_X4_refuted : GoodIn wsL_law (wsV RL 69 RX4 yX4_refuted wsX4_refuted) := goodIn_app (goodIn_of _ (by decide +kernel)) ggL_law_X4_refuted
set_option maxRecDepth 20000 in
theorem ggL_law_X5_refuted : GoodIn wsL_law wsX5_refuted := goodIn_r _ [484, 118, 219, 218, 91, 92, 89, 224, 225, 5, 226, 581, 582, 583, 584, 585, 586, 587, 588, 589, 590, 591, 592, 593, 594, 595] (by decide +kernel) (by decide +kernel)
set_option maxRecDepth 20000 in
theorem gL_law_X5_refuted : GoodIn wsL_law (wsV RL 72 RX5 yX5_refuted wsX5_refuted) := goodIn_app (goodIn_of _ (by decide +kernel)) ggL_law_X5_refuted
set_option maxRecDepth 20000 in
theorem ggL_law_X4_rowCount : GoodIn wsL_law wsX4_rowCount := goodIn_r _ [488, 21, 489, 565, 566, 567, 568, 569, 570, 571, 572, 573, 574, 575, 576, 577, 578, 579, 580, 596, 597, 598, 599, 600, 601] (by decide +kernel) (by decide +kernel)
set_option maxRecDepth 20000 in
theorem gL_law_X4_rowCount : GoodIn wsL_law (wsV RL 73 RX4 yX4_rowCount wsX4_rowCount) := goodIn_app (goodIn_of _ (by decide +kernel)) ggL_law_X4_rowCount
set_option maxRecDepth 20000 in
theorem ggL_law_X5_rowCount : GoodIn wsL_law wsX5_rowCount := goodIn_r _ [493, 118, 218, 581, 582, 583, 584, 585, 586, 587, 588, 589, 590, 591, 592, 593, 594, 595] (by decide +kernel) (by decide +kernel)
set_option maxRecDepth 20000 in
theorem gL_law_X5_rowCount : GoodIn wsL_law (wsV RL 76 RX5 yX5_rowCount wsX5_rowCount) := goodIn_app (goodIn_of _ (by decide +kernel)) ggL_law_X5_rowCount
set_option maxRecDepth 20000 in
theorem ggL_law_X4_evalStart : GoodIn wsL_law wsX4_evalStart := goodIn_r _ [497, 27, 240, 241, 2, 242, 243, 109, 110, 36, 111, 112, 113, 565, 566, 567, 568, 569, 570, 571, 572, 573, 574, 575, 576, 577, 578, 579, 580, 611, 612, 613] (by decide +kernel) (by decide +kernel)
set_option maxRecDepth 20000 in
theorem gL_law_X4_evalStart : GoodIn wsL_law (wsV RL 77 RX4 yX4_evalStart wsX4_evalStart) := goodIn_app (goodIn_of _ (by decide +kernel)) ggL_law_X4_evalStart
set_option maxRecDepth 20000 in
theorem ggL_law_X5_evalStart : GoodIn wsL_law wsX5_evalStart := goodIn_r _ [501, 118, 92, 122, 123, 124, 5, 125, 89, 91, 581, 582, 583, 584, 585, 586, 587, 588, 589, 590, 591, 592, 593, 594, 595] (by decide +kernel) (by decide +kernel)
set_option maxRecDepth 20000 in
theorem gL_law_X5_evalStart : GoodIn wsL_law (wsV RL 80 RX5 yX5_evalStart wsX5_evalStart) := goodIn_app (goodIn_of _ (by decide +kernel)) ggL_law_X5_evalStart
set_option maxRecDepth 20000 in
theorem ggL_law_X4_evalPoint : GoodIn wsL_law wsX4_evalPoint := goodIn_r _ [505, 17, 25, 27, 151, 258, 259, 260, 24, 261, 64, 152, 153, 154, 36, 155, 69, 112, 156, 157, 158, 159, 113, 160, 161, 162, 163, 565, 566, 567, 568, 569, 570, 571, 572, 573, 574, 575, 576, 577, 578, 579, 580, 602, 603, 604, 605, 611, 612, 613] (by decide +kernel) (by decide +kernel)
set_option maxRecDepth 20000 in
theorem gL_law_X4_evalPoint : GoodIn wsL_law (wsV RL 81 RX4 yX4_evalPoint wsX4_evalPoint) := goodIn_app (goodIn_of _ (by decide +kernel)) ggL_law_X4_evalPoint
set_option maxRecDepth 20000 in
theorem ggL_law_X5_evalPoint : GoodIn wsL_law wsX5_evalPoint := goodIn_r _ [509, 118, 92, 120, 169, 170, 171, 5, 172, 89, 119, 121, 91, 173, 174, 175, 176, 88, 177, 178, 179, 180, 581, 582, 583, 584, 585, 586, 587, 588, 589, 590, 591, 592, 593, 594, 595] (by decide +kernel) (by decide +kernel)
set_option maxRecDepth 20000 in
theorem gL_law_X5_evalPoint : GoodIn wsL_law (wsV RL 84 RX5 yX5_evalPoint wsX5_evalPoint) := goodIn_app (goodIn_of _ (by decide +kernel)) ggL_law_X5_evalPoint
set_option maxRecDepth 20000 in
theorem ggL_law_X4_evalSatisfied : GoodIn wsL_law wsX4_evalSatisfied := goodIn_r _ [513, 186, 514, 515, 516, 2, 517, 21, 17, 37, 39, 253, 38, 27, 267, 268, 269, 20, 270, 57, 58, 54, 211, 212, 157, 158, 159, 201, 210, 271, 272, 273, 274, 275, 276, 45, 277, 278, 279, 280, 281, 282, 283, 284, 285, 152, 153, 154, 36, 155, 69, 112, 156, 113, 286, 287, 288, 289, 290, 291, 292, 293, 294, 295, 296, 297, 298, 299, 300, 301, 302, 303, 304, 305, 306, 307, 308, 309, 310, 311, 312, 313, 314, 315, 316, 317, 48, 49, 318, 319, 320, 321, 322, 323, 324, 325, 326, 327, 328, 329, 330, 331, 332, 565, 566, 567, 568, 569, 570, 571, 572, 573, 574, 575, 576, 577, 578, 579, 580, 611, 612, 613, 596, 597, 598, 599, 600, 601, 614, 615, 616, 617] (by decide +kernel) (by decide +kernel)
set_option maxRecDepth 20000 in
theorem gL_law_X4_evalSatisfied : GoodIn wsL_law (wsV RL 85 RX4 yX4_evalSatisfied wsX4_evalSatisfied) := goodIn_app (goodIn_of _ (by decide +kernel)) ggL_law_X4_evalSatisfied
set_option maxRecDepth 20000 in
theorem ggL_law_X5_evalSatisfied : GoodIn wsL_law wsX5_evalSatisfied := goodIn_r _ [521, 118, 219, 522, 523, 524, 5, 525, 92, 91, 89, 122, 123, 124, 125, 224, 225, 226, 341, 342, 343, 344, 88, 345, 346, 347, 348, 349, 173, 174, 175, 176, 350, 351, 352, 353, 354, 355, 356, 357, 358, 359, 360, 361, 362, 363, 364, 365, 177, 178, 179, 180, 581, 582, 583, 584, 585, 586, 587, 588, 589, 590, 591, 592, 593, 594, 595] (by decide +kernel) (by decide +kernel)
set_option maxRecDepth 20000 in
theorem gL_law_X5_evalSatisfied : GoodIn wsL_law (wsV RL 88 RX5 yX5_evalSatisfied wsX5_evalSatisfied) := goodIn_app (goodIn_of _ (by decide +kernel)) ggL_law_X5_evalSatisfied
set_option maxRecDepth 20000 in
theorem ggL_law_L_cell_ : GoodIn wsL_law wsL_cell_ := goodIn_ca (goodIn_r _ [528, 529, 530, 531, 532, 2, 533, 534, 535, 21, 17, 254, 255, 256, 20, 257, 191, 379, 279, 280, 281, 57, 58, 54, 282, 283, 284, 285, 536, 272, 273, 274, 275, 276, 45, 277, 537, 538, 539, 540, 271, 565, 566, 567, 568, 569, 570, 571, 572, 573, 574, 575, 576, 577, 578, 579, 580, 596, 597, 598, 599, 600, 601] (by decide +kernel) (by decide +kernel)) (goodIn_sub (fun _ h => List.mem_append_right _ h) (by decide +kernel))
set_option maxRecDepth 20000 in
theorem gL_law_L_cell_ : GoodIn wsL_law (va_wsS RL 89 yL_cell_ wsL_cell_) := goodIn_app (goodIn_of _ (by decide +kernel)) ggL_law_L_cell_
set_option maxRecDepth 20000 in
theorem ggL_law_X5_cell : GoodIn wsL_law wsX5_cell := goodIn_r _ [544, 92, 89, 91, 337, 338, 339, 5, 340, 218, 545, 546, 547, 548, 118, 224, 225, 226, 346, 347, 348, 349, 88, 581, 582, 583, 584, 585, 586, 587, 588, 589, 590, 591, 592, 593, 594, 595] (by decide +kernel) (by decide +kernel)
set_option maxRecDepth 20000 in
theorem gL_law_X5_cell : GoodIn wsL_law (wsV RL 92 RX5 yX5_cell wsX5_cell) := goodIn_app (goodIn_of _ (by decide +kernel)) ggL_law_X5_cell
set_option maxRecDepth 20000 in
theorem ggL_law_X5_thrown : GoodIn wsL_law wsX5_thrown := goodIn_r _ [552, 118, 581, 582, 583, 584, 585, 586, 587, 588, 589, 590, 591, 592, 593, 594, 595] (by decide +kernel) (by decide +kernel)
set_option maxRecDepth 20000 in
theorem gL_law_X5_thrown : GoodIn wsL_law (wsV RL 93 RX5 yX5_thrown wsX5_thrown) := goodIn_app (goodIn_of _ (by decide +kernel)) ggL_law_X5_thrown
set_option maxRecDepth 20000 in
theorem ggL_law_L_count : GoodIn wsL_law wsL_count := goodIn_ca (goodIn_r _ [555, 529, 556, 557, 558, 2, 559, 534, 535, 21, 186, 150, 185, 239, 25, 149, 560, 203, 204, 20, 205, 57, 192, 565, 566, 567, 568, 569, 570, 571, 572, 573, 574, 575, 576, 577, 578, 579, 580, 602, 603, 604, 605, 596, 597, 598, 599, 600, 601] (by decide +kernel) (by decide +kernel)) (goodIn_sub (fun _ h => List.mem_append_right _ h) (by decide +kernel))
set_option maxRecDepth 20000 in
theorem gL_law_L_count : GoodIn wsL_law (va_wsS RL 96 yL_count wsL_count) := goodIn_app (goodIn_of _ (by decide +kernel)) ggL_law_L_count
set_option maxRecDepth 20000 in
theorem ggL_law_X5_count : GoodIn wsL_law wsX5_count := goodIn_r _ [564, 94, 219, 168, 217, 248, 120, 545, 546, 547, 5, 548, 118, 581, 582, 583, 584, 585, 586, 587, 588, 589, 590, 591, 592, 593, 594, 595] (by decide +kernel) (by decide +kernel)
set_option maxRecDepth 20000 in
theorem gL_law_X5_count : GoodIn wsL_law (wsV RL 99 RX5 yX5_count wsX5_count) := goodIn_app (goodIn_of _ (by decide +kernel)) ggL_law_X5_count
theorem dL_law_0 : decode cL_law 0 = .ok (.new 8, 3) := by decide +kernel
theorem dL_law_3 : decode cL_law 3 = .ok (.dup, 1) := by decide +kernel
theorem dL_law_4 : decode cL_law 4 = .ok (.aload_n 0, 1) := by decide +kernel
theorem dL_law_5 : decode cL_law 5 = .ok (.iconst 0, 1) := by decide +kernel
theorem dL_law_6 : decode cL_law 6 = .ok (.invokestatic 19, 3) := by decide +kernel
theorem dL_law_9 : decode cL_law 9 = .ok (.aload_n 0, 1) := by decide +kernel
theorem dL_law_10 : decode cL_law 10 = .ok (.iconst 1, 1) := by decide +kernel
theorem dL_law_11 : decode cL_law 11 = .ok (.invokestatic 19, 3) := by decide +kernel
theorem dL_law_14 : decode cL_law 14 = .ok (.aload_n 0, 1) := by decide +kernel
theorem dL_law_15 : decode cL_law 15 = .ok (.iconst 2, 1) := by decide +kernel
theorem dL_law_16 : decode cL_law 16 = .ok (.invokestatic 19, 3) := by decide +kernel
theorem dL_law_19 : decode cL_law 19 = .ok (.invokespecial 24, 3) := by decide +kernel
theorem dL_law_22 : decode cL_law 22 = .ok (.astore_n 1, 1) := by decide +kernel
theorem dL_law_23 : decode cL_law 23 = .ok (.new 27, 3) := by decide +kernel
theorem dL_law_26 : decode cL_law 26 = .ok (.dup, 1) := by decide +kernel
theorem dL_law_27 : decode cL_law 27 = .ok (.aload_n 0, 1) := by decide +kernel
theorem dL_law_28 : decode cL_law 28 = .ok (.iconst 0, 1) := by decide +kernel
theorem dL_law_29 : decode cL_law 29 = .ok (.invokestatic 19, 3) := by decide +kernel
theorem dL_law_32 : decode cL_law 32 = .ok (.aload_n 0, 1) := by decide +kernel
theorem dL_law_33 : decode cL_law 33 = .ok (.iconst 1, 1) := by decide +kernel
theorem dL_law_34 : decode cL_law 34 = .ok (.invokestatic 19, 3) := by decide +kernel
theorem dL_law_37 : decode cL_law 37 = .ok (.aload_n 0, 1) := by decide +kernel
theorem dL_law_38 : decode cL_law 38 = .ok (.iconst 2, 1) := by decide +kernel
theorem dL_law_39 : decode cL_law 39 = .ok (.invokestatic 19, 3) := by decide +kernel
theorem dL_law_42 : decode cL_law 42 = .ok (.invokespecial 29, 3) := by decide +kernel
theorem dL_law_45 : decode cL_law 45 = .ok (.astore_n 2, 1) := by decide +kernel
theorem dL_law_46 : decode cL_law 46 = .ok (.iconst 1, 1) := by decide +kernel
theorem dL_law_47 : decode cL_law 47 = .ok (.newarray .long, 2) := by decide +kernel
theorem dL_law_49 : decode cL_law 49 = .ok (.astore_n 3, 1) := by decide +kernel
theorem dL_law_50 : decode cL_law 50 = .ok (.iconst 3, 1) := by decide +kernel
theorem dL_law_51 : decode cL_law 51 = .ok (.istore 4, 2) := by decide +kernel
theorem dL_law_53 : decode cL_law 53 = .ok (.iload 4, 2) := by decide +kernel
theorem dL_law_55 : decode cL_law 55 = .ok (.aload_n 0, 1) := by decide +kernel
theorem dL_law_56 : decode cL_law 56 = .ok (.arraylength, 1) := by decide +kernel
theorem dL_law_57 : decode cL_law 57 = .ok (.iconst 4, 1) := by decide +kernel
theorem dL_law_58 : decode cL_law 58 = .ok (.isub, 1) := by decide +kernel
theorem dL_law_59 : decode cL_law 59 = .ok (.if_icmp .gt 473, 3) := by decide +kernel
theorem dL_law_62 : decode cL_law 62 = .ok (.aload_n 0, 1) := by decide +kernel
theorem dL_law_63 : decode cL_law 63 = .ok (.iload 4, 2) := by decide +kernel
theorem dL_law_65 : decode cL_law 65 = .ok (.iaload, 1) := by decide +kernel
theorem dL_law_66 : decode cL_law 66 = .ok (.bipush 15, 2) := by decide +kernel
theorem dL_law_68 : decode cL_law 68 = .ok (.iand, 1) := by decide +kernel
theorem dL_law_69 : decode cL_law 69 = .ok (.tableswitch 457 0 15 #[79, 104, 129, 142, 155, 168, 181, 206, 219, 244, 257, 270, 283, 308, 321, 401], 79) := by decide +kernel
theorem dL_law_148 : decode cL_law 148 = .ok (.aload_n 1, 1) := by decide +kernel
theorem dL_law_149 : decode cL_law 149 = .ok (.aload_n 0, 1) := by decide +kernel
theorem dL_law_150 : decode cL_law 150 = .ok (.iload 4, 2) := by decide +kernel
theorem dL_law_152 : decode cL_law 152 = .ok (.iconst 1, 1) := by decide +kernel
theorem dL_law_153 : decode cL_law 153 = .ok (.iadd, 1) := by decide +kernel
theorem dL_law_154 : decode cL_law 154 = .ok (.iaload, 1) := by decide +kernel
theorem dL_law_155 : decode cL_law 155 = .ok (.invokevirtual 30, 3) := by decide +kernel
theorem dL_law_158 : decode cL_law 158 = .ok (.aload_n 2, 1) := by decide +kernel
theorem dL_law_159 : decode cL_law 159 = .ok (.aload_n 0, 1) := by decide +kernel
theorem dL_law_160 : decode cL_law 160 = .ok (.iload 4, 2) := by decide +kernel
theorem dL_law_162 : decode cL_law 162 = .ok (.iconst 1, 1) := by decide +kernel
theorem dL_law_163 : decode cL_law 163 = .ok (.iadd, 1) := by decide +kernel
theorem dL_law_164 : decode cL_law 164 = .ok (.iaload, 1) := by decide +kernel
theorem dL_law_165 : decode cL_law 165 = .ok (.invokevirtual 34, 3) := by decide +kernel
theorem dL_law_168 : decode cL_law 168 = .ok (.if_icmp .eq 358, 3) := by decide +kernel
theorem dL_law_171 : decode cL_law 171 = .ok (.iconst 0, 1) := by decide +kernel
theorem dL_law_172 : decode cL_law 172 = .ok (.ireturn, 1) := by decide +kernel
theorem dL_law_173 : decode cL_law 173 = .ok (.aload_n 1, 1) := by decide +kernel
theorem dL_law_174 : decode cL_law 174 = .ok (.aload_n 0, 1) := by decide +kernel
theorem dL_law_175 : decode cL_law 175 = .ok (.iload 4, 2) := by decide +kernel
theorem dL_law_177 : decode cL_law 177 = .ok (.iconst 1, 1) := by decide +kernel
theorem dL_law_178 : decode cL_law 178 = .ok (.iadd, 1) := by decide +kernel
theorem dL_law_179 : decode cL_law 179 = .ok (.iaload, 1) := by decide +kernel
theorem dL_law_180 : decode cL_law 180 = .ok (.invokevirtual 35, 3) := by decide +kernel
theorem dL_law_183 : decode cL_law 183 = .ok (.aload_n 2, 1) := by decide +kernel
theorem dL_law_184 : decode cL_law 184 = .ok (.aload_n 0, 1) := by decide +kernel
theorem dL_law_185 : decode cL_law 185 = .ok (.iload 4, 2) := by decide +kernel
theorem dL_law_187 : decode cL_law 187 = .ok (.iconst 1, 1) := by decide +kernel
theorem dL_law_188 : decode cL_law 188 = .ok (.iadd, 1) := by decide +kernel
theorem dL_law_189 : decode cL_law 189 = .ok (.iaload, 1) := by decide +kernel
theorem dL_law_190 : decode cL_law 190 = .ok (.invokevirtual 38, 3) := by decide +kernel
theorem dL_law_193 : decode cL_law 193 = .ok (.if_icmp .eq 333, 3) := by decide +kernel
theorem dL_law_196 : decode cL_law 196 = .ok (.iconst 0, 1) := by decide +kernel
theorem dL_law_197 : decode cL_law 197 = .ok (.ireturn, 1) := by decide +kernel
theorem dL_law_198 : decode cL_law 198 = .ok (.aload_n 1, 1) := by decide +kernel
theorem dL_law_199 : decode cL_law 199 = .ok (.invokevirtual 39, 3) := by decide +kernel
theorem dL_law_202 : decode cL_law 202 = .ok (.aload_n 2, 1) := by decide +kernel
theorem dL_law_203 : decode cL_law 203 = .ok (.invokevirtual 43, 3) := by decide +kernel
theorem dL_law_206 : decode cL_law 206 = .ok (.if_icmp .eq 320, 3) := by decide +kernel
theorem dL_law_209 : decode cL_law 209 = .ok (.iconst 0, 1) := by decide +kernel
theorem dL_law_210 : decode cL_law 210 = .ok (.ireturn, 1) := by decide +kernel
theorem dL_law_211 : decode cL_law 211 = .ok (.aload_n 1, 1) := by decide +kernel
theorem dL_law_212 : decode cL_law 212 = .ok (.invokevirtual 44, 3) := by decide +kernel
theorem dL_law_215 : decode cL_law 215 = .ok (.aload_n 2, 1) := by decide +kernel
theorem dL_law_216 : decode cL_law 216 = .ok (.invokevirtual 48, 3) := by decide +kernel
theorem dL_law_219 : decode cL_law 219 = .ok (.if_icmp .eq 307, 3) := by decide +kernel
theorem dL_law_222 : decode cL_law 222 = .ok (.iconst 0, 1) := by decide +kernel
theorem dL_law_223 : decode cL_law 223 = .ok (.ireturn, 1) := by decide +kernel
theorem dL_law_224 : decode cL_law 224 = .ok (.aload_n 1, 1) := by decide +kernel
theorem dL_law_225 : decode cL_law 225 = .ok (.invokevirtual 49, 3) := by decide +kernel
theorem dL_law_228 : decode cL_law 228 = .ok (.aload_n 2, 1) := by decide +kernel
theorem dL_law_229 : decode cL_law 229 = .ok (.invokevirtual 52, 3) := by decide +kernel
theorem dL_law_232 : decode cL_law 232 = .ok (.if_icmp .eq 294, 3) := by decide +kernel
theorem dL_law_235 : decode cL_law 235 = .ok (.iconst 0, 1) := by decide +kernel
theorem dL_law_236 : decode cL_law 236 = .ok (.ireturn, 1) := by decide +kernel
theorem dL_law_237 : decode cL_law 237 = .ok (.aload_n 1, 1) := by decide +kernel
theorem dL_law_238 : decode cL_law 238 = .ok (.invokevirtual 53, 3) := by decide +kernel
theorem dL_law_241 : decode cL_law 241 = .ok (.aload_n 2, 1) := by decide +kernel
theorem dL_law_242 : decode cL_law 242 = .ok (.invokevirtual 56, 3) := by decide +kernel
theorem dL_law_245 : decode cL_law 245 = .ok (.if_icmp .eq 281, 3) := by decide +kernel
theorem dL_law_248 : decode cL_law 248 = .ok (.iconst 0, 1) := by decide +kernel
theorem dL_law_249 : decode cL_law 249 = .ok (.ireturn, 1) := by decide +kernel
theorem dL_law_250 : decode cL_law 250 = .ok (.aload_n 1, 1) := by decide +kernel
theorem dL_law_251 : decode cL_law 251 = .ok (.aload_n 0, 1) := by decide +kernel
theorem dL_law_252 : decode cL_law 252 = .ok (.iload 4, 2) := by decide +kernel
theorem dL_law_254 : decode cL_law 254 = .ok (.iconst 1, 1) := by decide +kernel
theorem dL_law_255 : decode cL_law 255 = .ok (.iadd, 1) := by decide +kernel
theorem dL_law_256 : decode cL_law 256 = .ok (.iaload, 1) := by decide +kernel
theorem dL_law_257 : decode cL_law 257 = .ok (.invokevirtual 57, 3) := by decide +kernel
theorem dL_law_260 : decode cL_law 260 = .ok (.aload_n 2, 1) := by decide +kernel
theorem dL_law_261 : decode cL_law 261 = .ok (.aload_n 0, 1) := by decide +kernel
theorem dL_law_262 : decode cL_law 262 = .ok (.iload 4, 2) := by decide +kernel
theorem dL_law_264 : decode cL_law 264 = .ok (.iconst 1, 1) := by decide +kernel
theorem dL_law_265 : decode cL_law 265 = .ok (.iadd, 1) := by decide +kernel
theorem dL_law_266 : decode cL_law 266 = .ok (.iaload, 1) := by decide +kernel
theorem dL_law_267 : decode cL_law 267 = .ok (.invokevirtual 60, 3) := by decide +kernel
theorem dL_law_270 : decode cL_law 270 = .ok (.if_icmp .eq 256, 3) := by decide +kernel
theorem dL_law_273 : decode cL_law 273 = .ok (.iconst 0, 1) := by decide +kernel
theorem dL_law_274 : decode cL_law 274 = .ok (.ireturn, 1) := by decide +kernel
theorem dL_law_275 : decode cL_law 275 = .ok (.aload_n 1, 1) := by decide +kernel
theorem dL_law_276 : decode cL_law 276 = .ok (.invokevirtual 61, 3) := by decide +kernel
theorem dL_law_279 : decode cL_law 279 = .ok (.aload_n 2, 1) := by decide +kernel
theorem dL_law_280 : decode cL_law 280 = .ok (.invokevirtual 64, 3) := by decide +kernel
theorem dL_law_283 : decode cL_law 283 = .ok (.if_icmp .eq 243, 3) := by decide +kernel
theorem dL_law_286 : decode cL_law 286 = .ok (.iconst 0, 1) := by decide +kernel
theorem dL_law_287 : decode cL_law 287 = .ok (.ireturn, 1) := by decide +kernel
theorem dL_law_288 : decode cL_law 288 = .ok (.aload_n 1, 1) := by decide +kernel
theorem dL_law_289 : decode cL_law 289 = .ok (.aload_n 0, 1) := by decide +kernel
theorem dL_law_290 : decode cL_law 290 = .ok (.iload 4, 2) := by decide +kernel
theorem dL_law_292 : decode cL_law 292 = .ok (.iconst 1, 1) := by decide +kernel
theorem dL_law_293 : decode cL_law 293 = .ok (.iadd, 1) := by decide +kernel
theorem dL_law_294 : decode cL_law 294 = .ok (.iaload, 1) := by decide +kernel
theorem dL_law_295 : decode cL_law 295 = .ok (.invokevirtual 65, 3) := by decide +kernel
theorem dL_law_298 : decode cL_law 298 = .ok (.aload_n 2, 1) := by decide +kernel
theorem dL_law_299 : decode cL_law 299 = .ok (.aload_n 0, 1) := by decide +kernel
theorem dL_law_300 : decode cL_law 300 = .ok (.iload 4, 2) := by decide +kernel
theorem dL_law_302 : decode cL_law 302 = .ok (.iconst 1, 1) := by decide +kernel
theorem dL_law_303 : decode cL_law 303 = .ok (.iadd, 1) := by decide +kernel
theorem dL_law_304 : decode cL_law 304 = .ok (.iaload, 1) := by decide +kernel
theorem dL_law_305 : decode cL_law 305 = .ok (.invokevirtual 68, 3) := by decide +kernel
theorem dL_law_308 : decode cL_law 308 = .ok (.if_icmp .eq 218, 3) := by decide +kernel
theorem dL_law_311 : decode cL_law 311 = .ok (.iconst 0, 1) := by decide +kernel
theorem dL_law_312 : decode cL_law 312 = .ok (.ireturn, 1) := by decide +kernel
theorem dL_law_313 : decode cL_law 313 = .ok (.aload_n 1, 1) := by decide +kernel
theorem dL_law_314 : decode cL_law 314 = .ok (.invokevirtual 69, 3) := by decide +kernel
theorem dL_law_317 : decode cL_law 317 = .ok (.aload_n 2, 1) := by decide +kernel
theorem dL_law_318 : decode cL_law 318 = .ok (.invokevirtual 72, 3) := by decide +kernel
theorem dL_law_321 : decode cL_law 321 = .ok (.if_icmp .eq 205, 3) := by decide +kernel
theorem dL_law_324 : decode cL_law 324 = .ok (.iconst 0, 1) := by decide +kernel
theorem dL_law_325 : decode cL_law 325 = .ok (.ireturn, 1) := by decide +kernel
theorem dL_law_326 : decode cL_law 326 = .ok (.aload_n 1, 1) := by decide +kernel
theorem dL_law_327 : decode cL_law 327 = .ok (.invokevirtual 73, 3) := by decide +kernel
theorem dL_law_330 : decode cL_law 330 = .ok (.aload_n 2, 1) := by decide +kernel
theorem dL_law_331 : decode cL_law 331 = .ok (.invokevirtual 76, 3) := by decide +kernel
theorem dL_law_334 : decode cL_law 334 = .ok (.if_icmp .eq 192, 3) := by decide +kernel
theorem dL_law_337 : decode cL_law 337 = .ok (.iconst 0, 1) := by decide +kernel
theorem dL_law_338 : decode cL_law 338 = .ok (.ireturn, 1) := by decide +kernel
theorem dL_law_339 : decode cL_law 339 = .ok (.aload_n 1, 1) := by decide +kernel
theorem dL_law_340 : decode cL_law 340 = .ok (.invokevirtual 77, 3) := by decide +kernel
theorem dL_law_343 : decode cL_law 343 = .ok (.aload_n 2, 1) := by decide +kernel
theorem dL_law_344 : decode cL_law 344 = .ok (.invokevirtual 80, 3) := by decide +kernel
theorem dL_law_347 : decode cL_law 347 = .ok (.if_icmp .eq 179, 3) := by decide +kernel
theorem dL_law_350 : decode cL_law 350 = .ok (.iconst 0, 1) := by decide +kernel
theorem dL_law_351 : decode cL_law 351 = .ok (.ireturn, 1) := by decide +kernel
theorem dL_law_352 : decode cL_law 352 = .ok (.aload_n 1, 1) := by decide +kernel
theorem dL_law_353 : decode cL_law 353 = .ok (.aload_n 0, 1) := by decide +kernel
theorem dL_law_354 : decode cL_law 354 = .ok (.iload 4, 2) := by decide +kernel
theorem dL_law_356 : decode cL_law 356 = .ok (.iconst 1, 1) := by decide +kernel
theorem dL_law_357 : decode cL_law 357 = .ok (.iadd, 1) := by decide +kernel
theorem dL_law_358 : decode cL_law 358 = .ok (.iaload, 1) := by decide +kernel
theorem dL_law_359 : decode cL_law 359 = .ok (.invokevirtual 81, 3) := by decide +kernel
theorem dL_law_362 : decode cL_law 362 = .ok (.aload_n 2, 1) := by decide +kernel
theorem dL_law_363 : decode cL_law 363 = .ok (.aload_n 0, 1) := by decide +kernel
theorem dL_law_364 : decode cL_law 364 = .ok (.iload 4, 2) := by decide +kernel
theorem dL_law_366 : decode cL_law 366 = .ok (.iconst 1, 1) := by decide +kernel
theorem dL_law_367 : decode cL_law 367 = .ok (.iadd, 1) := by decide +kernel
theorem dL_law_368 : decode cL_law 368 = .ok (.iaload, 1) := by decide +kernel
theorem dL_law_369 : decode cL_law 369 = .ok (.invokevirtual 84, 3) := by decide +kernel
theorem dL_law_372 : decode cL_law 372 = .ok (.if_icmp .eq 154, 3) := by decide +kernel
theorem dL_law_375 : decode cL_law 375 = .ok (.iconst 0, 1) := by decide +kernel
theorem dL_law_376 : decode cL_law 376 = .ok (.ireturn, 1) := by decide +kernel
theorem dL_law_377 : decode cL_law 377 = .ok (.aload_n 1, 1) := by decide +kernel
theorem dL_law_378 : decode cL_law 378 = .ok (.invokevirtual 85, 3) := by decide +kernel
theorem dL_law_381 : decode cL_law 381 = .ok (.aload_n 2, 1) := by decide +kernel
theorem dL_law_382 : decode cL_law 382 = .ok (.invokevirtual 88, 3) := by decide +kernel
theorem dL_law_385 : decode cL_law 385 = .ok (.if_icmp .eq 141, 3) := by decide +kernel
theorem dL_law_388 : decode cL_law 388 = .ok (.iconst 0, 1) := by decide +kernel
theorem dL_law_389 : decode cL_law 389 = .ok (.ireturn, 1) := by decide +kernel
theorem dL_law_390 : decode cL_law 390 = .ok (.aload_n 1, 1) := by decide +kernel
theorem dL_law_391 : decode cL_law 391 = .ok (.aload_n 0, 1) := by decide +kernel
theorem dL_law_392 : decode cL_law 392 = .ok (.iload 4, 2) := by decide +kernel
theorem dL_law_394 : decode cL_law 394 = .ok (.iconst 1, 1) := by decide +kernel
theorem dL_law_395 : decode cL_law 395 = .ok (.iadd, 1) := by decide +kernel
theorem dL_law_396 : decode cL_law 396 = .ok (.iaload, 1) := by decide +kernel
theorem dL_law_397 : decode cL_law 397 = .ok (.aload_n 0, 1) := by decide +kernel
theorem dL_law_398 : decode cL_law 398 = .ok (.iload 4, 2) := by decide +kernel
theorem dL_law_400 : decode cL_law 400 = .ok (.iconst 2, 1) := by decide +kernel
theorem dL_law_401 : decode cL_law 401 = .ok (.iadd, 1) := by decide +kernel
theorem dL_law_402 : decode cL_law 402 = .ok (.iaload, 1) := by decide +kernel
theorem dL_law_403 : decode cL_law 403 = .ok (.aload_n 0, 1) := by decide +kernel
theorem dL_law_404 : decode cL_law 404 = .ok (.iload 4, 2) := by decide +kernel
theorem dL_law_406 : decode cL_law 406 = .ok (.iconst 3, 1) := by decide +kernel
theorem dL_law_407 : decode cL_law 407 = .ok (.iadd, 1) := by decide +kernel
theorem dL_law_408 : decode cL_law 408 = .ok (.iaload, 1) := by decide +kernel
theorem dL_law_409 : decode cL_law 409 = .ok (.aload_n 3, 1) := by decide +kernel
theorem dL_law_410 : decode cL_law 410 = .ok (.invokestatic 89, 3) := by decide +kernel
theorem dL_law_413 : decode cL_law 413 = .ok (.istore 5, 2) := by decide +kernel
theorem dL_law_415 : decode cL_law 415 = .ok (.aload_n 2, 1) := by decide +kernel
theorem dL_law_416 : decode cL_law 416 = .ok (.aload_n 0, 1) := by decide +kernel
theorem dL_law_417 : decode cL_law 417 = .ok (.iload 4, 2) := by decide +kernel
theorem dL_law_419 : decode cL_law 419 = .ok (.iconst 1, 1) := by decide +kernel
theorem dL_law_420 : decode cL_law 420 = .ok (.iadd, 1) := by decide +kernel
theorem dL_law_421 : decode cL_law 421 = .ok (.iaload, 1) := by decide +kernel
theorem dL_law_422 : decode cL_law 422 = .ok (.aload_n 0, 1) := by decide +kernel
theorem dL_law_423 : decode cL_law 423 = .ok (.iload 4, 2) := by decide +kernel
theorem dL_law_425 : decode cL_law 425 = .ok (.iconst 2, 1) := by decide +kernel
theorem dL_law_426 : decode cL_law 426 = .ok (.iadd, 1) := by decide +kernel
theorem dL_law_427 : decode cL_law 427 = .ok (.iaload, 1) := by decide +kernel
theorem dL_law_428 : decode cL_law 428 = .ok (.aload_n 0, 1) := by decide +kernel
theorem dL_law_429 : decode cL_law 429 = .ok (.iload 4, 2) := by decide +kernel
theorem dL_law_431 : decode cL_law 431 = .ok (.iconst 3, 1) := by decide +kernel
theorem dL_law_432 : decode cL_law 432 = .ok (.iadd, 1) := by decide +kernel
theorem dL_law_433 : decode cL_law 433 = .ok (.iaload, 1) := by decide +kernel
theorem dL_law_434 : decode cL_law 434 = .ok (.invokevirtual 92, 3) := by decide +kernel
theorem dL_law_437 : decode cL_law 437 = .ok (.istore 6, 2) := by decide +kernel
theorem dL_law_439 : decode cL_law 439 = .ok (.aload_n 2, 1) := by decide +kernel
theorem dL_law_440 : decode cL_law 440 = .ok (.invokevirtual 93, 3) := by decide +kernel
theorem dL_law_443 : decode cL_law 443 = .ok (.iload 5, 2) := by decide +kernel
theorem dL_law_445 : decode cL_law 445 = .ok (.if_icmp .eq 5, 3) := by decide +kernel
theorem dL_law_448 : decode cL_law 448 = .ok (.iconst 0, 1) := by decide +kernel
theorem dL_law_449 : decode cL_law 449 = .ok (.ireturn, 1) := by decide +kernel
theorem dL_law_450 : decode cL_law 450 = .ok (.iload 5, 2) := by decide +kernel
theorem dL_law_452 : decode cL_law 452 = .ok (.ifCond .ne 15, 3) := by decide +kernel
theorem dL_law_455 : decode cL_law 455 = .ok (.aload_n 3, 1) := by decide +kernel
theorem dL_law_456 : decode cL_law 456 = .ok (.iconst 0, 1) := by decide +kernel
theorem dL_law_457 : decode cL_law 457 = .ok (.laload, 1) := by decide +kernel
theorem dL_law_458 : decode cL_law 458 = .ok (.iload 6, 2) := by decide +kernel
theorem dL_law_460 : decode cL_law 460 = .ok (.i2l, 1) := by decide +kernel
theorem dL_law_461 : decode cL_law 461 = .ok (.lcmp, 1) := by decide +kernel
theorem dL_law_462 : decode cL_law 462 = .ok (.ifCond .eq 5, 3) := by decide +kernel
theorem dL_law_465 : decode cL_law 465 = .ok (.iconst 0, 1) := by decide +kernel
theorem dL_law_466 : decode cL_law 466 = .ok (.ireturn, 1) := by decide +kernel
theorem dL_law_467 : decode cL_law 467 = .ok (.goto 59, 3) := by decide +kernel
theorem dL_law_470 : decode cL_law 470 = .ok (.aload_n 1, 1) := by decide +kernel
theorem dL_law_471 : decode cL_law 471 = .ok (.aload_n 0, 1) := by decide +kernel
theorem dL_law_472 : decode cL_law 472 = .ok (.iload 4, 2) := by decide +kernel
theorem dL_law_474 : decode cL_law 474 = .ok (.iconst 1, 1) := by decide +kernel
theorem dL_law_475 : decode cL_law 475 = .ok (.iadd, 1) := by decide +kernel
theorem dL_law_476 : decode cL_law 476 = .ok (.iaload, 1) := by decide +kernel
theorem dL_law_477 : decode cL_law 477 = .ok (.aload_n 3, 1) := by decide +kernel
theorem dL_law_478 : decode cL_law 478 = .ok (.invokestatic 96, 3) := by decide +kernel
theorem dL_law_481 : decode cL_law 481 = .ok (.istore 5, 2) := by decide +kernel
theorem dL_law_483 : decode cL_law 483 = .ok (.aload_n 2, 1) := by decide +kernel
theorem dL_law_484 : decode cL_law 484 = .ok (.aload_n 0, 1) := by decide +kernel
theorem dL_law_485 : decode cL_law 485 = .ok (.iload 4, 2) := by decide +kernel
theorem dL_law_487 : decode cL_law 487 = .ok (.iconst 1, 1) := by decide +kernel
theorem dL_law_488 : decode cL_law 488 = .ok (.iadd, 1) := by decide +kernel
theorem dL_law_489 : decode cL_law 489 = .ok (.iaload, 1) := by decide +kernel
theorem dL_law_490 : decode cL_law 490 = .ok (.invokevirtual 99, 3) := by decide +kernel
theorem dL_law_493 : decode cL_law 493 = .ok (.istore 6, 2) := by decide +kernel
theorem dL_law_495 : decode cL_law 495 = .ok (.aload_n 2, 1) := by decide +kernel
theorem dL_law_496 : decode cL_law 496 = .ok (.invokevirtual 93, 3) := by decide +kernel
theorem dL_law_499 : decode cL_law 499 = .ok (.iload 5, 2) := by decide +kernel
theorem dL_law_501 : decode cL_law 501 = .ok (.if_icmp .eq 5, 3) := by decide +kernel
theorem dL_law_504 : decode cL_law 504 = .ok (.iconst 0, 1) := by decide +kernel
theorem dL_law_505 : decode cL_law 505 = .ok (.ireturn, 1) := by decide +kernel
theorem dL_law_506 : decode cL_law 506 = .ok (.iload 5, 2) := by decide +kernel
theorem dL_law_508 : decode cL_law 508 = .ok (.ifCond .ne 15, 3) := by decide +kernel
theorem dL_law_511 : decode cL_law 511 = .ok (.aload_n 3, 1) := by decide +kernel
theorem dL_law_512 : decode cL_law 512 = .ok (.iconst 0, 1) := by decide +kernel
theorem dL_law_513 : decode cL_law 513 = .ok (.laload, 1) := by decide +kernel
theorem dL_law_514 : decode cL_law 514 = .ok (.iload 6, 2) := by decide +kernel
theorem dL_law_516 : decode cL_law 516 = .ok (.i2l, 1) := by decide +kernel
theorem dL_law_517 : decode cL_law 517 = .ok (.lcmp, 1) := by decide +kernel
theorem dL_law_518 : decode cL_law 518 = .ok (.ifCond .eq 5, 3) := by decide +kernel
theorem dL_law_521 : decode cL_law 521 = .ok (.iconst 0, 1) := by decide +kernel
theorem dL_law_522 : decode cL_law 522 = .ok (.ireturn, 1) := by decide +kernel
theorem dL_law_523 : decode cL_law 523 = .ok (.goto 3, 3) := by decide +kernel
theorem dL_law_526 : decode cL_law 526 = .ok (.iinc 4 4, 3) := by decide +kernel
theorem dL_law_529 : decode cL_law 529 = .ok (.goto (-476), 3) := by decide +kernel
theorem dL_law_532 : decode cL_law 532 = .ok (.iconst 1, 1) := by decide +kernel
theorem dL_law_533 : decode cL_law 533 = .ok (.ireturn, 1) := by decide +kernel
