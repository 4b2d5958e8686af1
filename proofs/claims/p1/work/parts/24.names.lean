abbrev cX13_byteAt : ByteArray := prog_15_method_6_code
def yX13_byteAt : MethodName := ⟨RX13, "byteAt", "(I)I"⟩
abbrev cX13_isLetter : ByteArray := prog_15_method_7_code
def yX13_isLetter : MethodName := ⟨RX13, "isLetter", "(I)Z"⟩
abbrev cX13_isDigit : ByteArray := prog_15_method_8_code
def yX13_isDigit : MethodName := ⟨RX13, "isDigit", "(I)Z"⟩
abbrev cX13_isBlank : ByteArray := prog_15_method_9_code
def yX13_isBlank : MethodName := ⟨RX13, "isBlank", "(I)Z"⟩
abbrev cX13_skip : ByteArray := prog_15_method_10_code
def yX13_skip : MethodName := ⟨RX13, "skip", "(I)I"⟩
abbrev cX13_word : ByteArray := prog_15_method_11_code
def yX13_word : MethodName := ⟨RX13, "word", "(IIIIIII)J"⟩
abbrev cX13_shortWord : ByteArray := prog_15_method_12_code
def yX13_shortWord : MethodName := ⟨RX13, "shortWord", "(J)I"⟩
abbrev cX13_wordOf : ByteArray := prog_15_method_13_code
def yX13_wordOf : MethodName := ⟨RX13, "wordOf", "(J)I"⟩
abbrev cX13_isSign : ByteArray := prog_15_method_14_code
def yX13_isSign : MethodName := ⟨RX13, "isSign", "(I)Z"⟩
abbrev cX13_takeName : ByteArray := prog_15_method_15_code
def yX13_takeName : MethodName := ⟨RX13, "takeName", "(II)I"⟩
abbrev cX13_take : ByteArray := prog_15_method_16_code
def yX13_take : MethodName := ⟨RX13, "take", "(I)I"⟩
abbrev cX13_cutTape : ByteArray := prog_15_method_17_code
def yX13_cutTape : MethodName := ⟨RX13, "cutTape", "()V"⟩
abbrev cX13_isNext : ByteArray := prog_15_method_23_code
def yX13_isNext : MethodName := ⟨RX13, "isNext", "(I)Z"⟩
abbrev cX13_due : ByteArray := prog_15_method_28_code
def yX13_due : MethodName := ⟨RX13, "due", "(I)I"⟩
abbrev cX13_isTold : ByteArray := prog_15_method_30_code
def yX13_isTold : MethodName := ⟨RX13, "isTold", "(I)Z"⟩
abbrev cX13_functionOf : ByteArray := prog_15_method_33_code
def yX13_functionOf : MethodName := ⟨RX13, "functionOf", "(I)I"⟩
abbrev cX13_fresh : ByteArray := prog_15_method_34_code
def yX13_fresh : MethodName := ⟨RX13, "fresh", "(ZII)I"⟩
abbrev cX13_tellVar : ByteArray := prog_15_method_35_code
def yX13_tellVar : MethodName := ⟨RX13, "tellVar", "()V"⟩
abbrev cX13_tellArr : ByteArray := prog_15_method_36_code
def yX13_tellArr : MethodName := ⟨RX13, "tellArr", "()V"⟩
abbrev cX13_tellFunc : ByteArray := prog_15_method_37_code
def yX13_tellFunc : MethodName := ⟨RX13, "tellFunc", "()V"⟩
abbrev cX13_openBlock : ByteArray := prog_15_method_38_code
def yX13_openBlock : MethodName := ⟨RX13, "openBlock", "(IZ)V"⟩
abbrev cX13_newStatement : ByteArray := prog_15_method_39_code
def yX13_newStatement : MethodName := ⟨RX13, "newStatement", "(I)I"⟩
abbrev cX13_tellStatements : ByteArray := prog_15_method_40_code
def yX13_tellStatements : MethodName := ⟨RX13, "tellStatements", "()V"⟩
abbrev cX13_endBlock : ByteArray := prog_15_method_41_code
def yX13_endBlock : MethodName := ⟨RX13, "endBlock", "()V"⟩
abbrev cX13_tellStatement : ByteArray := prog_15_method_42_code
def yX13_tellStatement : MethodName := ⟨RX13, "tellStatement", "()V"⟩
abbrev cX13_tellLocal : ByteArray := prog_15_method_43_code
def yX13_tellLocal : MethodName := ⟨RX13, "tellLocal", "()V"⟩
abbrev cX13_arguments : ByteArray := prog_15_method_45_code
def yX13_arguments : MethodName := ⟨RX13, "arguments", "()V"⟩
abbrev cX13_tellNamed : ByteArray := prog_15_method_46_code
def yX13_tellNamed : MethodName := ⟨RX13, "tellNamed", "()V"⟩
abbrev cX13_tellDraw : ByteArray := prog_15_method_47_code
def yX13_tellDraw : MethodName := ⟨RX13, "tellDraw", "()V"⟩
abbrev cX13_swing : ByteArray := prog_15_method_62_code
def yX13_swing : MethodName := ⟨RX13, "swing", "([IIZ)V"⟩
abbrev cX13_swingAll : ByteArray := prog_15_method_63_code
def yX13_swingAll : MethodName := ⟨RX13, "swingAll", "(Z)V"⟩
abbrev cX13_tellProgram : ByteArray := prog_15_method_64_code
def yX13_tellProgram : MethodName := ⟨RX13, "tellProgram", "()V"⟩
abbrev cX13_calledBy : ByteArray := prog_15_method_65_code
def yX13_calledBy : MethodName := ⟨RX13, "calledBy", "(I)I"⟩
abbrev cX13_countArguments : ByteArray := prog_15_method_66_code
def yX13_countArguments : MethodName := ⟨RX13, "countArguments", "(I)I"⟩
abbrev cX13_lookAtCalls : ByteArray := prog_15_method_67_code
def yX13_lookAtCalls : MethodName := ⟨RX13, "lookAtCalls", "()V"⟩
abbrev cX13_program : ByteArray := prog_15_method_68_code
def yX13_program : MethodName := ⟨RX13, "program", "()I"⟩
def wsX13_byteAt : List Cond := .code yX13_byteAt cX13_byteAt 2 (some .int) :: ([.fieldLink RX13 253 "ChanceWorksModel" "size" "I", .fieldLink RX13 14 "ChanceWorksModel" "tape" "[B"] ++ wsX130 ++ (vx_atM "java/lang/ArrayIndexOutOfBoundsException" ["java/lang/IndexOutOfBoundsException", "java/lang/RuntimeException", "java/lang/Exception"]).filter goodWord)
def wsX13_isBlank : List Cond := .code yX13_isBlank cX13_isBlank 1 (some .boolean) :: ([])
def wsX13_skip : List Cond := .code yX13_skip cX13_skip 3 (some .int) :: ([.fieldLink RX13 253 "ChanceWorksModel" "size" "I", .methodLink RX13 256 yX13_byteAt, .instanceMethod yX13_byteAt, .selects RX13 yX13_byteAt yX13_byteAt, .initialized RX13, .code yX13_byteAt cX13_byteAt 2 (some .int), .fieldLink RX13 14 "ChanceWorksModel" "tape" "[B", .methodLink RX13 260 yX13_isBlank, .static yX13_isBlank, .code yX13_isBlank cX13_isBlank 1 (some .boolean)] ++ wsX130 ++ (vx_atM "java/lang/ArrayIndexOutOfBoundsException" ["java/lang/IndexOutOfBoundsException", "java/lang/RuntimeException", "java/lang/Exception"]).filter goodWord)
def wsX13_word : List Cond := .code yX13_word cX13_word 7 (some .long) :: ([])
def wsX13_take_r1 : List Cond := [Cond.fieldLink RX13 281 "ChanceWorksModel" "book" "I", Cond.fieldLink RX13 284 "ChanceWorksModel" "tokens" "I", Cond.fieldLink RX13 22 "ChanceWorksModel" "places" "[I", Cond.fieldLink RX13 26 "ChanceWorksModel" "numbers" "[I", Cond.fieldLink RX13 29 "ChanceWorksModel" "firsts" "[J", Cond.fieldLink RX13 33 "ChanceWorksModel" "seconds" "[I", Cond.fieldLink RX13 19 "ChanceWorksModel" "sorts" "[B", Cond.methodLink RX13 256 yX13_byteAt, Cond.instanceMethod yX13_byteAt, Cond.selects RX13 yX13_byteAt yX13_byteAt, Cond.initialized RX13, Cond.code yX13_byteAt cX13_byteAt 2 (some .int), Cond.fieldLink RX13 253 "ChanceWorksModel" "size" "I", Cond.fieldLink RX13 14 "ChanceWorksModel" "tape" "[B", Cond.methodLink RX13 272 yX13_isLetter, Cond.static yX13_isLetter, Cond.code yX13_isLetter cX13_isLetter 1 (some .boolean), Cond.methodLink RX13 287 yX13_takeName, Cond.instanceMethod yX13_takeName, Cond.selects RX13 yX13_takeName yX13_takeName, Cond.code yX13_takeName cX13_takeName 5 (some .int), Cond.methodLink RX13 275 yX13_isDigit, Cond.static yX13_isDigit, Cond.code yX13_isDigit cX13_isDigit 1 (some .boolean)]
def wsX13_take_r2 : List Cond := [Cond.methodLink RX13 278 yX13_wordOf, Cond.static yX13_wordOf, Cond.code yX13_wordOf cX13_wordOf 3 (some .int), Cond.methodLink RX13 268 yX13_shortWord, Cond.static yX13_shortWord, Cond.code yX13_shortWord cX13_shortWord 2 (some .int), Cond.methodLink RX13 264 yX13_word, Cond.static yX13_word, Cond.code yX13_word cX13_word 7 (some .long), Cond.methodLink RX13 291 yX13_isSign, Cond.static yX13_isSign, Cond.code yX13_isSign cX13_isSign 1 (some .boolean)]
def wsX13_take : List Cond := .code yX13_take cX13_take 5 (some .int) :: ((wsX13_take_r1 ++ wsX13_take_r2) ++ wsX130 ++ (vx_atM "java/lang/ArrayIndexOutOfBoundsException" ["java/lang/IndexOutOfBoundsException", "java/lang/RuntimeException", "java/lang/Exception"]).filter goodWord)
def wsX13_cutTape_r1 : List Cond := [Cond.fieldLink RX13 284 "ChanceWorksModel" "tokens" "I", Cond.fieldLink RX13 253 "ChanceWorksModel" "size" "I", Cond.fieldLink RX13 19 "ChanceWorksModel" "sorts" "[B", Cond.fieldLink RX13 281 "ChanceWorksModel" "book" "I", Cond.fieldLink RX13 22 "ChanceWorksModel" "places" "[I", Cond.fieldLink RX13 26 "ChanceWorksModel" "numbers" "[I", Cond.methodLink RX13 294 yX13_skip, Cond.instanceMethod yX13_skip, Cond.selects RX13 yX13_skip yX13_skip, Cond.initialized RX13, Cond.code yX13_skip cX13_skip 3 (some .int), Cond.methodLink RX13 256 yX13_byteAt, Cond.instanceMethod yX13_byteAt, Cond.selects RX13 yX13_byteAt yX13_byteAt, Cond.code yX13_byteAt cX13_byteAt 2 (some .int), Cond.fieldLink RX13 14 "ChanceWorksModel" "tape" "[B", Cond.methodLink RX13 260 yX13_isBlank, Cond.static yX13_isBlank, Cond.code yX13_isBlank cX13_isBlank 1 (some .boolean), Cond.methodLink RX13 297 yX13_take, Cond.instanceMethod yX13_take, Cond.selects RX13 yX13_take yX13_take, Cond.code yX13_take cX13_take 5 (some .int), Cond.fieldLink RX13 29 "ChanceWorksModel" "firsts" "[J"]
def wsX13_cutTape_r2 : List Cond := [Cond.fieldLink RX13 33 "ChanceWorksModel" "seconds" "[I", Cond.methodLink RX13 272 yX13_isLetter, Cond.static yX13_isLetter, Cond.code yX13_isLetter cX13_isLetter 1 (some .boolean), Cond.methodLink RX13 287 yX13_takeName, Cond.instanceMethod yX13_takeName, Cond.selects RX13 yX13_takeName yX13_takeName, Cond.code yX13_takeName cX13_takeName 5 (some .int), Cond.methodLink RX13 275 yX13_isDigit, Cond.static yX13_isDigit, Cond.code yX13_isDigit cX13_isDigit 1 (some .boolean), Cond.methodLink RX13 278 yX13_wordOf, Cond.static yX13_wordOf, Cond.code yX13_wordOf cX13_wordOf 3 (some .int), Cond.methodLink RX13 268 yX13_shortWord, Cond.static yX13_shortWord, Cond.code yX13_shortWord cX13_shortWord 2 (some .int), Cond.methodLink RX13 264 yX13_word, Cond.static yX13_word, Cond.code yX13_word cX13_word 7 (some .long), Cond.methodLink RX13 291 yX13_isSign, Cond.static yX13_isSign, Cond.code yX13_isSign cX13_isSign 1 (some .boolean)]
def wsX13_cutTape : List Cond := .code yX13_cutTape cX13_cutTape 3 none :: ((wsX13_cutTape_r1 ++ wsX13_cutTape_r2) ++ wsX130 ++ (vx_atM "java/lang/ArrayIndexOutOfBoundsException" ["java/lang/IndexOutOfBoundsException", "java/lang/RuntimeException", "java/lang/Exception"]).filter goodWord)
def wsX13_isRight : List Cond := .code yX13_isRight cX13_isRight 1 (some .boolean) :: ([.fieldLink RX13 300 "ChanceWorksModel" "fault" "I"] ++ wsX130)
def wsX13_flaw : List Cond := .code yX13_flaw cX13_flaw 3 none :: ([.fieldLink RX13 300 "ChanceWorksModel" "fault" "I", .fieldLink RX13 19 "ChanceWorksModel" "sorts" "[B", .fieldLink RX13 22 "ChanceWorksModel" "places" "[I", .fieldLink RX13 303 "ChanceWorksModel" "faultPlace" "I"] ++ wsX130 ++ (vx_atM "java/lang/ArrayIndexOutOfBoundsException" ["java/lang/IndexOutOfBoundsException", "java/lang/RuntimeException", "java/lang/Exception"]).filter goodWord)
def wsX13_readNext : List Cond := .code yX13_readNext cX13_readNext 1 none :: ([.fieldLink RX13 19 "ChanceWorksModel" "sorts" "[B", .fieldLink RX13 306 "ChanceWorksModel" "at" "I", .methodLink RX13 312 yX13_flaw, .instanceMethod yX13_flaw, .selects RX13 yX13_flaw yX13_flaw, .initialized RX13, .code yX13_flaw cX13_flaw 3 none, .fieldLink RX13 300 "ChanceWorksModel" "fault" "I", .fieldLink RX13 22 "ChanceWorksModel" "places" "[I", .fieldLink RX13 303 "ChanceWorksModel" "faultPlace" "I"] ++ wsX130 ++ (vx_atM "java/lang/ArrayIndexOutOfBoundsException" ["java/lang/IndexOutOfBoundsException", "java/lang/RuntimeException", "java/lang/Exception"]).filter goodWord)
def wsX13_isWord : List Cond := .code yX13_isWord cX13_isWord 2 (some .boolean) :: ([.fieldLink RX13 19 "ChanceWorksModel" "sorts" "[B", .fieldLink RX13 306 "ChanceWorksModel" "at" "I", .fieldLink RX13 26 "ChanceWorksModel" "numbers" "[I"] ++ wsX130 ++ (vx_atM "java/lang/ArrayIndexOutOfBoundsException" ["java/lang/IndexOutOfBoundsException", "java/lang/RuntimeException", "java/lang/Exception"]).filter goodWord)
def wsX13_functionOf : List Cond := .code yX13_functionOf cX13_functionOf 3 (some .int) :: ([.fieldLink RX13 343 "ChanceWorksModel" "funcs" "I", .fieldLink RX13 51 "ChanceWorksModel" "funcTokens" "[I", .methodLink RX13 336 yX13_isSame, .instanceMethod yX13_isSame, .selects RX13 yX13_isSame yX13_isSame, .initialized RX13, .code yX13_isSame cX13_isSame 3 (some .boolean), .fieldLink RX13 29 "ChanceWorksModel" "firsts" "[J", .fieldLink RX13 33 "ChanceWorksModel" "seconds" "[I"] ++ wsX130 ++ (vx_atM "java/lang/ArrayIndexOutOfBoundsException" ["java/lang/IndexOutOfBoundsException", "java/lang/RuntimeException", "java/lang/Exception"]).filter goodWord)
def wsX13_tellVar_r1 : List Cond := [Cond.fieldLink RX13 333 "ChanceWorksModel" "vars" "I", Cond.fieldLink RX13 26 "ChanceWorksModel" "numbers" "[I", Cond.fieldLink RX13 36 "ChanceWorksModel" "varTokens" "[I", Cond.fieldLink RX13 39 "ChanceWorksModel" "varValues" "[I", Cond.methodLink RX13 319 yX13_go, Cond.instanceMethod yX13_go, Cond.selects RX13 yX13_go yX13_go, Cond.initialized RX13, Cond.code yX13_go cX13_go 1 none, Cond.fieldLink RX13 300 "ChanceWorksModel" "fault" "I", Cond.fieldLink RX13 306 "ChanceWorksModel" "at" "I", Cond.methodLink RX13 309 yX13_readNext, Cond.instanceMethod yX13_readNext, Cond.selects RX13 yX13_readNext yX13_readNext, Cond.code yX13_readNext cX13_readNext 1 none, Cond.fieldLink RX13 19 "ChanceWorksModel" "sorts" "[B", Cond.methodLink RX13 312 yX13_flaw, Cond.instanceMethod yX13_flaw, Cond.selects RX13 yX13_flaw yX13_flaw, Cond.code yX13_flaw cX13_flaw 3 none, Cond.fieldLink RX13 22 "ChanceWorksModel" "places" "[I", Cond.fieldLink RX13 303 "ChanceWorksModel" "faultPlace" "I", Cond.methodLink RX13 355 yX13_fresh, Cond.instanceMethod yX13_fresh]
def wsX13_tellVar_r2 : List Cond := [Cond.selects RX13 yX13_fresh yX13_fresh, Cond.code yX13_fresh cX13_fresh 7 (some .int), Cond.fieldLink RX13 57 "ChanceWorksModel" "variables" "[I", Cond.fieldLink RX13 346 "ChanceWorksModel" "function" "I", Cond.fieldLink RX13 60 "ChanceWorksModel" "variableTokens" "[I", Cond.methodLink RX13 349 yX13_due, Cond.instanceMethod yX13_due, Cond.selects RX13 yX13_due yX13_due, Cond.code yX13_due cX13_due 2 (some .int), Cond.methodLink RX13 352 yX13_isTold, Cond.instanceMethod yX13_isTold, Cond.selects RX13 yX13_isTold yX13_isTold, Cond.code yX13_isTold cX13_isTold 4 (some .boolean), Cond.fieldLink RX13 340 "ChanceWorksModel" "arrs" "I", Cond.fieldLink RX13 42 "ChanceWorksModel" "arrTokens" "[I", Cond.fieldLink RX13 343 "ChanceWorksModel" "funcs" "I", Cond.fieldLink RX13 51 "ChanceWorksModel" "funcTokens" "[I", Cond.methodLink RX13 336 yX13_isSame, Cond.instanceMethod yX13_isSame, Cond.selects RX13 yX13_isSame yX13_isSame, Cond.code yX13_isSame cX13_isSame 3 (some .boolean), Cond.fieldLink RX13 29 "ChanceWorksModel" "firsts" "[J", Cond.fieldLink RX13 33 "ChanceWorksModel" "seconds" "[I", Cond.methodLink RX13 325 yX13_isRight]
def wsX13_tellVar_r3 : List Cond := [Cond.instanceMethod yX13_isRight, Cond.selects RX13 yX13_isRight yX13_isRight, Cond.code yX13_isRight cX13_isRight 1 (some .boolean), Cond.methodLink RX13 316 yX13_isAt, Cond.instanceMethod yX13_isAt, Cond.selects RX13 yX13_isAt yX13_isAt, Cond.code yX13_isAt cX13_isAt 2 (some .boolean), Cond.methodLink RX13 329 yX13_sign, Cond.instanceMethod yX13_sign, Cond.selects RX13 yX13_sign yX13_sign, Cond.code yX13_sign cX13_sign 2 none]
def wsX13_tellVar : List Cond := .code yX13_tellVar cX13_tellVar 5 none :: ((wsX13_tellVar_r1 ++ (wsX13_tellVar_r2 ++ wsX13_tellVar_r3)) ++ wsX130 ++ (vx_atM "java/lang/ArrayIndexOutOfBoundsException" ["java/lang/IndexOutOfBoundsException", "java/lang/RuntimeException", "java/lang/Exception"]).filter goodWord)
def wsX13_tellArr_r1 : List Cond := [Cond.fieldLink RX13 340 "ChanceWorksModel" "arrs" "I", Cond.fieldLink RX13 26 "ChanceWorksModel" "numbers" "[I", Cond.fieldLink RX13 42 "ChanceWorksModel" "arrTokens" "[I", Cond.fieldLink RX13 45 "ChanceWorksModel" "arrSizes" "[I", Cond.fieldLink RX13 48 "ChanceWorksModel" "arrFirsts" "[I", Cond.fieldLink RX13 369 "ChanceWorksModel" "cells" "I", Cond.methodLink RX13 319 yX13_go, Cond.instanceMethod yX13_go, Cond.selects RX13 yX13_go yX13_go, Cond.initialized RX13, Cond.code yX13_go cX13_go 1 none, Cond.fieldLink RX13 300 "ChanceWorksModel" "fault" "I", Cond.fieldLink RX13 306 "ChanceWorksModel" "at" "I", Cond.methodLink RX13 309 yX13_readNext, Cond.instanceMethod yX13_readNext, Cond.selects RX13 yX13_readNext yX13_readNext, Cond.code yX13_readNext cX13_readNext 1 none, Cond.fieldLink RX13 19 "ChanceWorksModel" "sorts" "[B", Cond.methodLink RX13 312 yX13_flaw, Cond.instanceMethod yX13_flaw, Cond.selects RX13 yX13_flaw yX13_flaw, Cond.code yX13_flaw cX13_flaw 3 none, Cond.fieldLink RX13 22 "ChanceWorksModel" "places" "[I", Cond.fieldLink RX13 303 "ChanceWorksModel" "faultPlace" "I"]
def wsX13_tellArr_r2 : List Cond := [Cond.methodLink RX13 355 yX13_fresh, Cond.instanceMethod yX13_fresh, Cond.selects RX13 yX13_fresh yX13_fresh, Cond.code yX13_fresh cX13_fresh 7 (some .int), Cond.fieldLink RX13 57 "ChanceWorksModel" "variables" "[I", Cond.fieldLink RX13 346 "ChanceWorksModel" "function" "I", Cond.fieldLink RX13 60 "ChanceWorksModel" "variableTokens" "[I", Cond.methodLink RX13 349 yX13_due, Cond.instanceMethod yX13_due, Cond.selects RX13 yX13_due yX13_due, Cond.code yX13_due cX13_due 2 (some .int), Cond.methodLink RX13 352 yX13_isTold, Cond.instanceMethod yX13_isTold, Cond.selects RX13 yX13_isTold yX13_isTold, Cond.code yX13_isTold cX13_isTold 4 (some .boolean), Cond.fieldLink RX13 333 "ChanceWorksModel" "vars" "I", Cond.fieldLink RX13 36 "ChanceWorksModel" "varTokens" "[I", Cond.fieldLink RX13 343 "ChanceWorksModel" "funcs" "I", Cond.fieldLink RX13 51 "ChanceWorksModel" "funcTokens" "[I", Cond.methodLink RX13 336 yX13_isSame, Cond.instanceMethod yX13_isSame, Cond.selects RX13 yX13_isSame yX13_isSame, Cond.code yX13_isSame cX13_isSame 3 (some .boolean), Cond.fieldLink RX13 29 "ChanceWorksModel" "firsts" "[J"]
def wsX13_tellArr_r3 : List Cond := [Cond.fieldLink RX13 33 "ChanceWorksModel" "seconds" "[I", Cond.methodLink RX13 325 yX13_isRight, Cond.instanceMethod yX13_isRight, Cond.selects RX13 yX13_isRight yX13_isRight, Cond.code yX13_isRight cX13_isRight 1 (some .boolean), Cond.methodLink RX13 359 yX13_open, Cond.instanceMethod yX13_open, Cond.selects RX13 yX13_open yX13_open, Cond.code yX13_open cX13_open 2 none, Cond.fieldLink RX13 322 "ChanceWorksModel" "openCount" "I", Cond.methodLink RX13 316 yX13_isAt, Cond.instanceMethod yX13_isAt, Cond.selects RX13 yX13_isAt yX13_isAt, Cond.code yX13_isAt cX13_isAt 2 (some .boolean), Cond.methodLink RX13 362 yX13_within, Cond.static yX13_within, Cond.code yX13_within cX13_within 3 (some .boolean), Cond.methodLink RX13 366 yX13_close, Cond.instanceMethod yX13_close, Cond.selects RX13 yX13_close yX13_close, Cond.code yX13_close cX13_close 2 none, Cond.methodLink RX13 329 yX13_sign, Cond.instanceMethod yX13_sign, Cond.selects RX13 yX13_sign yX13_sign]
def wsX13_tellArr_r4 : List Cond := [Cond.code yX13_sign cX13_sign 2 none]
def wsX13_tellArr : List Cond := .code yX13_tellArr cX13_tellArr 3 none :: ((wsX13_tellArr_r1 ++ (wsX13_tellArr_r2 ++ (wsX13_tellArr_r3 ++ wsX13_tellArr_r4))) ++ wsX130 ++ (vx_atM "java/lang/ArrayIndexOutOfBoundsException" ["java/lang/IndexOutOfBoundsException", "java/lang/RuntimeException", "java/lang/Exception"]).filter goodWord)
def wsX13_tellFunc_r1 : List Cond := [Cond.fieldLink RX13 343 "ChanceWorksModel" "funcs" "I", Cond.fieldLink RX13 346 "ChanceWorksModel" "function" "I", Cond.fieldLink RX13 57 "ChanceWorksModel" "variables" "[I", Cond.fieldLink RX13 54 "ChanceWorksModel" "givens" "[I", Cond.fieldLink RX13 63 "ChanceWorksModel" "firstOf" "[I", Cond.fieldLink RX13 60 "ChanceWorksModel" "variableTokens" "[I", Cond.fieldLink RX13 51 "ChanceWorksModel" "funcTokens" "[I", Cond.methodLink RX13 319 yX13_go, Cond.instanceMethod yX13_go, Cond.selects RX13 yX13_go yX13_go, Cond.initialized RX13, Cond.code yX13_go cX13_go 1 none, Cond.fieldLink RX13 300 "ChanceWorksModel" "fault" "I", Cond.fieldLink RX13 306 "ChanceWorksModel" "at" "I", Cond.methodLink RX13 309 yX13_readNext, Cond.instanceMethod yX13_readNext, Cond.selects RX13 yX13_readNext yX13_readNext, Cond.code yX13_readNext cX13_readNext 1 none, Cond.fieldLink RX13 19 "ChanceWorksModel" "sorts" "[B", Cond.methodLink RX13 312 yX13_flaw, Cond.instanceMethod yX13_flaw, Cond.selects RX13 yX13_flaw yX13_flaw, Cond.code yX13_flaw cX13_flaw 3 none, Cond.fieldLink RX13 22 "ChanceWorksModel" "places" "[I"]
def wsX13_tellFunc_r2 : List Cond := [Cond.fieldLink RX13 303 "ChanceWorksModel" "faultPlace" "I", Cond.methodLink RX13 355 yX13_fresh, Cond.instanceMethod yX13_fresh, Cond.selects RX13 yX13_fresh yX13_fresh, Cond.code yX13_fresh cX13_fresh 7 (some .int), Cond.methodLink RX13 349 yX13_due, Cond.instanceMethod yX13_due, Cond.selects RX13 yX13_due yX13_due, Cond.code yX13_due cX13_due 2 (some .int), Cond.methodLink RX13 352 yX13_isTold, Cond.instanceMethod yX13_isTold, Cond.selects RX13 yX13_isTold yX13_isTold, Cond.code yX13_isTold cX13_isTold 4 (some .boolean), Cond.fieldLink RX13 333 "ChanceWorksModel" "vars" "I", Cond.fieldLink RX13 36 "ChanceWorksModel" "varTokens" "[I", Cond.fieldLink RX13 340 "ChanceWorksModel" "arrs" "I", Cond.fieldLink RX13 42 "ChanceWorksModel" "arrTokens" "[I", Cond.methodLink RX13 336 yX13_isSame, Cond.instanceMethod yX13_isSame, Cond.selects RX13 yX13_isSame yX13_isSame, Cond.code yX13_isSame cX13_isSame 3 (some .boolean), Cond.fieldLink RX13 29 "ChanceWorksModel" "firsts" "[J", Cond.fieldLink RX13 33 "ChanceWorksModel" "seconds" "[I", Cond.methodLink RX13 325 yX13_isRight]
def wsX13_tellFunc_r3 : List Cond := [Cond.instanceMethod yX13_isRight, Cond.selects RX13 yX13_isRight yX13_isRight, Cond.code yX13_isRight cX13_isRight 1 (some .boolean), Cond.methodLink RX13 359 yX13_open, Cond.instanceMethod yX13_open, Cond.selects RX13 yX13_open yX13_open, Cond.code yX13_open cX13_open 2 none, Cond.fieldLink RX13 322 "ChanceWorksModel" "openCount" "I", Cond.methodLink RX13 316 yX13_isAt, Cond.instanceMethod yX13_isAt, Cond.selects RX13 yX13_isAt yX13_isAt, Cond.code yX13_isAt cX13_isAt 2 (some .boolean), Cond.fieldLink RX13 26 "ChanceWorksModel" "numbers" "[I", Cond.methodLink RX13 366 yX13_close, Cond.instanceMethod yX13_close, Cond.selects RX13 yX13_close yX13_close, Cond.code yX13_close cX13_close 2 none, Cond.methodLink RX13 329 yX13_sign, Cond.instanceMethod yX13_sign, Cond.selects RX13 yX13_sign yX13_sign, Cond.code yX13_sign cX13_sign 2 none, Cond.methodLink RX13 372 yX13_tellStatements, Cond.instanceMethod yX13_tellStatements, Cond.selects RX13 yX13_tellStatements yX13_tellStatements]
def wsX13_tellFunc_r4 : List Cond := [Cond.code yX13_tellStatements cX13_tellStatements 1 none, Cond.fieldLink RX13 375 "ChanceWorksModel" "blocks" "I", Cond.methodLink RX13 381 yX13_openBlock, Cond.instanceMethod yX13_openBlock, Cond.selects RX13 yX13_openBlock yX13_openBlock, Cond.code yX13_openBlock cX13_openBlock 3 none, Cond.fieldLink RX13 96 "ChanceWorksModel" "owners" "[I", Cond.fieldLink RX13 99 "ChanceWorksModel" "latest" "[I", Cond.fieldLink RX13 102 "ChanceWorksModel" "isElse" "[Z", Cond.methodLink RX13 385 yX13_tellStatement, Cond.instanceMethod yX13_tellStatement, Cond.selects RX13 yX13_tellStatement yX13_tellStatement, Cond.code yX13_tellStatement cX13_tellStatement 2 none, Cond.fieldLink RX13 72 "ChanceWorksModel" "expressions" "[I", Cond.methodLink RX13 394 yX13_tellNamed, Cond.instanceMethod yX13_tellNamed, Cond.selects RX13 yX13_tellNamed yX13_tellNamed, Cond.code yX13_tellNamed cX13_tellNamed 4 none, Cond.fieldLink RX13 66 "ChanceWorksModel" "kinds" "[I", Cond.methodLink RX13 400 yX13_newStatement, Cond.instanceMethod yX13_newStatement, Cond.selects RX13 yX13_newStatement yX13_newStatement, Cond.code yX13_newStatement cX13_newStatement 5 (some .int), Cond.fieldLink RX13 378 "ChanceWorksModel" "statements" "I"]
def wsX13_tellFunc_r5 : List Cond := [Cond.fieldLink RX13 90 "ChanceWorksModel" "ofFunctions" "[I", Cond.fieldLink RX13 69 "ChanceWorksModel" "begins" "[I", Cond.fieldLink RX13 75 "ChanceWorksModel" "bodies" "[I", Cond.fieldLink RX13 78 "ChanceWorksModel" "elses" "[I", Cond.fieldLink RX13 81 "ChanceWorksModel" "nextOf" "[I", Cond.fieldLink RX13 84 "ChanceWorksModel" "parents" "[I", Cond.methodLink RX13 407 yX13_arguments, Cond.instanceMethod yX13_arguments, Cond.selects RX13 yX13_arguments yX13_arguments, Cond.code yX13_arguments cX13_arguments 2 none, Cond.methodLink RX13 403 yX13_expression, Cond.instanceMethod yX13_expression, Cond.selects RX13 yX13_expression yX13_expression, Cond.code yX13_expression cX13_expression 2 (some .int), Cond.fieldLink RX13 425 "ChanceWorksModel" "waiting" "I", Cond.fieldLink RX13 435 "ChanceWorksModel" "values" "I", Cond.fieldLink RX13 113 "ChanceWorksModel" "piles" "[I", Cond.methodLink RX13 448 yX13_goesOn, Cond.instanceMethod yX13_goesOn, Cond.selects RX13 yX13_goesOn yX13_goesOn, Cond.code yX13_goesOn cX13_goesOn 1 (some .boolean), Cond.fieldLink RX13 428 "ChanceWorksModel" "failure" "I", Cond.methodLink RX13 478 yX13_operand, Cond.instanceMethod yX13_operand]
def wsX13_tellFunc_r6 : List Cond := [Cond.selects RX13 yX13_operand yX13_operand, Cond.code yX13_operand cX13_operand 2 (some .boolean), Cond.methodLink RX13 460 yX13_hold, Cond.instanceMethod yX13_hold, Cond.selects RX13 yX13_hold yX13_hold, Cond.code yX13_hold cX13_hold 3 none, Cond.fieldLink RX13 107 "ChanceWorksModel" "waits" "[I", Cond.fieldLink RX13 110 "ChanceWorksModel" "waitRefs" "[I", Cond.methodLink RX13 463 yX13_push, Cond.instanceMethod yX13_push, Cond.selects RX13 yX13_push yX13_push, Cond.code yX13_push cX13_push 2 none, Cond.methodLink RX13 457 yX13_turn, Cond.instanceMethod yX13_turn, Cond.selects RX13 yX13_turn yX13_turn, Cond.code yX13_turn cX13_turn 2 none, Cond.methodLink RX13 451 yX13_top, Cond.instanceMethod yX13_top, Cond.selects RX13 yX13_top yX13_top, Cond.code yX13_top cX13_top 1 (some .int), Cond.methodLink RX13 431 yX13_truth, Cond.static yX13_truth, Cond.code yX13_truth cX13_truth 1 (some .int), Cond.methodLink RX13 466 yX13_named]
def wsX13_tellFunc_r7 : List Cond := [Cond.instanceMethod yX13_named, Cond.selects RX13 yX13_named yX13_named, Cond.code yX13_named cX13_named 3 (some .boolean), Cond.fieldLink RX13 438 "ChanceWorksModel" "mode" "I", Cond.fieldLink RX13 93 "ChanceWorksModel" "refs" "[I", Cond.methodLink RX13 410 yX13_arrayOf, Cond.instanceMethod yX13_arrayOf, Cond.selects RX13 yX13_arrayOf yX13_arrayOf, Cond.code yX13_arrayOf cX13_arrayOf 3 (some .int), Cond.methodLink RX13 413 yX13_variableOf, Cond.instanceMethod yX13_variableOf, Cond.selects RX13 yX13_variableOf yX13_variableOf, Cond.code yX13_variableOf cX13_variableOf 3 (some .int), Cond.methodLink RX13 416 yX13_look, Cond.instanceMethod yX13_look, Cond.selects RX13 yX13_look yX13_look, Cond.code yX13_look cX13_look 3 none, Cond.methodLink RX13 469 yX13_valueOf, Cond.instanceMethod yX13_valueOf, Cond.selects RX13 yX13_valueOf yX13_valueOf, Cond.code yX13_valueOf cX13_valueOf 2 (some .int), Cond.fieldLink RX13 122 "ChanceWorksModel" "globals" "[I", Cond.fieldLink RX13 128 "ChanceWorksModel" "callVars" "[I", Cond.fieldLink RX13 551 "ChanceWorksModel" "calls" "I"]
def wsX13_tellFunc_r8 : List Cond := [Cond.methodLink RX13 481 yX13_behind, Cond.instanceMethod yX13_behind, Cond.selects RX13 yX13_behind yX13_behind, Cond.code yX13_behind cX13_behind 4 (some .int), Cond.methodLink RX13 441 yX13_rank, Cond.static yX13_rank, Cond.code yX13_rank cX13_rank 1 (some .int), Cond.methodLink RX13 472 yX13_settle, Cond.instanceMethod yX13_settle, Cond.selects RX13 yX13_settle yX13_settle, Cond.code yX13_settle cX13_settle 2 none, Cond.methodLink RX13 454 yX13_apply, Cond.instanceMethod yX13_apply, Cond.selects RX13 yX13_apply yX13_apply, Cond.code yX13_apply cX13_apply 5 none, Cond.methodLink RX13 444 yX13_compared, Cond.static yX13_compared, Cond.code yX13_compared cX13_compared 3 (some .int), Cond.methodLink RX13 475 yX13_cellOf, Cond.instanceMethod yX13_cellOf, Cond.selects RX13 yX13_cellOf yX13_cellOf, Cond.code yX13_cellOf cX13_cellOf 4 (some .int), Cond.fieldLink RX13 45 "ChanceWorksModel" "arrSizes" "[I", Cond.fieldLink RX13 48 "ChanceWorksModel" "arrFirsts" "[I"]
def wsX13_tellFunc_r9 : List Cond := [Cond.methodLink RX13 419 yX13_tellDraw, Cond.instanceMethod yX13_tellDraw, Cond.selects RX13 yX13_tellDraw yX13_tellDraw, Cond.code yX13_tellDraw cX13_tellDraw 3 none, Cond.methodLink RX13 391 yX13_isWord, Cond.instanceMethod yX13_isWord, Cond.selects RX13 yX13_isWord yX13_isWord, Cond.code yX13_isWord cX13_isWord 2 (some .boolean), Cond.methodLink RX13 422 yX13_isNext, Cond.instanceMethod yX13_isNext, Cond.selects RX13 yX13_isNext yX13_isNext, Cond.code yX13_isNext cX13_isNext 2 (some .boolean), Cond.methodLink RX13 397 yX13_tellLocal, Cond.instanceMethod yX13_tellLocal, Cond.selects RX13 yX13_tellLocal yX13_tellLocal, Cond.code yX13_tellLocal cX13_tellLocal 3 none, Cond.methodLink RX13 388 yX13_endBlock, Cond.instanceMethod yX13_endBlock, Cond.selects RX13 yX13_endBlock yX13_endBlock, Cond.code yX13_endBlock cX13_endBlock 3 none]
def wsX13_tellFunc : List Cond := .code yX13_tellFunc cX13_tellFunc 4 none :: ((wsX13_tellFunc_r1 ++ (wsX13_tellFunc_r2 ++ (wsX13_tellFunc_r3 ++ (wsX13_tellFunc_r4 ++ (wsX13_tellFunc_r5 ++ (wsX13_tellFunc_r6 ++ (wsX13_tellFunc_r7 ++ (wsX13_tellFunc_r8 ++ wsX13_tellFunc_r9)))))))) ++ wsX130 ++ (vx_atM "java/lang/ArrayIndexOutOfBoundsException" ["java/lang/IndexOutOfBoundsException", "java/lang/RuntimeException", "java/lang/Exception"]).filter goodWord)
def wsX13_swing : List Cond := .code yX13_swing cX13_swing 5 none :: ([.fieldLink RX13 116 "ChanceWorksModel" "kept" "[I", .fieldLink RX13 484 "ChanceWorksModel" "cursor" "I"] ++ wsX130 ++ (vx_atM "java/lang/ArrayIndexOutOfBoundsException" ["java/lang/IndexOutOfBoundsException", "java/lang/RuntimeException", "java/lang/Exception"]).filter goodWord)
def wsX13_swingAll_r1 : List Cond := [Cond.fieldLink RX13 484 "ChanceWorksModel" "cursor" "I", Cond.fieldLink RX13 119 "ChanceWorksModel" "few" "[I", Cond.fieldLink RX13 333 "ChanceWorksModel" "vars" "I", Cond.fieldLink RX13 340 "ChanceWorksModel" "arrs" "I", Cond.fieldLink RX13 369 "ChanceWorksModel" "cells" "I", Cond.fieldLink RX13 343 "ChanceWorksModel" "funcs" "I", Cond.fieldLink RX13 378 "ChanceWorksModel" "statements" "I", Cond.fieldLink RX13 487 "ChanceWorksModel" "main" "I", Cond.fieldLink RX13 281 "ChanceWorksModel" "book" "I", Cond.fieldLink RX13 36 "ChanceWorksModel" "varTokens" "[I", Cond.fieldLink RX13 39 "ChanceWorksModel" "varValues" "[I", Cond.fieldLink RX13 42 "ChanceWorksModel" "arrTokens" "[I", Cond.fieldLink RX13 45 "ChanceWorksModel" "arrSizes" "[I", Cond.fieldLink RX13 48 "ChanceWorksModel" "arrFirsts" "[I", Cond.fieldLink RX13 51 "ChanceWorksModel" "funcTokens" "[I", Cond.fieldLink RX13 54 "ChanceWorksModel" "givens" "[I", Cond.fieldLink RX13 57 "ChanceWorksModel" "variables" "[I", Cond.fieldLink RX13 60 "ChanceWorksModel" "variableTokens" "[I", Cond.fieldLink RX13 63 "ChanceWorksModel" "firstOf" "[I", Cond.fieldLink RX13 66 "ChanceWorksModel" "kinds" "[I", Cond.fieldLink RX13 69 "ChanceWorksModel" "begins" "[I", Cond.fieldLink RX13 72 "ChanceWorksModel" "expressions" "[I", Cond.fieldLink RX13 75 "ChanceWorksModel" "bodies" "[I", Cond.fieldLink RX13 78 "ChanceWorksModel" "elses" "[I"]
def wsX13_swingAll_r2 : List Cond := [Cond.fieldLink RX13 81 "ChanceWorksModel" "nextOf" "[I", Cond.fieldLink RX13 84 "ChanceWorksModel" "parents" "[I", Cond.fieldLink RX13 87 "ChanceWorksModel" "follows" "[I", Cond.fieldLink RX13 90 "ChanceWorksModel" "ofFunctions" "[I", Cond.methodLink RX13 490 yX13_swing, Cond.instanceMethod yX13_swing, Cond.selects RX13 yX13_swing yX13_swing, Cond.initialized RX13, Cond.code yX13_swing cX13_swing 5 none, Cond.fieldLink RX13 116 "ChanceWorksModel" "kept" "[I"]
def wsX13_swingAll : List Cond := .code yX13_swingAll cX13_swingAll 2 none :: ((wsX13_swingAll_r1 ++ wsX13_swingAll_r2) ++ wsX130 ++ (vx_atM "java/lang/ArrayIndexOutOfBoundsException" ["java/lang/IndexOutOfBoundsException", "java/lang/RuntimeException", "java/lang/Exception"]).filter goodWord)
def wsX13_calledBy : List Cond := .code yX13_calledBy cX13_calledBy 2 (some .int) :: ([.fieldLink RX13 72 "ChanceWorksModel" "expressions" "[I"] ++ wsX130 ++ (vx_atM "java/lang/ArrayIndexOutOfBoundsException" ["java/lang/IndexOutOfBoundsException", "java/lang/RuntimeException", "java/lang/Exception"]).filter goodWord)
def wsX13_countArguments : List Cond := .code yX13_countArguments cX13_countArguments 7 (some .int) :: ([.fieldLink RX13 19 "ChanceWorksModel" "sorts" "[B", .fieldLink RX13 26 "ChanceWorksModel" "numbers" "[I"] ++ wsX130 ++ (vx_atM "java/lang/ArrayIndexOutOfBoundsException" ["java/lang/IndexOutOfBoundsException", "java/lang/RuntimeException", "java/lang/Exception"]).filter goodWord)
def wsX13_lookAtCalls_r1 : List Cond := [Cond.fieldLink RX13 378 "ChanceWorksModel" "statements" "I", Cond.fieldLink RX13 66 "ChanceWorksModel" "kinds" "[I", Cond.fieldLink RX13 54 "ChanceWorksModel" "givens" "[I", Cond.fieldLink RX13 300 "ChanceWorksModel" "fault" "I", Cond.fieldLink RX13 22 "ChanceWorksModel" "places" "[I", Cond.fieldLink RX13 303 "ChanceWorksModel" "faultPlace" "I", Cond.fieldLink RX13 93 "ChanceWorksModel" "refs" "[I", Cond.fieldLink RX13 487 "ChanceWorksModel" "main" "I", Cond.fieldLink RX13 343 "ChanceWorksModel" "funcs" "I", Cond.fieldLink RX13 51 "ChanceWorksModel" "funcTokens" "[I", Cond.fieldLink RX13 29 "ChanceWorksModel" "firsts" "[J", Cond.fieldLink RX13 33 "ChanceWorksModel" "seconds" "[I", Cond.fieldLink RX13 253 "ChanceWorksModel" "size" "I", Cond.fieldLink RX13 81 "ChanceWorksModel" "nextOf" "[I", Cond.fieldLink RX13 84 "ChanceWorksModel" "parents" "[I", Cond.fieldLink RX13 87 "ChanceWorksModel" "follows" "[I", Cond.methodLink RX13 325 yX13_isRight, Cond.instanceMethod yX13_isRight, Cond.selects RX13 yX13_isRight yX13_isRight, Cond.initialized RX13, Cond.code yX13_isRight cX13_isRight 1 (some .boolean), Cond.methodLink RX13 510 yX13_calledBy, Cond.instanceMethod yX13_calledBy, Cond.selects RX13 yX13_calledBy yX13_calledBy]
def wsX13_lookAtCalls_r2 : List Cond := [Cond.code yX13_calledBy cX13_calledBy 2 (some .int), Cond.fieldLink RX13 72 "ChanceWorksModel" "expressions" "[I", Cond.methodLink RX13 513 yX13_functionOf, Cond.instanceMethod yX13_functionOf, Cond.selects RX13 yX13_functionOf yX13_functionOf, Cond.code yX13_functionOf cX13_functionOf 3 (some .int), Cond.methodLink RX13 336 yX13_isSame, Cond.instanceMethod yX13_isSame, Cond.selects RX13 yX13_isSame yX13_isSame, Cond.code yX13_isSame cX13_isSame 3 (some .boolean), Cond.methodLink RX13 516 yX13_countArguments, Cond.instanceMethod yX13_countArguments, Cond.selects RX13 yX13_countArguments yX13_countArguments, Cond.code yX13_countArguments cX13_countArguments 7 (some .int), Cond.fieldLink RX13 19 "ChanceWorksModel" "sorts" "[B", Cond.fieldLink RX13 26 "ChanceWorksModel" "numbers" "[I", Cond.methodLink RX13 264 yX13_word, Cond.static yX13_word, Cond.code yX13_word cX13_word 7 (some .long)]
def wsX13_lookAtCalls : List Cond := .code yX13_lookAtCalls cX13_lookAtCalls 4 none :: ((wsX13_lookAtCalls_r1 ++ wsX13_lookAtCalls_r2) ++ wsX130 ++ (vx_atM "java/lang/ArrayIndexOutOfBoundsException" ["java/lang/IndexOutOfBoundsException", "java/lang/RuntimeException", "java/lang/Exception"]).filter goodWord)
def wsX13_tellProgram_r1 : List Cond := [Cond.fieldLink RX13 438 "ChanceWorksModel" "mode" "I", Cond.fieldLink RX13 428 "ChanceWorksModel" "failure" "I", Cond.fieldLink RX13 300 "ChanceWorksModel" "fault" "I", Cond.fieldLink RX13 303 "ChanceWorksModel" "faultPlace" "I", Cond.fieldLink RX13 322 "ChanceWorksModel" "openCount" "I", Cond.fieldLink RX13 333 "ChanceWorksModel" "vars" "I", Cond.fieldLink RX13 340 "ChanceWorksModel" "arrs" "I", Cond.fieldLink RX13 369 "ChanceWorksModel" "cells" "I", Cond.fieldLink RX13 343 "ChanceWorksModel" "funcs" "I", Cond.fieldLink RX13 378 "ChanceWorksModel" "statements" "I", Cond.fieldLink RX13 281 "ChanceWorksModel" "book" "I", Cond.constant RX13 494 (65537), Cond.fieldLink RX13 306 "ChanceWorksModel" "at" "I", Cond.fieldLink RX13 19 "ChanceWorksModel" "sorts" "[B", Cond.methodLink RX13 495 yX13_cutTape, Cond.instanceMethod yX13_cutTape, Cond.selects RX13 yX13_cutTape yX13_cutTape, Cond.initialized RX13, Cond.code yX13_cutTape cX13_cutTape 3 none, Cond.fieldLink RX13 284 "ChanceWorksModel" "tokens" "I", Cond.fieldLink RX13 253 "ChanceWorksModel" "size" "I", Cond.fieldLink RX13 22 "ChanceWorksModel" "places" "[I", Cond.fieldLink RX13 26 "ChanceWorksModel" "numbers" "[I", Cond.methodLink RX13 294 yX13_skip]
def wsX13_tellProgram_r2 : List Cond := [Cond.instanceMethod yX13_skip, Cond.selects RX13 yX13_skip yX13_skip, Cond.code yX13_skip cX13_skip 3 (some .int), Cond.methodLink RX13 256 yX13_byteAt, Cond.instanceMethod yX13_byteAt, Cond.selects RX13 yX13_byteAt yX13_byteAt, Cond.code yX13_byteAt cX13_byteAt 2 (some .int), Cond.fieldLink RX13 14 "ChanceWorksModel" "tape" "[B", Cond.methodLink RX13 260 yX13_isBlank, Cond.static yX13_isBlank, Cond.code yX13_isBlank cX13_isBlank 1 (some .boolean), Cond.methodLink RX13 297 yX13_take, Cond.instanceMethod yX13_take, Cond.selects RX13 yX13_take yX13_take, Cond.code yX13_take cX13_take 5 (some .int), Cond.fieldLink RX13 29 "ChanceWorksModel" "firsts" "[J", Cond.fieldLink RX13 33 "ChanceWorksModel" "seconds" "[I", Cond.methodLink RX13 272 yX13_isLetter, Cond.static yX13_isLetter, Cond.code yX13_isLetter cX13_isLetter 1 (some .boolean), Cond.methodLink RX13 287 yX13_takeName, Cond.instanceMethod yX13_takeName, Cond.selects RX13 yX13_takeName yX13_takeName, Cond.code yX13_takeName cX13_takeName 5 (some .int)]
def wsX13_tellProgram_r3 : List Cond := [Cond.methodLink RX13 275 yX13_isDigit, Cond.static yX13_isDigit, Cond.code yX13_isDigit cX13_isDigit 1 (some .boolean), Cond.methodLink RX13 278 yX13_wordOf, Cond.static yX13_wordOf, Cond.code yX13_wordOf cX13_wordOf 3 (some .int), Cond.methodLink RX13 268 yX13_shortWord, Cond.static yX13_shortWord, Cond.code yX13_shortWord cX13_shortWord 2 (some .int), Cond.methodLink RX13 264 yX13_word, Cond.static yX13_word, Cond.code yX13_word cX13_word 7 (some .long), Cond.methodLink RX13 291 yX13_isSign, Cond.static yX13_isSign, Cond.code yX13_isSign cX13_isSign 1 (some .boolean), Cond.methodLink RX13 309 yX13_readNext, Cond.instanceMethod yX13_readNext, Cond.selects RX13 yX13_readNext yX13_readNext, Cond.code yX13_readNext cX13_readNext 1 none, Cond.methodLink RX13 312 yX13_flaw, Cond.instanceMethod yX13_flaw, Cond.selects RX13 yX13_flaw yX13_flaw, Cond.code yX13_flaw cX13_flaw 3 none, Cond.methodLink RX13 325 yX13_isRight]
def wsX13_tellProgram_r4 : List Cond := [Cond.instanceMethod yX13_isRight, Cond.selects RX13 yX13_isRight yX13_isRight, Cond.code yX13_isRight cX13_isRight 1 (some .boolean), Cond.methodLink RX13 391 yX13_isWord, Cond.instanceMethod yX13_isWord, Cond.selects RX13 yX13_isWord yX13_isWord, Cond.code yX13_isWord cX13_isWord 2 (some .boolean), Cond.methodLink RX13 498 yX13_tellVar, Cond.instanceMethod yX13_tellVar, Cond.selects RX13 yX13_tellVar yX13_tellVar, Cond.code yX13_tellVar cX13_tellVar 5 none, Cond.fieldLink RX13 36 "ChanceWorksModel" "varTokens" "[I", Cond.fieldLink RX13 39 "ChanceWorksModel" "varValues" "[I", Cond.methodLink RX13 319 yX13_go, Cond.instanceMethod yX13_go, Cond.selects RX13 yX13_go yX13_go, Cond.code yX13_go cX13_go 1 none, Cond.methodLink RX13 355 yX13_fresh, Cond.instanceMethod yX13_fresh, Cond.selects RX13 yX13_fresh yX13_fresh, Cond.code yX13_fresh cX13_fresh 7 (some .int), Cond.fieldLink RX13 57 "ChanceWorksModel" "variables" "[I", Cond.fieldLink RX13 346 "ChanceWorksModel" "function" "I", Cond.fieldLink RX13 60 "ChanceWorksModel" "variableTokens" "[I"]
def wsX13_tellProgram_r5 : List Cond := [Cond.methodLink RX13 349 yX13_due, Cond.instanceMethod yX13_due, Cond.selects RX13 yX13_due yX13_due, Cond.code yX13_due cX13_due 2 (some .int), Cond.methodLink RX13 352 yX13_isTold, Cond.instanceMethod yX13_isTold, Cond.selects RX13 yX13_isTold yX13_isTold, Cond.code yX13_isTold cX13_isTold 4 (some .boolean), Cond.fieldLink RX13 42 "ChanceWorksModel" "arrTokens" "[I", Cond.fieldLink RX13 51 "ChanceWorksModel" "funcTokens" "[I", Cond.methodLink RX13 336 yX13_isSame, Cond.instanceMethod yX13_isSame, Cond.selects RX13 yX13_isSame yX13_isSame, Cond.code yX13_isSame cX13_isSame 3 (some .boolean), Cond.methodLink RX13 316 yX13_isAt, Cond.instanceMethod yX13_isAt, Cond.selects RX13 yX13_isAt yX13_isAt, Cond.code yX13_isAt cX13_isAt 2 (some .boolean), Cond.methodLink RX13 329 yX13_sign, Cond.instanceMethod yX13_sign, Cond.selects RX13 yX13_sign yX13_sign, Cond.code yX13_sign cX13_sign 2 none, Cond.methodLink RX13 501 yX13_tellArr, Cond.instanceMethod yX13_tellArr]
def wsX13_tellProgram_r6 : List Cond := [Cond.selects RX13 yX13_tellArr yX13_tellArr, Cond.code yX13_tellArr cX13_tellArr 3 none, Cond.fieldLink RX13 45 "ChanceWorksModel" "arrSizes" "[I", Cond.fieldLink RX13 48 "ChanceWorksModel" "arrFirsts" "[I", Cond.methodLink RX13 359 yX13_open, Cond.instanceMethod yX13_open, Cond.selects RX13 yX13_open yX13_open, Cond.code yX13_open cX13_open 2 none, Cond.methodLink RX13 362 yX13_within, Cond.static yX13_within, Cond.code yX13_within cX13_within 3 (some .boolean), Cond.methodLink RX13 366 yX13_close, Cond.instanceMethod yX13_close, Cond.selects RX13 yX13_close yX13_close, Cond.code yX13_close cX13_close 2 none, Cond.methodLink RX13 504 yX13_tellFunc, Cond.instanceMethod yX13_tellFunc, Cond.selects RX13 yX13_tellFunc yX13_tellFunc, Cond.code yX13_tellFunc cX13_tellFunc 4 none, Cond.fieldLink RX13 54 "ChanceWorksModel" "givens" "[I", Cond.fieldLink RX13 63 "ChanceWorksModel" "firstOf" "[I", Cond.methodLink RX13 372 yX13_tellStatements, Cond.instanceMethod yX13_tellStatements, Cond.selects RX13 yX13_tellStatements yX13_tellStatements]
def wsX13_tellProgram_r7 : List Cond := [Cond.code yX13_tellStatements cX13_tellStatements 1 none, Cond.fieldLink RX13 375 "ChanceWorksModel" "blocks" "I", Cond.methodLink RX13 381 yX13_openBlock, Cond.instanceMethod yX13_openBlock, Cond.selects RX13 yX13_openBlock yX13_openBlock, Cond.code yX13_openBlock cX13_openBlock 3 none, Cond.fieldLink RX13 96 "ChanceWorksModel" "owners" "[I", Cond.fieldLink RX13 99 "ChanceWorksModel" "latest" "[I", Cond.fieldLink RX13 102 "ChanceWorksModel" "isElse" "[Z", Cond.methodLink RX13 385 yX13_tellStatement, Cond.instanceMethod yX13_tellStatement, Cond.selects RX13 yX13_tellStatement yX13_tellStatement, Cond.code yX13_tellStatement cX13_tellStatement 2 none, Cond.fieldLink RX13 72 "ChanceWorksModel" "expressions" "[I", Cond.methodLink RX13 394 yX13_tellNamed, Cond.instanceMethod yX13_tellNamed, Cond.selects RX13 yX13_tellNamed yX13_tellNamed, Cond.code yX13_tellNamed cX13_tellNamed 4 none, Cond.fieldLink RX13 66 "ChanceWorksModel" "kinds" "[I", Cond.methodLink RX13 400 yX13_newStatement, Cond.instanceMethod yX13_newStatement, Cond.selects RX13 yX13_newStatement yX13_newStatement, Cond.code yX13_newStatement cX13_newStatement 5 (some .int), Cond.fieldLink RX13 90 "ChanceWorksModel" "ofFunctions" "[I"]
def wsX13_tellProgram_r8 : List Cond := [Cond.fieldLink RX13 69 "ChanceWorksModel" "begins" "[I", Cond.fieldLink RX13 75 "ChanceWorksModel" "bodies" "[I", Cond.fieldLink RX13 78 "ChanceWorksModel" "elses" "[I", Cond.fieldLink RX13 81 "ChanceWorksModel" "nextOf" "[I", Cond.fieldLink RX13 84 "ChanceWorksModel" "parents" "[I", Cond.methodLink RX13 407 yX13_arguments, Cond.instanceMethod yX13_arguments, Cond.selects RX13 yX13_arguments yX13_arguments, Cond.code yX13_arguments cX13_arguments 2 none, Cond.methodLink RX13 403 yX13_expression, Cond.instanceMethod yX13_expression, Cond.selects RX13 yX13_expression yX13_expression, Cond.code yX13_expression cX13_expression 2 (some .int), Cond.fieldLink RX13 425 "ChanceWorksModel" "waiting" "I", Cond.fieldLink RX13 435 "ChanceWorksModel" "values" "I", Cond.fieldLink RX13 113 "ChanceWorksModel" "piles" "[I", Cond.methodLink RX13 448 yX13_goesOn, Cond.instanceMethod yX13_goesOn, Cond.selects RX13 yX13_goesOn yX13_goesOn, Cond.code yX13_goesOn cX13_goesOn 1 (some .boolean), Cond.methodLink RX13 478 yX13_operand, Cond.instanceMethod yX13_operand, Cond.selects RX13 yX13_operand yX13_operand, Cond.code yX13_operand cX13_operand 2 (some .boolean)]
def wsX13_tellProgram_r9 : List Cond := [Cond.methodLink RX13 460 yX13_hold, Cond.instanceMethod yX13_hold, Cond.selects RX13 yX13_hold yX13_hold, Cond.code yX13_hold cX13_hold 3 none, Cond.fieldLink RX13 107 "ChanceWorksModel" "waits" "[I", Cond.fieldLink RX13 110 "ChanceWorksModel" "waitRefs" "[I", Cond.methodLink RX13 463 yX13_push, Cond.instanceMethod yX13_push, Cond.selects RX13 yX13_push yX13_push, Cond.code yX13_push cX13_push 2 none, Cond.methodLink RX13 457 yX13_turn, Cond.instanceMethod yX13_turn, Cond.selects RX13 yX13_turn yX13_turn, Cond.code yX13_turn cX13_turn 2 none, Cond.methodLink RX13 451 yX13_top, Cond.instanceMethod yX13_top, Cond.selects RX13 yX13_top yX13_top, Cond.code yX13_top cX13_top 1 (some .int), Cond.methodLink RX13 431 yX13_truth, Cond.static yX13_truth, Cond.code yX13_truth cX13_truth 1 (some .int), Cond.methodLink RX13 466 yX13_named, Cond.instanceMethod yX13_named, Cond.selects RX13 yX13_named yX13_named]
def wsX13_tellProgram_r10 : List Cond := [Cond.code yX13_named cX13_named 3 (some .boolean), Cond.fieldLink RX13 93 "ChanceWorksModel" "refs" "[I", Cond.methodLink RX13 410 yX13_arrayOf, Cond.instanceMethod yX13_arrayOf, Cond.selects RX13 yX13_arrayOf yX13_arrayOf, Cond.code yX13_arrayOf cX13_arrayOf 3 (some .int), Cond.methodLink RX13 413 yX13_variableOf, Cond.instanceMethod yX13_variableOf, Cond.selects RX13 yX13_variableOf yX13_variableOf, Cond.code yX13_variableOf cX13_variableOf 3 (some .int), Cond.methodLink RX13 416 yX13_look, Cond.instanceMethod yX13_look, Cond.selects RX13 yX13_look yX13_look, Cond.code yX13_look cX13_look 3 none, Cond.methodLink RX13 469 yX13_valueOf, Cond.instanceMethod yX13_valueOf, Cond.selects RX13 yX13_valueOf yX13_valueOf, Cond.code yX13_valueOf cX13_valueOf 2 (some .int), Cond.fieldLink RX13 122 "ChanceWorksModel" "globals" "[I", Cond.fieldLink RX13 128 "ChanceWorksModel" "callVars" "[I", Cond.fieldLink RX13 551 "ChanceWorksModel" "calls" "I", Cond.methodLink RX13 481 yX13_behind, Cond.instanceMethod yX13_behind, Cond.selects RX13 yX13_behind yX13_behind]
def wsX13_tellProgram_r11 : List Cond := [Cond.code yX13_behind cX13_behind 4 (some .int), Cond.methodLink RX13 441 yX13_rank, Cond.static yX13_rank, Cond.code yX13_rank cX13_rank 1 (some .int), Cond.methodLink RX13 472 yX13_settle, Cond.instanceMethod yX13_settle, Cond.selects RX13 yX13_settle yX13_settle, Cond.code yX13_settle cX13_settle 2 none, Cond.methodLink RX13 454 yX13_apply, Cond.instanceMethod yX13_apply, Cond.selects RX13 yX13_apply yX13_apply, Cond.code yX13_apply cX13_apply 5 none, Cond.methodLink RX13 444 yX13_compared, Cond.static yX13_compared, Cond.code yX13_compared cX13_compared 3 (some .int), Cond.methodLink RX13 475 yX13_cellOf, Cond.instanceMethod yX13_cellOf, Cond.selects RX13 yX13_cellOf yX13_cellOf, Cond.code yX13_cellOf cX13_cellOf 4 (some .int), Cond.methodLink RX13 419 yX13_tellDraw, Cond.instanceMethod yX13_tellDraw, Cond.selects RX13 yX13_tellDraw yX13_tellDraw, Cond.code yX13_tellDraw cX13_tellDraw 3 none, Cond.methodLink RX13 422 yX13_isNext]
def wsX13_tellProgram_r12 : List Cond := [Cond.instanceMethod yX13_isNext, Cond.selects RX13 yX13_isNext yX13_isNext, Cond.code yX13_isNext cX13_isNext 2 (some .boolean), Cond.methodLink RX13 397 yX13_tellLocal, Cond.instanceMethod yX13_tellLocal, Cond.selects RX13 yX13_tellLocal yX13_tellLocal, Cond.code yX13_tellLocal cX13_tellLocal 3 none, Cond.methodLink RX13 388 yX13_endBlock, Cond.instanceMethod yX13_endBlock, Cond.selects RX13 yX13_endBlock yX13_endBlock, Cond.code yX13_endBlock cX13_endBlock 3 none, Cond.methodLink RX13 507 yX13_lookAtCalls, Cond.instanceMethod yX13_lookAtCalls, Cond.selects RX13 yX13_lookAtCalls yX13_lookAtCalls, Cond.code yX13_lookAtCalls cX13_lookAtCalls 4 none, Cond.fieldLink RX13 487 "ChanceWorksModel" "main" "I", Cond.fieldLink RX13 87 "ChanceWorksModel" "follows" "[I", Cond.methodLink RX13 510 yX13_calledBy, Cond.instanceMethod yX13_calledBy, Cond.selects RX13 yX13_calledBy yX13_calledBy, Cond.code yX13_calledBy cX13_calledBy 2 (some .int), Cond.methodLink RX13 513 yX13_functionOf, Cond.instanceMethod yX13_functionOf, Cond.selects RX13 yX13_functionOf yX13_functionOf]
def wsX13_tellProgram_r13 : List Cond := [Cond.code yX13_functionOf cX13_functionOf 3 (some .int), Cond.methodLink RX13 516 yX13_countArguments, Cond.instanceMethod yX13_countArguments, Cond.selects RX13 yX13_countArguments yX13_countArguments, Cond.code yX13_countArguments cX13_countArguments 7 (some .int)]
def wsX13_tellProgram : List Cond := .code yX13_tellProgram cX13_tellProgram 1 none :: ((wsX13_tellProgram_r1 ++ (wsX13_tellProgram_r2 ++ (wsX13_tellProgram_r3 ++ (wsX13_tellProgram_r4 ++ (wsX13_tellProgram_r5 ++ (wsX13_tellProgram_r6 ++ (wsX13_tellProgram_r7 ++ (wsX13_tellProgram_r8 ++ (wsX13_tellProgram_r9 ++ (wsX13_tellProgram_r10 ++ (wsX13_tellProgram_r11 ++ (wsX13_tellProgram_r12 ++ wsX13_tellProgram_r13)))))))))))) ++ wsX130 ++ (vx_atM "java/lang/ArrayIndexOutOfBoundsException" ["java/lang/IndexOutOfBoundsException", "java/lang/RuntimeException", "java/lang/Exception"]).filter goodWord)
def wsX13_program_r1 : List Cond := [Cond.fieldLink RX13 1 "ChanceWorksModel" "code" "I", Cond.fieldLink RX13 253 "ChanceWorksModel" "size" "I", Cond.fieldLink RX13 300 "ChanceWorksModel" "fault" "I", Cond.fieldLink RX13 526 "ChanceWorksModel" "lastFault" "I", Cond.fieldLink RX13 303 "ChanceWorksModel" "faultPlace" "I", Cond.fieldLink RX13 529 "ChanceWorksModel" "stands" "Z", Cond.fieldLink RX13 533 "ChanceWorksModel" "isExplored" "Z", Cond.fieldLink RX13 536 "ChanceWorksModel" "isSolved" "Z", Cond.fieldLink RX13 539 "ChanceWorksModel" "isBest" "Z", Cond.fieldLink RX13 220 "ChanceWorksModel" "howPlayed" "I", Cond.fieldLink RX13 542 "ChanceWorksModel" "states" "I", Cond.fieldLink RX13 545 "ChanceWorksModel" "endings" "I", Cond.fieldLink RX13 548 "ChanceWorksModel" "nextCount" "I", Cond.fieldLink RX13 378 "ChanceWorksModel" "statements" "I", Cond.methodLink RX13 519 yX13_swingAll, Cond.instanceMethod yX13_swingAll, Cond.selects RX13 yX13_swingAll yX13_swingAll, Cond.initialized RX13, Cond.code yX13_swingAll cX13_swingAll 2 none, Cond.fieldLink RX13 484 "ChanceWorksModel" "cursor" "I", Cond.fieldLink RX13 119 "ChanceWorksModel" "few" "[I", Cond.fieldLink RX13 333 "ChanceWorksModel" "vars" "I", Cond.fieldLink RX13 340 "ChanceWorksModel" "arrs" "I", Cond.fieldLink RX13 369 "ChanceWorksModel" "cells" "I"]
def wsX13_program_r2 : List Cond := [Cond.fieldLink RX13 343 "ChanceWorksModel" "funcs" "I", Cond.fieldLink RX13 487 "ChanceWorksModel" "main" "I", Cond.fieldLink RX13 281 "ChanceWorksModel" "book" "I", Cond.fieldLink RX13 36 "ChanceWorksModel" "varTokens" "[I", Cond.fieldLink RX13 39 "ChanceWorksModel" "varValues" "[I", Cond.fieldLink RX13 42 "ChanceWorksModel" "arrTokens" "[I", Cond.fieldLink RX13 45 "ChanceWorksModel" "arrSizes" "[I", Cond.fieldLink RX13 48 "ChanceWorksModel" "arrFirsts" "[I", Cond.fieldLink RX13 51 "ChanceWorksModel" "funcTokens" "[I", Cond.fieldLink RX13 54 "ChanceWorksModel" "givens" "[I", Cond.fieldLink RX13 57 "ChanceWorksModel" "variables" "[I", Cond.fieldLink RX13 60 "ChanceWorksModel" "variableTokens" "[I", Cond.fieldLink RX13 63 "ChanceWorksModel" "firstOf" "[I", Cond.fieldLink RX13 66 "ChanceWorksModel" "kinds" "[I", Cond.fieldLink RX13 69 "ChanceWorksModel" "begins" "[I", Cond.fieldLink RX13 72 "ChanceWorksModel" "expressions" "[I", Cond.fieldLink RX13 75 "ChanceWorksModel" "bodies" "[I", Cond.fieldLink RX13 78 "ChanceWorksModel" "elses" "[I", Cond.fieldLink RX13 81 "ChanceWorksModel" "nextOf" "[I", Cond.fieldLink RX13 84 "ChanceWorksModel" "parents" "[I", Cond.fieldLink RX13 87 "ChanceWorksModel" "follows" "[I", Cond.fieldLink RX13 90 "ChanceWorksModel" "ofFunctions" "[I", Cond.methodLink RX13 490 yX13_swing, Cond.instanceMethod yX13_swing]
def wsX13_program_r3 : List Cond := [Cond.selects RX13 yX13_swing yX13_swing, Cond.code yX13_swing cX13_swing 5 none, Cond.fieldLink RX13 116 "ChanceWorksModel" "kept" "[I", Cond.methodLink RX13 523 yX13_tellProgram, Cond.instanceMethod yX13_tellProgram, Cond.selects RX13 yX13_tellProgram yX13_tellProgram, Cond.code yX13_tellProgram cX13_tellProgram 1 none, Cond.fieldLink RX13 438 "ChanceWorksModel" "mode" "I", Cond.fieldLink RX13 428 "ChanceWorksModel" "failure" "I", Cond.fieldLink RX13 322 "ChanceWorksModel" "openCount" "I", Cond.constant RX13 494 (65537), Cond.fieldLink RX13 306 "ChanceWorksModel" "at" "I", Cond.fieldLink RX13 19 "ChanceWorksModel" "sorts" "[B", Cond.methodLink RX13 495 yX13_cutTape, Cond.instanceMethod yX13_cutTape, Cond.selects RX13 yX13_cutTape yX13_cutTape, Cond.code yX13_cutTape cX13_cutTape 3 none, Cond.fieldLink RX13 284 "ChanceWorksModel" "tokens" "I", Cond.fieldLink RX13 22 "ChanceWorksModel" "places" "[I", Cond.fieldLink RX13 26 "ChanceWorksModel" "numbers" "[I", Cond.methodLink RX13 294 yX13_skip, Cond.instanceMethod yX13_skip, Cond.selects RX13 yX13_skip yX13_skip, Cond.code yX13_skip cX13_skip 3 (some .int)]
def wsX13_program_r4 : List Cond := [Cond.methodLink RX13 256 yX13_byteAt, Cond.instanceMethod yX13_byteAt, Cond.selects RX13 yX13_byteAt yX13_byteAt, Cond.code yX13_byteAt cX13_byteAt 2 (some .int), Cond.fieldLink RX13 14 "ChanceWorksModel" "tape" "[B", Cond.methodLink RX13 260 yX13_isBlank, Cond.static yX13_isBlank, Cond.code yX13_isBlank cX13_isBlank 1 (some .boolean), Cond.methodLink RX13 297 yX13_take, Cond.instanceMethod yX13_take, Cond.selects RX13 yX13_take yX13_take, Cond.code yX13_take cX13_take 5 (some .int), Cond.fieldLink RX13 29 "ChanceWorksModel" "firsts" "[J", Cond.fieldLink RX13 33 "ChanceWorksModel" "seconds" "[I", Cond.methodLink RX13 272 yX13_isLetter, Cond.static yX13_isLetter, Cond.code yX13_isLetter cX13_isLetter 1 (some .boolean), Cond.methodLink RX13 287 yX13_takeName, Cond.instanceMethod yX13_takeName, Cond.selects RX13 yX13_takeName yX13_takeName, Cond.code yX13_takeName cX13_takeName 5 (some .int), Cond.methodLink RX13 275 yX13_isDigit, Cond.static yX13_isDigit, Cond.code yX13_isDigit cX13_isDigit 1 (some .boolean)]
def wsX13_program_r5 : List Cond := [Cond.methodLink RX13 278 yX13_wordOf, Cond.static yX13_wordOf, Cond.code yX13_wordOf cX13_wordOf 3 (some .int), Cond.methodLink RX13 268 yX13_shortWord, Cond.static yX13_shortWord, Cond.code yX13_shortWord cX13_shortWord 2 (some .int), Cond.methodLink RX13 264 yX13_word, Cond.static yX13_word, Cond.code yX13_word cX13_word 7 (some .long), Cond.methodLink RX13 291 yX13_isSign, Cond.static yX13_isSign, Cond.code yX13_isSign cX13_isSign 1 (some .boolean), Cond.methodLink RX13 309 yX13_readNext, Cond.instanceMethod yX13_readNext, Cond.selects RX13 yX13_readNext yX13_readNext, Cond.code yX13_readNext cX13_readNext 1 none, Cond.methodLink RX13 312 yX13_flaw, Cond.instanceMethod yX13_flaw, Cond.selects RX13 yX13_flaw yX13_flaw, Cond.code yX13_flaw cX13_flaw 3 none, Cond.methodLink RX13 325 yX13_isRight, Cond.instanceMethod yX13_isRight, Cond.selects RX13 yX13_isRight yX13_isRight, Cond.code yX13_isRight cX13_isRight 1 (some .boolean)]
def wsX13_program_r6 : List Cond := [Cond.methodLink RX13 391 yX13_isWord, Cond.instanceMethod yX13_isWord, Cond.selects RX13 yX13_isWord yX13_isWord, Cond.code yX13_isWord cX13_isWord 2 (some .boolean), Cond.methodLink RX13 498 yX13_tellVar, Cond.instanceMethod yX13_tellVar, Cond.selects RX13 yX13_tellVar yX13_tellVar, Cond.code yX13_tellVar cX13_tellVar 5 none, Cond.methodLink RX13 319 yX13_go, Cond.instanceMethod yX13_go, Cond.selects RX13 yX13_go yX13_go, Cond.code yX13_go cX13_go 1 none, Cond.methodLink RX13 355 yX13_fresh, Cond.instanceMethod yX13_fresh, Cond.selects RX13 yX13_fresh yX13_fresh, Cond.code yX13_fresh cX13_fresh 7 (some .int), Cond.fieldLink RX13 346 "ChanceWorksModel" "function" "I", Cond.methodLink RX13 349 yX13_due, Cond.instanceMethod yX13_due, Cond.selects RX13 yX13_due yX13_due, Cond.code yX13_due cX13_due 2 (some .int), Cond.methodLink RX13 352 yX13_isTold, Cond.instanceMethod yX13_isTold, Cond.selects RX13 yX13_isTold yX13_isTold]
def wsX13_program_r7 : List Cond := [Cond.code yX13_isTold cX13_isTold 4 (some .boolean), Cond.methodLink RX13 336 yX13_isSame, Cond.instanceMethod yX13_isSame, Cond.selects RX13 yX13_isSame yX13_isSame, Cond.code yX13_isSame cX13_isSame 3 (some .boolean), Cond.methodLink RX13 316 yX13_isAt, Cond.instanceMethod yX13_isAt, Cond.selects RX13 yX13_isAt yX13_isAt, Cond.code yX13_isAt cX13_isAt 2 (some .boolean), Cond.methodLink RX13 329 yX13_sign, Cond.instanceMethod yX13_sign, Cond.selects RX13 yX13_sign yX13_sign, Cond.code yX13_sign cX13_sign 2 none, Cond.methodLink RX13 501 yX13_tellArr, Cond.instanceMethod yX13_tellArr, Cond.selects RX13 yX13_tellArr yX13_tellArr, Cond.code yX13_tellArr cX13_tellArr 3 none, Cond.methodLink RX13 359 yX13_open, Cond.instanceMethod yX13_open, Cond.selects RX13 yX13_open yX13_open, Cond.code yX13_open cX13_open 2 none, Cond.methodLink RX13 362 yX13_within, Cond.static yX13_within, Cond.code yX13_within cX13_within 3 (some .boolean)]
def wsX13_program_r8 : List Cond := [Cond.methodLink RX13 366 yX13_close, Cond.instanceMethod yX13_close, Cond.selects RX13 yX13_close yX13_close, Cond.code yX13_close cX13_close 2 none, Cond.methodLink RX13 504 yX13_tellFunc, Cond.instanceMethod yX13_tellFunc, Cond.selects RX13 yX13_tellFunc yX13_tellFunc, Cond.code yX13_tellFunc cX13_tellFunc 4 none, Cond.methodLink RX13 372 yX13_tellStatements, Cond.instanceMethod yX13_tellStatements, Cond.selects RX13 yX13_tellStatements yX13_tellStatements, Cond.code yX13_tellStatements cX13_tellStatements 1 none, Cond.fieldLink RX13 375 "ChanceWorksModel" "blocks" "I", Cond.methodLink RX13 381 yX13_openBlock, Cond.instanceMethod yX13_openBlock, Cond.selects RX13 yX13_openBlock yX13_openBlock, Cond.code yX13_openBlock cX13_openBlock 3 none, Cond.fieldLink RX13 96 "ChanceWorksModel" "owners" "[I", Cond.fieldLink RX13 99 "ChanceWorksModel" "latest" "[I", Cond.fieldLink RX13 102 "ChanceWorksModel" "isElse" "[Z", Cond.methodLink RX13 385 yX13_tellStatement, Cond.instanceMethod yX13_tellStatement, Cond.selects RX13 yX13_tellStatement yX13_tellStatement, Cond.code yX13_tellStatement cX13_tellStatement 2 none]
def wsX13_program_r9 : List Cond := [Cond.methodLink RX13 394 yX13_tellNamed, Cond.instanceMethod yX13_tellNamed, Cond.selects RX13 yX13_tellNamed yX13_tellNamed, Cond.code yX13_tellNamed cX13_tellNamed 4 none, Cond.methodLink RX13 400 yX13_newStatement, Cond.instanceMethod yX13_newStatement, Cond.selects RX13 yX13_newStatement yX13_newStatement, Cond.code yX13_newStatement cX13_newStatement 5 (some .int), Cond.methodLink RX13 407 yX13_arguments, Cond.instanceMethod yX13_arguments, Cond.selects RX13 yX13_arguments yX13_arguments, Cond.code yX13_arguments cX13_arguments 2 none, Cond.methodLink RX13 403 yX13_expression, Cond.instanceMethod yX13_expression, Cond.selects RX13 yX13_expression yX13_expression, Cond.code yX13_expression cX13_expression 2 (some .int), Cond.fieldLink RX13 425 "ChanceWorksModel" "waiting" "I", Cond.fieldLink RX13 435 "ChanceWorksModel" "values" "I", Cond.fieldLink RX13 113 "ChanceWorksModel" "piles" "[I", Cond.methodLink RX13 448 yX13_goesOn, Cond.instanceMethod yX13_goesOn, Cond.selects RX13 yX13_goesOn yX13_goesOn, Cond.code yX13_goesOn cX13_goesOn 1 (some .boolean), Cond.methodLink RX13 478 yX13_operand]
def wsX13_program_r10 : List Cond := [Cond.instanceMethod yX13_operand, Cond.selects RX13 yX13_operand yX13_operand, Cond.code yX13_operand cX13_operand 2 (some .boolean), Cond.methodLink RX13 460 yX13_hold, Cond.instanceMethod yX13_hold, Cond.selects RX13 yX13_hold yX13_hold, Cond.code yX13_hold cX13_hold 3 none, Cond.fieldLink RX13 107 "ChanceWorksModel" "waits" "[I", Cond.fieldLink RX13 110 "ChanceWorksModel" "waitRefs" "[I", Cond.methodLink RX13 463 yX13_push, Cond.instanceMethod yX13_push, Cond.selects RX13 yX13_push yX13_push, Cond.code yX13_push cX13_push 2 none, Cond.methodLink RX13 457 yX13_turn, Cond.instanceMethod yX13_turn, Cond.selects RX13 yX13_turn yX13_turn, Cond.code yX13_turn cX13_turn 2 none, Cond.methodLink RX13 451 yX13_top, Cond.instanceMethod yX13_top, Cond.selects RX13 yX13_top yX13_top, Cond.code yX13_top cX13_top 1 (some .int), Cond.methodLink RX13 431 yX13_truth, Cond.static yX13_truth, Cond.code yX13_truth cX13_truth 1 (some .int)]
def wsX13_program_r11 : List Cond := [Cond.methodLink RX13 466 yX13_named, Cond.instanceMethod yX13_named, Cond.selects RX13 yX13_named yX13_named, Cond.code yX13_named cX13_named 3 (some .boolean), Cond.fieldLink RX13 93 "ChanceWorksModel" "refs" "[I", Cond.methodLink RX13 410 yX13_arrayOf, Cond.instanceMethod yX13_arrayOf, Cond.selects RX13 yX13_arrayOf yX13_arrayOf, Cond.code yX13_arrayOf cX13_arrayOf 3 (some .int), Cond.methodLink RX13 413 yX13_variableOf, Cond.instanceMethod yX13_variableOf, Cond.selects RX13 yX13_variableOf yX13_variableOf, Cond.code yX13_variableOf cX13_variableOf 3 (some .int), Cond.methodLink RX13 416 yX13_look, Cond.instanceMethod yX13_look, Cond.selects RX13 yX13_look yX13_look, Cond.code yX13_look cX13_look 3 none, Cond.methodLink RX13 469 yX13_valueOf, Cond.instanceMethod yX13_valueOf, Cond.selects RX13 yX13_valueOf yX13_valueOf, Cond.code yX13_valueOf cX13_valueOf 2 (some .int), Cond.fieldLink RX13 122 "ChanceWorksModel" "globals" "[I", Cond.fieldLink RX13 128 "ChanceWorksModel" "callVars" "[I", Cond.fieldLink RX13 551 "ChanceWorksModel" "calls" "I"]
def wsX13_program_r12 : List Cond := [Cond.methodLink RX13 481 yX13_behind, Cond.instanceMethod yX13_behind, Cond.selects RX13 yX13_behind yX13_behind, Cond.code yX13_behind cX13_behind 4 (some .int), Cond.methodLink RX13 441 yX13_rank, Cond.static yX13_rank, Cond.code yX13_rank cX13_rank 1 (some .int), Cond.methodLink RX13 472 yX13_settle, Cond.instanceMethod yX13_settle, Cond.selects RX13 yX13_settle yX13_settle, Cond.code yX13_settle cX13_settle 2 none, Cond.methodLink RX13 454 yX13_apply, Cond.instanceMethod yX13_apply, Cond.selects RX13 yX13_apply yX13_apply, Cond.code yX13_apply cX13_apply 5 none, Cond.methodLink RX13 444 yX13_compared, Cond.static yX13_compared, Cond.code yX13_compared cX13_compared 3 (some .int), Cond.methodLink RX13 475 yX13_cellOf, Cond.instanceMethod yX13_cellOf, Cond.selects RX13 yX13_cellOf yX13_cellOf, Cond.code yX13_cellOf cX13_cellOf 4 (some .int), Cond.methodLink RX13 419 yX13_tellDraw, Cond.instanceMethod yX13_tellDraw]
def wsX13_program_r13 : List Cond := [Cond.selects RX13 yX13_tellDraw yX13_tellDraw, Cond.code yX13_tellDraw cX13_tellDraw 3 none, Cond.methodLink RX13 422 yX13_isNext, Cond.instanceMethod yX13_isNext, Cond.selects RX13 yX13_isNext yX13_isNext, Cond.code yX13_isNext cX13_isNext 2 (some .boolean), Cond.methodLink RX13 397 yX13_tellLocal, Cond.instanceMethod yX13_tellLocal, Cond.selects RX13 yX13_tellLocal yX13_tellLocal, Cond.code yX13_tellLocal cX13_tellLocal 3 none, Cond.methodLink RX13 388 yX13_endBlock, Cond.instanceMethod yX13_endBlock, Cond.selects RX13 yX13_endBlock yX13_endBlock, Cond.code yX13_endBlock cX13_endBlock 3 none, Cond.methodLink RX13 507 yX13_lookAtCalls, Cond.instanceMethod yX13_lookAtCalls, Cond.selects RX13 yX13_lookAtCalls yX13_lookAtCalls, Cond.code yX13_lookAtCalls cX13_lookAtCalls 4 none, Cond.methodLink RX13 510 yX13_calledBy, Cond.instanceMethod yX13_calledBy, Cond.selects RX13 yX13_calledBy yX13_calledBy, Cond.code yX13_calledBy cX13_calledBy 2 (some .int), Cond.methodLink RX13 513 yX13_functionOf, Cond.instanceMethod yX13_functionOf]
def wsX13_program_r14 : List Cond := [Cond.selects RX13 yX13_functionOf yX13_functionOf, Cond.code yX13_functionOf cX13_functionOf 3 (some .int), Cond.methodLink RX13 516 yX13_countArguments, Cond.instanceMethod yX13_countArguments, Cond.selects RX13 yX13_countArguments yX13_countArguments, Cond.code yX13_countArguments cX13_countArguments 7 (some .int)]
def wsX13_program : List Cond := .code yX13_program cX13_program 1 (some .int) :: ((wsX13_program_r1 ++ (wsX13_program_r2 ++ (wsX13_program_r3 ++ (wsX13_program_r4 ++ (wsX13_program_r5 ++ (wsX13_program_r6 ++ (wsX13_program_r7 ++ (wsX13_program_r8 ++ (wsX13_program_r9 ++ (wsX13_program_r10 ++ (wsX13_program_r11 ++ (wsX13_program_r12 ++ (wsX13_program_r13 ++ wsX13_program_r14))))))))))))) ++ wsX130 ++ (vx_atM "java/lang/ArrayIndexOutOfBoundsException" ["java/lang/IndexOutOfBoundsException", "java/lang/RuntimeException", "java/lang/Exception"]).filter goodWord)
theorem dX13_byteAt_0 : decode cX13_byteAt 0 = .ok (.iload_n 1, 1) := by decide +kernel
theorem dX13_byteAt_1 : decode cX13_byteAt 1 = .ok (.aload_n 0, 1) := by decide +kernel
theorem dX13_byteAt_2 : decode cX13_byteAt 2 = .ok (.getfield 253, 3) := by decide +kernel
theorem dX13_byteAt_5 : decode cX13_byteAt 5 = .ok (.if_icmp .ge 16, 3) := by decide +kernel
theorem dX13_byteAt_8 : decode cX13_byteAt 8 = .ok (.aload_n 0, 1) := by decide +kernel
theorem dX13_byteAt_9 : decode cX13_byteAt 9 = .ok (.getfield 14, 3) := by decide +kernel
theorem dX13_byteAt_12 : decode cX13_byteAt 12 = .ok (.iload_n 1, 1) := by decide +kernel
theorem dX13_byteAt_13 : decode cX13_byteAt 13 = .ok (.baload, 1) := by decide +kernel
theorem dX13_byteAt_14 : decode cX13_byteAt 14 = .ok (.sipush 255, 3) := by decide +kernel
theorem dX13_byteAt_17 : decode cX13_byteAt 17 = .ok (.iand, 1) := by decide +kernel
theorem dX13_byteAt_18 : decode cX13_byteAt 18 = .ok (.goto 4, 3) := by decide +kernel
theorem dX13_byteAt_21 : decode cX13_byteAt 21 = .ok (.iconst (-1), 1) := by decide +kernel
theorem dX13_byteAt_22 : decode cX13_byteAt 22 = .ok (.ireturn, 1) := by decide +kernel
theorem dX13_isBlank_0 : decode cX13_isBlank 0 = .ok (.iload_n 0, 1) := by decide +kernel
theorem dX13_isBlank_1 : decode cX13_isBlank 1 = .ok (.bipush 9, 2) := by decide +kernel
theorem dX13_isBlank_3 : decode cX13_isBlank 3 = .ok (.if_icmp .eq 21, 3) := by decide +kernel
theorem dX13_isBlank_6 : decode cX13_isBlank 6 = .ok (.iload_n 0, 1) := by decide +kernel
theorem dX13_isBlank_7 : decode cX13_isBlank 7 = .ok (.bipush 10, 2) := by decide +kernel
theorem dX13_isBlank_9 : decode cX13_isBlank 9 = .ok (.if_icmp .eq 15, 3) := by decide +kernel
theorem dX13_isBlank_12 : decode cX13_isBlank 12 = .ok (.iload_n 0, 1) := by decide +kernel
theorem dX13_isBlank_13 : decode cX13_isBlank 13 = .ok (.bipush 13, 2) := by decide +kernel
theorem dX13_isBlank_15 : decode cX13_isBlank 15 = .ok (.if_icmp .eq 9, 3) := by decide +kernel
theorem dX13_isBlank_18 : decode cX13_isBlank 18 = .ok (.iload_n 0, 1) := by decide +kernel
theorem dX13_isBlank_19 : decode cX13_isBlank 19 = .ok (.bipush 32, 2) := by decide +kernel
theorem dX13_isBlank_21 : decode cX13_isBlank 21 = .ok (.if_icmp .ne 7, 3) := by decide +kernel
theorem dX13_isBlank_24 : decode cX13_isBlank 24 = .ok (.iconst 1, 1) := by decide +kernel
theorem dX13_isBlank_25 : decode cX13_isBlank 25 = .ok (.goto 4, 3) := by decide +kernel
theorem dX13_isBlank_28 : decode cX13_isBlank 28 = .ok (.iconst 0, 1) := by decide +kernel
theorem dX13_isBlank_29 : decode cX13_isBlank 29 = .ok (.ireturn, 1) := by decide +kernel
set_option maxRecDepth 20000 in
theorem ggX13_skip_X13_byteAt : GoodIn wsX13_skip wsX13_byteAt := goodIn_ca (goodIn_r _ [6, 1, 7, 11, 12, 13, 14, 15, 16, 17, 18, 19, 20, 21, 22, 23, 24, 25, 26, 27, 28, 29, 30, 31, 32, 33, 34, 35, 36, 37, 38, 39, 40, 41, 42, 43, 44, 45, 46, 47, 48, 49, 50, 51, 52, 53, 54, 55, 56, 57, 58, 59, 60, 61, 62, 63, 64, 65, 66, 67, 68, 69, 70, 71, 72, 73, 74, 75, 76, 77, 78, 79, 80, 81, 82, 83, 84, 85, 86, 87, 88, 89, 90, 91, 92, 93, 94, 95, 96, 97, 98, 99, 100, 101, 102, 103, 104, 105, 106, 107, 108, 109, 110, 111, 112, 113, 114, 115, 116, 117, 118, 119, 120, 121, 122, 123, 124, 125, 126, 127, 128, 129, 130, 131, 132, 133, 134, 135, 136] (by decide +kernel) (by decide +kernel)) (goodIn_sub (fun _ h => List.mem_cons_of_mem _ (List.mem_append_right _ h)) (by decide +kernel))
set_option maxRecDepth 20000 in
theorem gX13_skip_X13_byteAt : GoodIn wsX13_skip (wsV RX13 256 RX13 yX13_byteAt wsX13_byteAt) := goodIn_app (goodIn_of _ (by decide +kernel)) ggX13_skip_X13_byteAt
set_option maxRecDepth 20000 in
theorem ggX13_skip_X13_isBlank : GoodIn wsX13_skip wsX13_isBlank := goodIn_r _ [10] (by decide +kernel) (by decide +kernel)
set_option maxRecDepth 20000 in
theorem gX13_skip_X13_isBlank : GoodIn wsX13_skip (va_wsS RX13 260 yX13_isBlank wsX13_isBlank) := goodIn_app (goodIn_of _ (by decide +kernel)) ggX13_skip_X13_isBlank
theorem dX13_skip_0 : decode cX13_skip 0 = .ok (.iload_n 1, 1) := by decide +kernel
theorem dX13_skip_1 : decode cX13_skip 1 = .ok (.istore_n 2, 1) := by decide +kernel
theorem dX13_skip_2 : decode cX13_skip 2 = .ok (.aload_n 0, 1) := by decide +kernel
theorem dX13_skip_3 : decode cX13_skip 3 = .ok (.iload_n 2, 1) := by decide +kernel
theorem dX13_skip_4 : decode cX13_skip 4 = .ok (.invokevirtual 256, 3) := by decide +kernel
theorem dX13_skip_7 : decode cX13_skip 7 = .ok (.invokestatic 260, 3) := by decide +kernel
theorem dX13_skip_10 : decode cX13_skip 10 = .ok (.ifCond .ne 13, 3) := by decide +kernel
theorem dX13_skip_13 : decode cX13_skip 13 = .ok (.aload_n 0, 1) := by decide +kernel
theorem dX13_skip_14 : decode cX13_skip 14 = .ok (.iload_n 2, 1) := by decide +kernel
theorem dX13_skip_15 : decode cX13_skip 15 = .ok (.invokevirtual 256, 3) := by decide +kernel
theorem dX13_skip_18 : decode cX13_skip 18 = .ok (.bipush 35, 2) := by decide +kernel
theorem dX13_skip_20 : decode cX13_skip 20 = .ok (.if_icmp .ne 43, 3) := by decide +kernel
theorem dX13_skip_23 : decode cX13_skip 23 = .ok (.aload_n 0, 1) := by decide +kernel
theorem dX13_skip_24 : decode cX13_skip 24 = .ok (.iload_n 2, 1) := by decide +kernel
theorem dX13_skip_25 : decode cX13_skip 25 = .ok (.invokevirtual 256, 3) := by decide +kernel
theorem dX13_skip_28 : decode cX13_skip 28 = .ok (.bipush 35, 2) := by decide +kernel
theorem dX13_skip_30 : decode cX13_skip 30 = .ok (.if_icmp .ne 27, 3) := by decide +kernel
theorem dX13_skip_33 : decode cX13_skip 33 = .ok (.iload_n 2, 1) := by decide +kernel
theorem dX13_skip_34 : decode cX13_skip 34 = .ok (.aload_n 0, 1) := by decide +kernel
theorem dX13_skip_35 : decode cX13_skip 35 = .ok (.getfield 253, 3) := by decide +kernel
theorem dX13_skip_38 : decode cX13_skip 38 = .ok (.if_icmp .ge (-36), 3) := by decide +kernel
theorem dX13_skip_41 : decode cX13_skip 41 = .ok (.aload_n 0, 1) := by decide +kernel
theorem dX13_skip_42 : decode cX13_skip 42 = .ok (.iload_n 2, 1) := by decide +kernel
theorem dX13_skip_43 : decode cX13_skip 43 = .ok (.invokevirtual 256, 3) := by decide +kernel
theorem dX13_skip_46 : decode cX13_skip 46 = .ok (.bipush 10, 2) := by decide +kernel
theorem dX13_skip_48 : decode cX13_skip 48 = .ok (.if_icmp .eq (-46), 3) := by decide +kernel
theorem dX13_skip_51 : decode cX13_skip 51 = .ok (.iinc 2 1, 3) := by decide +kernel
theorem dX13_skip_54 : decode cX13_skip 54 = .ok (.goto (-21), 3) := by decide +kernel
theorem dX13_skip_57 : decode cX13_skip 57 = .ok (.iinc 2 1, 3) := by decide +kernel
theorem dX13_skip_60 : decode cX13_skip 60 = .ok (.goto (-58), 3) := by decide +kernel
theorem dX13_skip_63 : decode cX13_skip 63 = .ok (.iload_n 2, 1) := by decide +kernel
theorem dX13_skip_64 : decode cX13_skip 64 = .ok (.ireturn, 1) := by decide +kernel
set_option maxRecDepth 20000 in
theorem ggX13_cutTape_X13_skip : GoodIn wsX13_cutTape wsX13_skip := goodIn_ca (goodIn_r _ [11, 2, 12, 13, 14, 10, 15, 16, 17, 18, 19, 48, 49, 50, 51, 52, 53, 54, 55, 56, 57, 58, 59, 60, 61, 62, 63, 64, 65, 66, 67, 68, 69, 70, 71, 72, 73, 74, 75, 76, 77, 78, 79, 80, 81, 82, 83, 84, 85, 86, 87, 88, 89, 90, 91, 92, 93, 94, 95, 96, 97, 98, 99, 100, 101, 102, 103, 104, 105, 106, 107, 108, 109, 110, 111, 112, 113, 114, 115, 116, 117, 118, 119, 120, 121, 122, 123, 124, 125, 126, 127, 128, 129, 130, 131, 132, 133, 134, 135, 136, 137, 138, 139, 140, 141, 142, 143, 144, 145, 146, 147, 148, 149, 150, 151, 152, 153, 154, 155, 156, 157, 158, 159, 160, 161, 162, 163, 164, 165, 166, 167, 168, 169, 170, 171, 172, 173] (by decide +kernel) (by decide +kernel)) (goodIn_sub (fun _ h => List.mem_cons_of_mem _ (List.mem_append_right _ h)) (by decide +kernel))
set_option maxRecDepth 20000 in
theorem gX13_cutTape_X13_skip : GoodIn wsX13_cutTape (wsV RX13 294 RX13 yX13_skip wsX13_skip) := goodIn_app (goodIn_of _ (by decide +kernel)) ggX13_cutTape_X13_skip
set_option maxRecDepth 20000 in
theorem ggX13_cutTape_X13_take : GoodIn wsX13_cutTape wsX13_take := goodIn_ca (goodIn_r _ [23, 4, 1, 5, 6, 24, 25, 3, 12, 13, 14, 10, 15, 2, 16, 26, 27, 28, 29, 30, 31, 32, 33, 34, 35, 36, 37, 38, 39, 40, 41, 42, 43, 44, 45, 46, 47, 48, 49, 50, 51, 52, 53, 54, 55, 56, 57, 58, 59, 60, 61, 62, 63, 64, 65, 66, 67, 68, 69, 70, 71, 72, 73, 74, 75, 76, 77, 78, 79, 80, 81, 82, 83, 84, 85, 86, 87, 88, 89, 90, 91, 92, 93, 94, 95, 96, 97, 98, 99, 100, 101, 102, 103, 104, 105, 106, 107, 108, 109, 110, 111, 112, 113, 114, 115, 116, 117, 118, 119, 120, 121, 122, 123, 124, 125, 126, 127, 128, 129, 130, 131, 132, 133, 134, 135, 136, 137, 138, 139, 140, 141, 142, 143, 144, 145, 146, 147, 148, 149, 150, 151, 152, 153, 154, 155, 156, 157, 158, 159, 160, 161, 162, 163, 164, 165, 166, 167, 168, 169, 170, 171, 172, 173] (by decide +kernel) (by decide +kernel)) (goodIn_sub (fun _ h => List.mem_cons_of_mem _ (List.mem_append_right _ h)) (by decide +kernel))
set_option maxRecDepth 20000 in
theorem gX13_cutTape_X13_take : GoodIn wsX13_cutTape (wsV RX13 297 RX13 yX13_take wsX13_take) := goodIn_app (goodIn_of _ (by decide +kernel)) ggX13_cutTape_X13_take
theorem dX13_cutTape_0 : decode cX13_cutTape 0 = .ok (.aload_n 0, 1) := by decide +kernel
theorem dX13_cutTape_1 : decode cX13_cutTape 1 = .ok (.iconst 0, 1) := by decide +kernel
theorem dX13_cutTape_2 : decode cX13_cutTape 2 = .ok (.putfield 284, 3) := by decide +kernel
theorem dX13_cutTape_5 : decode cX13_cutTape 5 = .ok (.aload_n 0, 1) := by decide +kernel
theorem dX13_cutTape_6 : decode cX13_cutTape 6 = .ok (.iconst 0, 1) := by decide +kernel
theorem dX13_cutTape_7 : decode cX13_cutTape 7 = .ok (.invokevirtual 294, 3) := by decide +kernel
theorem dX13_cutTape_10 : decode cX13_cutTape 10 = .ok (.istore_n 1, 1) := by decide +kernel
theorem dX13_cutTape_11 : decode cX13_cutTape 11 = .ok (.iconst 0, 1) := by decide +kernel
theorem dX13_cutTape_12 : decode cX13_cutTape 12 = .ok (.istore_n 2, 1) := by decide +kernel
theorem dX13_cutTape_13 : decode cX13_cutTape 13 = .ok (.iload_n 1, 1) := by decide +kernel
theorem dX13_cutTape_14 : decode cX13_cutTape 14 = .ok (.aload_n 0, 1) := by decide +kernel
theorem dX13_cutTape_15 : decode cX13_cutTape 15 = .ok (.getfield 253, 3) := by decide +kernel
theorem dX13_cutTape_18 : decode cX13_cutTape 18 = .ok (.if_icmp .ge 54, 3) := by decide +kernel
theorem dX13_cutTape_21 : decode cX13_cutTape 21 = .ok (.iload_n 2, 1) := by decide +kernel
theorem dX13_cutTape_22 : decode cX13_cutTape 22 = .ok (.ifCond .ne 50, 3) := by decide +kernel
theorem dX13_cutTape_25 : decode cX13_cutTape 25 = .ok (.aload_n 0, 1) := by decide +kernel
theorem dX13_cutTape_26 : decode cX13_cutTape 26 = .ok (.aload_n 0, 1) := by decide +kernel
theorem dX13_cutTape_27 : decode cX13_cutTape 27 = .ok (.iload_n 1, 1) := by decide +kernel
theorem dX13_cutTape_28 : decode cX13_cutTape 28 = .ok (.invokevirtual 297, 3) := by decide +kernel
theorem dX13_cutTape_31 : decode cX13_cutTape 31 = .ok (.invokevirtual 294, 3) := by decide +kernel
theorem dX13_cutTape_34 : decode cX13_cutTape 34 = .ok (.istore_n 1, 1) := by decide +kernel
theorem dX13_cutTape_35 : decode cX13_cutTape 35 = .ok (.aload_n 0, 1) := by decide +kernel
theorem dX13_cutTape_36 : decode cX13_cutTape 36 = .ok (.getfield 19, 3) := by decide +kernel
theorem dX13_cutTape_39 : decode cX13_cutTape 39 = .ok (.aload_n 0, 1) := by decide +kernel
theorem dX13_cutTape_40 : decode cX13_cutTape 40 = .ok (.getfield 281, 3) := by decide +kernel
theorem dX13_cutTape_43 : decode cX13_cutTape 43 = .ok (.aload_n 0, 1) := by decide +kernel
theorem dX13_cutTape_44 : decode cX13_cutTape 44 = .ok (.getfield 284, 3) := by decide +kernel
theorem dX13_cutTape_47 : decode cX13_cutTape 47 = .ok (.iadd, 1) := by decide +kernel
theorem dX13_cutTape_48 : decode cX13_cutTape 48 = .ok (.baload, 1) := by decide +kernel
theorem dX13_cutTape_49 : decode cX13_cutTape 49 = .ok (.iconst 4, 1) := by decide +kernel
theorem dX13_cutTape_50 : decode cX13_cutTape 50 = .ok (.if_icmp .ne 7, 3) := by decide +kernel
theorem dX13_cutTape_53 : decode cX13_cutTape 53 = .ok (.iconst 1, 1) := by decide +kernel
theorem dX13_cutTape_54 : decode cX13_cutTape 54 = .ok (.goto 4, 3) := by decide +kernel
theorem dX13_cutTape_57 : decode cX13_cutTape 57 = .ok (.iconst 0, 1) := by decide +kernel
theorem dX13_cutTape_58 : decode cX13_cutTape 58 = .ok (.istore_n 2, 1) := by decide +kernel
theorem dX13_cutTape_59 : decode cX13_cutTape 59 = .ok (.aload_n 0, 1) := by decide +kernel
theorem dX13_cutTape_60 : decode cX13_cutTape 60 = .ok (.dup, 1) := by decide +kernel
theorem dX13_cutTape_61 : decode cX13_cutTape 61 = .ok (.getfield 284, 3) := by decide +kernel
theorem dX13_cutTape_64 : decode cX13_cutTape 64 = .ok (.iconst 1, 1) := by decide +kernel
theorem dX13_cutTape_65 : decode cX13_cutTape 65 = .ok (.iadd, 1) := by decide +kernel
theorem dX13_cutTape_66 : decode cX13_cutTape 66 = .ok (.putfield 284, 3) := by decide +kernel
theorem dX13_cutTape_69 : decode cX13_cutTape 69 = .ok (.goto (-56), 3) := by decide +kernel
theorem dX13_cutTape_72 : decode cX13_cutTape 72 = .ok (.aload_n 0, 1) := by decide +kernel
theorem dX13_cutTape_73 : decode cX13_cutTape 73 = .ok (.getfield 19, 3) := by decide +kernel
theorem dX13_cutTape_76 : decode cX13_cutTape 76 = .ok (.aload_n 0, 1) := by decide +kernel
theorem dX13_cutTape_77 : decode cX13_cutTape 77 = .ok (.getfield 281, 3) := by decide +kernel
theorem dX13_cutTape_80 : decode cX13_cutTape 80 = .ok (.aload_n 0, 1) := by decide +kernel
theorem dX13_cutTape_81 : decode cX13_cutTape 81 = .ok (.getfield 284, 3) := by decide +kernel
theorem dX13_cutTape_84 : decode cX13_cutTape 84 = .ok (.iadd, 1) := by decide +kernel
theorem dX13_cutTape_85 : decode cX13_cutTape 85 = .ok (.iconst 5, 1) := by decide +kernel
theorem dX13_cutTape_86 : decode cX13_cutTape 86 = .ok (.bastore, 1) := by decide +kernel
theorem dX13_cutTape_87 : decode cX13_cutTape 87 = .ok (.aload_n 0, 1) := by decide +kernel
theorem dX13_cutTape_88 : decode cX13_cutTape 88 = .ok (.getfield 22, 3) := by decide +kernel
theorem dX13_cutTape_91 : decode cX13_cutTape 91 = .ok (.aload_n 0, 1) := by decide +kernel
theorem dX13_cutTape_92 : decode cX13_cutTape 92 = .ok (.getfield 281, 3) := by decide +kernel
theorem dX13_cutTape_95 : decode cX13_cutTape 95 = .ok (.aload_n 0, 1) := by decide +kernel
theorem dX13_cutTape_96 : decode cX13_cutTape 96 = .ok (.getfield 284, 3) := by decide +kernel
theorem dX13_cutTape_99 : decode cX13_cutTape 99 = .ok (.iadd, 1) := by decide +kernel
theorem dX13_cutTape_100 : decode cX13_cutTape 100 = .ok (.aload_n 0, 1) := by decide +kernel
theorem dX13_cutTape_101 : decode cX13_cutTape 101 = .ok (.getfield 253, 3) := by decide +kernel
theorem dX13_cutTape_104 : decode cX13_cutTape 104 = .ok (.iastore, 1) := by decide +kernel
theorem dX13_cutTape_105 : decode cX13_cutTape 105 = .ok (.aload_n 0, 1) := by decide +kernel
theorem dX13_cutTape_106 : decode cX13_cutTape 106 = .ok (.getfield 26, 3) := by decide +kernel
theorem dX13_cutTape_109 : decode cX13_cutTape 109 = .ok (.aload_n 0, 1) := by decide +kernel
theorem dX13_cutTape_110 : decode cX13_cutTape 110 = .ok (.getfield 281, 3) := by decide +kernel
theorem dX13_cutTape_113 : decode cX13_cutTape 113 = .ok (.aload_n 0, 1) := by decide +kernel
theorem dX13_cutTape_114 : decode cX13_cutTape 114 = .ok (.getfield 284, 3) := by decide +kernel
theorem dX13_cutTape_117 : decode cX13_cutTape 117 = .ok (.iadd, 1) := by decide +kernel
theorem dX13_cutTape_118 : decode cX13_cutTape 118 = .ok (.iconst 0, 1) := by decide +kernel
theorem dX13_cutTape_119 : decode cX13_cutTape 119 = .ok (.iastore, 1) := by decide +kernel
theorem dX13_cutTape_120 : decode cX13_cutTape 120 = .ok (.return_, 1) := by decide +kernel
theorem dX13_isRight_0 : decode cX13_isRight 0 = .ok (.aload_n 0, 1) := by decide +kernel
theorem dX13_isRight_1 : decode cX13_isRight 1 = .ok (.getfield 300, 3) := by decide +kernel
theorem dX13_isRight_4 : decode cX13_isRight 4 = .ok (.ifCond .ne 7, 3) := by decide +kernel
theorem dX13_isRight_7 : decode cX13_isRight 7 = .ok (.iconst 1, 1) := by decide +kernel
theorem dX13_isRight_8 : decode cX13_isRight 8 = .ok (.goto 4, 3) := by decide +kernel
theorem dX13_isRight_11 : decode cX13_isRight 11 = .ok (.iconst 0, 1) := by decide +kernel
theorem dX13_isRight_12 : decode cX13_isRight 12 = .ok (.ireturn, 1) := by decide +kernel
set_option maxRecDepth 20000 in
theorem ggX13_readNext_X13_flaw : GoodIn wsX13_readNext wsX13_flaw := goodIn_ca (goodIn_r _ [7, 8, 1, 9, 10, 11, 12, 13, 14, 15, 16, 17, 18, 19, 20, 21, 22, 23, 24, 25, 26, 27, 28, 29, 30, 31, 32, 33, 34, 35, 36, 37, 38, 39, 40, 41, 42, 43, 44, 45, 46, 47, 48, 49, 50, 51, 52, 53, 54, 55, 56, 57, 58, 59, 60, 61, 62, 63, 64, 65, 66, 67, 68, 69, 70, 71, 72, 73, 74, 75, 76, 77, 78, 79, 80, 81, 82, 83, 84, 85, 86, 87, 88, 89, 90, 91, 92, 93, 94, 95, 96, 97, 98, 99, 100, 101, 102, 103, 104, 105, 106, 107, 108, 109, 110, 111, 112, 113, 114, 115, 116, 117, 118, 119, 120, 121, 122, 123, 124, 125, 126, 127, 128, 129, 130, 131, 132, 133, 134, 135, 136] (by decide +kernel) (by decide +kernel)) (goodIn_sub (fun _ h => List.mem_cons_of_mem _ (List.mem_append_right _ h)) (by decide +kernel))
set_option maxRecDepth 20000 in
theorem gX13_readNext_X13_flaw : GoodIn wsX13_readNext (wsV RX13 312 RX13 yX13_flaw wsX13_flaw) := goodIn_app (goodIn_of _ (by decide +kernel)) ggX13_readNext_X13_flaw
theorem dX13_readNext_0 : decode cX13_readNext 0 = .ok (.aload_n 0, 1) := by decide +kernel
theorem dX13_readNext_1 : decode cX13_readNext 1 = .ok (.getfield 19, 3) := by decide +kernel
theorem dX13_readNext_4 : decode cX13_readNext 4 = .ok (.aload_n 0, 1) := by decide +kernel
theorem dX13_readNext_5 : decode cX13_readNext 5 = .ok (.getfield 306, 3) := by decide +kernel
theorem dX13_readNext_8 : decode cX13_readNext 8 = .ok (.baload, 1) := by decide +kernel
theorem dX13_readNext_9 : decode cX13_readNext 9 = .ok (.iconst 4, 1) := by decide +kernel
theorem dX13_readNext_10 : decode cX13_readNext 10 = .ok (.if_icmp .ne 12, 3) := by decide +kernel
theorem dX13_readNext_13 : decode cX13_readNext 13 = .ok (.aload_n 0, 1) := by decide +kernel
theorem dX13_readNext_14 : decode cX13_readNext 14 = .ok (.iconst 1, 1) := by decide +kernel
theorem dX13_readNext_15 : decode cX13_readNext 15 = .ok (.aload_n 0, 1) := by decide +kernel
theorem dX13_readNext_16 : decode cX13_readNext 16 = .ok (.getfield 306, 3) := by decide +kernel
theorem dX13_readNext_19 : decode cX13_readNext 19 = .ok (.invokevirtual 312, 3) := by decide +kernel
theorem dX13_readNext_22 : decode cX13_readNext 22 = .ok (.return_, 1) := by decide +kernel
theorem dX13_swing_0 : decode cX13_swing 0 = .ok (.iconst 0, 1) := by decide +kernel
theorem dX13_swing_1 : decode cX13_swing 1 = .ok (.istore 4, 2) := by decide +kernel
theorem dX13_swing_3 : decode cX13_swing 3 = .ok (.iload 4, 2) := by decide +kernel
theorem dX13_swing_5 : decode cX13_swing 5 = .ok (.iload_n 2, 1) := by decide +kernel
theorem dX13_swing_6 : decode cX13_swing 6 = .ok (.if_icmp .ge 52, 3) := by decide +kernel
theorem dX13_swing_9 : decode cX13_swing 9 = .ok (.iload_n 3, 1) := by decide +kernel
theorem dX13_swing_10 : decode cX13_swing 10 = .ok (.ifCond .eq 19, 3) := by decide +kernel
theorem dX13_swing_13 : decode cX13_swing 13 = .ok (.aload_n 1, 1) := by decide +kernel
theorem dX13_swing_14 : decode cX13_swing 14 = .ok (.iload 4, 2) := by decide +kernel
theorem dX13_swing_16 : decode cX13_swing 16 = .ok (.aload_n 0, 1) := by decide +kernel
theorem dX13_swing_17 : decode cX13_swing 17 = .ok (.getfield 116, 3) := by decide +kernel
theorem dX13_swing_20 : decode cX13_swing 20 = .ok (.aload_n 0, 1) := by decide +kernel
theorem dX13_swing_21 : decode cX13_swing 21 = .ok (.getfield 484, 3) := by decide +kernel
theorem dX13_swing_24 : decode cX13_swing 24 = .ok (.iaload, 1) := by decide +kernel
theorem dX13_swing_25 : decode cX13_swing 25 = .ok (.iastore, 1) := by decide +kernel
theorem dX13_swing_26 : decode cX13_swing 26 = .ok (.goto 16, 3) := by decide +kernel
theorem dX13_swing_29 : decode cX13_swing 29 = .ok (.aload_n 0, 1) := by decide +kernel
theorem dX13_swing_30 : decode cX13_swing 30 = .ok (.getfield 116, 3) := by decide +kernel
theorem dX13_swing_33 : decode cX13_swing 33 = .ok (.aload_n 0, 1) := by decide +kernel
theorem dX13_swing_34 : decode cX13_swing 34 = .ok (.getfield 484, 3) := by decide +kernel
theorem dX13_swing_37 : decode cX13_swing 37 = .ok (.aload_n 1, 1) := by decide +kernel
theorem dX13_swing_38 : decode cX13_swing 38 = .ok (.iload 4, 2) := by decide +kernel
theorem dX13_swing_40 : decode cX13_swing 40 = .ok (.iaload, 1) := by decide +kernel
theorem dX13_swing_41 : decode cX13_swing 41 = .ok (.iastore, 1) := by decide +kernel
theorem dX13_swing_42 : decode cX13_swing 42 = .ok (.aload_n 0, 1) := by decide +kernel
theorem dX13_swing_43 : decode cX13_swing 43 = .ok (.dup, 1) := by decide +kernel
theorem dX13_swing_44 : decode cX13_swing 44 = .ok (.getfield 484, 3) := by decide +kernel
theorem dX13_swing_47 : decode cX13_swing 47 = .ok (.iconst 1, 1) := by decide +kernel
theorem dX13_swing_48 : decode cX13_swing 48 = .ok (.iadd, 1) := by decide +kernel
theorem dX13_swing_49 : decode cX13_swing 49 = .ok (.putfield 484, 3) := by decide +kernel
theorem dX13_swing_52 : decode cX13_swing 52 = .ok (.iinc 4 1, 3) := by decide +kernel
theorem dX13_swing_55 : decode cX13_swing 55 = .ok (.goto (-52), 3) := by decide +kernel
theorem dX13_swing_58 : decode cX13_swing 58 = .ok (.return_, 1) := by decide +kernel
set_option maxRecDepth 20000 in
theorem ggX13_swingAll_X13_swing : GoodIn wsX13_swingAll wsX13_swing := goodIn_ca (goodIn_r _ [33, 34, 1, 35, 36, 37, 38, 39, 40, 41, 42, 43, 44, 45, 46, 47, 48, 49, 50, 51, 52, 53, 54, 55, 56, 57, 58, 59, 60, 61, 62, 63, 64, 65, 66, 67, 68, 69, 70, 71, 72, 73, 74, 75, 76, 77, 78, 79, 80, 81, 82, 83, 84, 85, 86, 87, 88, 89, 90, 91, 92, 93, 94, 95, 96, 97, 98, 99, 100, 101, 102, 103, 104, 105, 106, 107, 108, 109, 110, 111, 112, 113, 114, 115, 116, 117, 118, 119, 120, 121, 122, 123, 124, 125, 126, 127, 128, 129, 130, 131, 132, 133, 134, 135, 136, 137, 138, 139, 140, 141, 142, 143, 144, 145, 146, 147, 148, 149, 150, 151, 152, 153, 154, 155, 156, 157, 158, 159, 160] (by decide +kernel) (by decide +kernel)) (goodIn_sub (fun _ h => List.mem_cons_of_mem _ (List.mem_append_right _ h)) (by decide +kernel))
set_option maxRecDepth 20000 in
theorem gX13_swingAll_X13_swing : GoodIn wsX13_swingAll (wsV RX13 490 RX13 yX13_swing wsX13_swing) := goodIn_app (goodIn_of _ (by decide +kernel)) ggX13_swingAll_X13_swing
theorem dX13_swingAll_0 : decode cX13_swingAll 0 = .ok (.aload_n 0, 1) := by decide +kernel
theorem dX13_swingAll_1 : decode cX13_swingAll 1 = .ok (.iconst 0, 1) := by decide +kernel
theorem dX13_swingAll_2 : decode cX13_swingAll 2 = .ok (.putfield 484, 3) := by decide +kernel
theorem dX13_swingAll_5 : decode cX13_swingAll 5 = .ok (.iload_n 1, 1) := by decide +kernel
theorem dX13_swingAll_6 : decode cX13_swingAll 6 = .ok (.ifCond .ne 74, 3) := by decide +kernel
theorem dX13_swingAll_9 : decode cX13_swingAll 9 = .ok (.aload_n 0, 1) := by decide +kernel
theorem dX13_swingAll_10 : decode cX13_swingAll 10 = .ok (.getfield 119, 3) := by decide +kernel
theorem dX13_swingAll_13 : decode cX13_swingAll 13 = .ok (.iconst 0, 1) := by decide +kernel
theorem dX13_swingAll_14 : decode cX13_swingAll 14 = .ok (.aload_n 0, 1) := by decide +kernel
theorem dX13_swingAll_15 : decode cX13_swingAll 15 = .ok (.getfield 333, 3) := by decide +kernel
theorem dX13_swingAll_18 : decode cX13_swingAll 18 = .ok (.iastore, 1) := by decide +kernel
theorem dX13_swingAll_19 : decode cX13_swingAll 19 = .ok (.aload_n 0, 1) := by decide +kernel
theorem dX13_swingAll_20 : decode cX13_swingAll 20 = .ok (.getfield 119, 3) := by decide +kernel
theorem dX13_swingAll_23 : decode cX13_swingAll 23 = .ok (.iconst 1, 1) := by decide +kernel
theorem dX13_swingAll_24 : decode cX13_swingAll 24 = .ok (.aload_n 0, 1) := by decide +kernel
theorem dX13_swingAll_25 : decode cX13_swingAll 25 = .ok (.getfield 340, 3) := by decide +kernel
theorem dX13_swingAll_28 : decode cX13_swingAll 28 = .ok (.iastore, 1) := by decide +kernel
theorem dX13_swingAll_29 : decode cX13_swingAll 29 = .ok (.aload_n 0, 1) := by decide +kernel
theorem dX13_swingAll_30 : decode cX13_swingAll 30 = .ok (.getfield 119, 3) := by decide +kernel
theorem dX13_swingAll_33 : decode cX13_swingAll 33 = .ok (.iconst 2, 1) := by decide +kernel
theorem dX13_swingAll_34 : decode cX13_swingAll 34 = .ok (.aload_n 0, 1) := by decide +kernel
theorem dX13_swingAll_35 : decode cX13_swingAll 35 = .ok (.getfield 369, 3) := by decide +kernel
theorem dX13_swingAll_38 : decode cX13_swingAll 38 = .ok (.iastore, 1) := by decide +kernel
theorem dX13_swingAll_39 : decode cX13_swingAll 39 = .ok (.aload_n 0, 1) := by decide +kernel
theorem dX13_swingAll_40 : decode cX13_swingAll 40 = .ok (.getfield 119, 3) := by decide +kernel
theorem dX13_swingAll_43 : decode cX13_swingAll 43 = .ok (.iconst 3, 1) := by decide +kernel
theorem dX13_swingAll_44 : decode cX13_swingAll 44 = .ok (.aload_n 0, 1) := by decide +kernel
theorem dX13_swingAll_45 : decode cX13_swingAll 45 = .ok (.getfield 343, 3) := by decide +kernel
theorem dX13_swingAll_48 : decode cX13_swingAll 48 = .ok (.iastore, 1) := by decide +kernel
theorem dX13_swingAll_49 : decode cX13_swingAll 49 = .ok (.aload_n 0, 1) := by decide +kernel
theorem dX13_swingAll_50 : decode cX13_swingAll 50 = .ok (.getfield 119, 3) := by decide +kernel
theorem dX13_swingAll_53 : decode cX13_swingAll 53 = .ok (.iconst 4, 1) := by decide +kernel
theorem dX13_swingAll_54 : decode cX13_swingAll 54 = .ok (.aload_n 0, 1) := by decide +kernel
theorem dX13_swingAll_55 : decode cX13_swingAll 55 = .ok (.getfield 378, 3) := by decide +kernel
theorem dX13_swingAll_58 : decode cX13_swingAll 58 = .ok (.iastore, 1) := by decide +kernel
theorem dX13_swingAll_59 : decode cX13_swingAll 59 = .ok (.aload_n 0, 1) := by decide +kernel
theorem dX13_swingAll_60 : decode cX13_swingAll 60 = .ok (.getfield 119, 3) := by decide +kernel
theorem dX13_swingAll_63 : decode cX13_swingAll 63 = .ok (.iconst 5, 1) := by decide +kernel
theorem dX13_swingAll_64 : decode cX13_swingAll 64 = .ok (.aload_n 0, 1) := by decide +kernel
theorem dX13_swingAll_65 : decode cX13_swingAll 65 = .ok (.getfield 487, 3) := by decide +kernel
theorem dX13_swingAll_68 : decode cX13_swingAll 68 = .ok (.iastore, 1) := by decide +kernel
theorem dX13_swingAll_69 : decode cX13_swingAll 69 = .ok (.aload_n 0, 1) := by decide +kernel
theorem dX13_swingAll_70 : decode cX13_swingAll 70 = .ok (.getfield 119, 3) := by decide +kernel
theorem dX13_swingAll_73 : decode cX13_swingAll 73 = .ok (.bipush 6, 2) := by decide +kernel
theorem dX13_swingAll_75 : decode cX13_swingAll 75 = .ok (.aload_n 0, 1) := by decide +kernel
theorem dX13_swingAll_76 : decode cX13_swingAll 76 = .ok (.getfield 281, 3) := by decide +kernel
theorem dX13_swingAll_79 : decode cX13_swingAll 79 = .ok (.iastore, 1) := by decide +kernel
theorem dX13_swingAll_80 : decode cX13_swingAll 80 = .ok (.aload_n 0, 1) := by decide +kernel
theorem dX13_swingAll_81 : decode cX13_swingAll 81 = .ok (.aload_n 0, 1) := by decide +kernel
theorem dX13_swingAll_82 : decode cX13_swingAll 82 = .ok (.getfield 119, 3) := by decide +kernel
theorem dX13_swingAll_85 : decode cX13_swingAll 85 = .ok (.bipush 8, 2) := by decide +kernel
theorem dX13_swingAll_87 : decode cX13_swingAll 87 = .ok (.iload_n 1, 1) := by decide +kernel
theorem dX13_swingAll_88 : decode cX13_swingAll 88 = .ok (.invokevirtual 490, 3) := by decide +kernel
theorem dX13_swingAll_91 : decode cX13_swingAll 91 = .ok (.aload_n 0, 1) := by decide +kernel
theorem dX13_swingAll_92 : decode cX13_swingAll 92 = .ok (.aload_n 0, 1) := by decide +kernel
theorem dX13_swingAll_93 : decode cX13_swingAll 93 = .ok (.getfield 36, 3) := by decide +kernel
theorem dX13_swingAll_96 : decode cX13_swingAll 96 = .ok (.bipush 10, 2) := by decide +kernel
theorem dX13_swingAll_98 : decode cX13_swingAll 98 = .ok (.iload_n 1, 1) := by decide +kernel
theorem dX13_swingAll_99 : decode cX13_swingAll 99 = .ok (.invokevirtual 490, 3) := by decide +kernel
theorem dX13_swingAll_102 : decode cX13_swingAll 102 = .ok (.aload_n 0, 1) := by decide +kernel
theorem dX13_swingAll_103 : decode cX13_swingAll 103 = .ok (.aload_n 0, 1) := by decide +kernel
theorem dX13_swingAll_104 : decode cX13_swingAll 104 = .ok (.getfield 39, 3) := by decide +kernel
theorem dX13_swingAll_107 : decode cX13_swingAll 107 = .ok (.bipush 10, 2) := by decide +kernel
theorem dX13_swingAll_109 : decode cX13_swingAll 109 = .ok (.iload_n 1, 1) := by decide +kernel
theorem dX13_swingAll_110 : decode cX13_swingAll 110 = .ok (.invokevirtual 490, 3) := by decide +kernel
theorem dX13_swingAll_113 : decode cX13_swingAll 113 = .ok (.aload_n 0, 1) := by decide +kernel
theorem dX13_swingAll_114 : decode cX13_swingAll 114 = .ok (.aload_n 0, 1) := by decide +kernel
theorem dX13_swingAll_115 : decode cX13_swingAll 115 = .ok (.getfield 42, 3) := by decide +kernel
theorem dX13_swingAll_118 : decode cX13_swingAll 118 = .ok (.iconst 3, 1) := by decide +kernel
theorem dX13_swingAll_119 : decode cX13_swingAll 119 = .ok (.iload_n 1, 1) := by decide +kernel
theorem dX13_swingAll_120 : decode cX13_swingAll 120 = .ok (.invokevirtual 490, 3) := by decide +kernel
theorem dX13_swingAll_123 : decode cX13_swingAll 123 = .ok (.aload_n 0, 1) := by decide +kernel
theorem dX13_swingAll_124 : decode cX13_swingAll 124 = .ok (.aload_n 0, 1) := by decide +kernel
theorem dX13_swingAll_125 : decode cX13_swingAll 125 = .ok (.getfield 45, 3) := by decide +kernel
theorem dX13_swingAll_128 : decode cX13_swingAll 128 = .ok (.iconst 3, 1) := by decide +kernel
theorem dX13_swingAll_129 : decode cX13_swingAll 129 = .ok (.iload_n 1, 1) := by decide +kernel
theorem dX13_swingAll_130 : decode cX13_swingAll 130 = .ok (.invokevirtual 490, 3) := by decide +kernel
theorem dX13_swingAll_133 : decode cX13_swingAll 133 = .ok (.aload_n 0, 1) := by decide +kernel
theorem dX13_swingAll_134 : decode cX13_swingAll 134 = .ok (.aload_n 0, 1) := by decide +kernel
theorem dX13_swingAll_135 : decode cX13_swingAll 135 = .ok (.getfield 48, 3) := by decide +kernel
theorem dX13_swingAll_138 : decode cX13_swingAll 138 = .ok (.iconst 3, 1) := by decide +kernel
theorem dX13_swingAll_139 : decode cX13_swingAll 139 = .ok (.iload_n 1, 1) := by decide +kernel
theorem dX13_swingAll_140 : decode cX13_swingAll 140 = .ok (.invokevirtual 490, 3) := by decide +kernel
theorem dX13_swingAll_143 : decode cX13_swingAll 143 = .ok (.aload_n 0, 1) := by decide +kernel
theorem dX13_swingAll_144 : decode cX13_swingAll 144 = .ok (.aload_n 0, 1) := by decide +kernel
theorem dX13_swingAll_145 : decode cX13_swingAll 145 = .ok (.getfield 51, 3) := by decide +kernel
theorem dX13_swingAll_148 : decode cX13_swingAll 148 = .ok (.bipush 10, 2) := by decide +kernel
theorem dX13_swingAll_150 : decode cX13_swingAll 150 = .ok (.iload_n 1, 1) := by decide +kernel
theorem dX13_swingAll_151 : decode cX13_swingAll 151 = .ok (.invokevirtual 490, 3) := by decide +kernel
theorem dX13_swingAll_154 : decode cX13_swingAll 154 = .ok (.aload_n 0, 1) := by decide +kernel
theorem dX13_swingAll_155 : decode cX13_swingAll 155 = .ok (.aload_n 0, 1) := by decide +kernel
theorem dX13_swingAll_156 : decode cX13_swingAll 156 = .ok (.getfield 54, 3) := by decide +kernel
theorem dX13_swingAll_159 : decode cX13_swingAll 159 = .ok (.bipush 10, 2) := by decide +kernel
theorem dX13_swingAll_161 : decode cX13_swingAll 161 = .ok (.iload_n 1, 1) := by decide +kernel
theorem dX13_swingAll_162 : decode cX13_swingAll 162 = .ok (.invokevirtual 490, 3) := by decide +kernel
theorem dX13_swingAll_165 : decode cX13_swingAll 165 = .ok (.aload_n 0, 1) := by decide +kernel
theorem dX13_swingAll_166 : decode cX13_swingAll 166 = .ok (.aload_n 0, 1) := by decide +kernel
theorem dX13_swingAll_167 : decode cX13_swingAll 167 = .ok (.getfield 57, 3) := by decide +kernel
theorem dX13_swingAll_170 : decode cX13_swingAll 170 = .ok (.bipush 10, 2) := by decide +kernel
theorem dX13_swingAll_172 : decode cX13_swingAll 172 = .ok (.iload_n 1, 1) := by decide +kernel
theorem dX13_swingAll_173 : decode cX13_swingAll 173 = .ok (.invokevirtual 490, 3) := by decide +kernel
theorem dX13_swingAll_176 : decode cX13_swingAll 176 = .ok (.aload_n 0, 1) := by decide +kernel
theorem dX13_swingAll_177 : decode cX13_swingAll 177 = .ok (.aload_n 0, 1) := by decide +kernel
theorem dX13_swingAll_178 : decode cX13_swingAll 178 = .ok (.getfield 60, 3) := by decide +kernel
theorem dX13_swingAll_181 : decode cX13_swingAll 181 = .ok (.bipush 80, 2) := by decide +kernel
theorem dX13_swingAll_183 : decode cX13_swingAll 183 = .ok (.iload_n 1, 1) := by decide +kernel
theorem dX13_swingAll_184 : decode cX13_swingAll 184 = .ok (.invokevirtual 490, 3) := by decide +kernel
theorem dX13_swingAll_187 : decode cX13_swingAll 187 = .ok (.aload_n 0, 1) := by decide +kernel
theorem dX13_swingAll_188 : decode cX13_swingAll 188 = .ok (.aload_n 0, 1) := by decide +kernel
theorem dX13_swingAll_189 : decode cX13_swingAll 189 = .ok (.getfield 63, 3) := by decide +kernel
theorem dX13_swingAll_192 : decode cX13_swingAll 192 = .ok (.bipush 10, 2) := by decide +kernel
theorem dX13_swingAll_194 : decode cX13_swingAll 194 = .ok (.iload_n 1, 1) := by decide +kernel
theorem dX13_swingAll_195 : decode cX13_swingAll 195 = .ok (.invokevirtual 490, 3) := by decide +kernel
theorem dX13_swingAll_198 : decode cX13_swingAll 198 = .ok (.aload_n 0, 1) := by decide +kernel
theorem dX13_swingAll_199 : decode cX13_swingAll 199 = .ok (.aload_n 0, 1) := by decide +kernel
theorem dX13_swingAll_200 : decode cX13_swingAll 200 = .ok (.getfield 66, 3) := by decide +kernel
theorem dX13_swingAll_203 : decode cX13_swingAll 203 = .ok (.sipush 150, 3) := by decide +kernel
theorem dX13_swingAll_206 : decode cX13_swingAll 206 = .ok (.iload_n 1, 1) := by decide +kernel
theorem dX13_swingAll_207 : decode cX13_swingAll 207 = .ok (.invokevirtual 490, 3) := by decide +kernel
theorem dX13_swingAll_210 : decode cX13_swingAll 210 = .ok (.aload_n 0, 1) := by decide +kernel
theorem dX13_swingAll_211 : decode cX13_swingAll 211 = .ok (.aload_n 0, 1) := by decide +kernel
theorem dX13_swingAll_212 : decode cX13_swingAll 212 = .ok (.getfield 69, 3) := by decide +kernel
theorem dX13_swingAll_215 : decode cX13_swingAll 215 = .ok (.sipush 150, 3) := by decide +kernel
theorem dX13_swingAll_218 : decode cX13_swingAll 218 = .ok (.iload_n 1, 1) := by decide +kernel
theorem dX13_swingAll_219 : decode cX13_swingAll 219 = .ok (.invokevirtual 490, 3) := by decide +kernel
theorem dX13_swingAll_222 : decode cX13_swingAll 222 = .ok (.aload_n 0, 1) := by decide +kernel
theorem dX13_swingAll_223 : decode cX13_swingAll 223 = .ok (.aload_n 0, 1) := by decide +kernel
theorem dX13_swingAll_224 : decode cX13_swingAll 224 = .ok (.getfield 72, 3) := by decide +kernel
theorem dX13_swingAll_227 : decode cX13_swingAll 227 = .ok (.sipush 150, 3) := by decide +kernel
theorem dX13_swingAll_230 : decode cX13_swingAll 230 = .ok (.iload_n 1, 1) := by decide +kernel
theorem dX13_swingAll_231 : decode cX13_swingAll 231 = .ok (.invokevirtual 490, 3) := by decide +kernel
theorem dX13_swingAll_234 : decode cX13_swingAll 234 = .ok (.aload_n 0, 1) := by decide +kernel
theorem dX13_swingAll_235 : decode cX13_swingAll 235 = .ok (.aload_n 0, 1) := by decide +kernel
theorem dX13_swingAll_236 : decode cX13_swingAll 236 = .ok (.getfield 75, 3) := by decide +kernel
theorem dX13_swingAll_239 : decode cX13_swingAll 239 = .ok (.sipush 150, 3) := by decide +kernel
theorem dX13_swingAll_242 : decode cX13_swingAll 242 = .ok (.iload_n 1, 1) := by decide +kernel
theorem dX13_swingAll_243 : decode cX13_swingAll 243 = .ok (.invokevirtual 490, 3) := by decide +kernel
theorem dX13_swingAll_246 : decode cX13_swingAll 246 = .ok (.aload_n 0, 1) := by decide +kernel
theorem dX13_swingAll_247 : decode cX13_swingAll 247 = .ok (.aload_n 0, 1) := by decide +kernel
theorem dX13_swingAll_248 : decode cX13_swingAll 248 = .ok (.getfield 78, 3) := by decide +kernel
theorem dX13_swingAll_251 : decode cX13_swingAll 251 = .ok (.sipush 150, 3) := by decide +kernel
theorem dX13_swingAll_254 : decode cX13_swingAll 254 = .ok (.iload_n 1, 1) := by decide +kernel
theorem dX13_swingAll_255 : decode cX13_swingAll 255 = .ok (.invokevirtual 490, 3) := by decide +kernel
theorem dX13_swingAll_258 : decode cX13_swingAll 258 = .ok (.aload_n 0, 1) := by decide +kernel
theorem dX13_swingAll_259 : decode cX13_swingAll 259 = .ok (.aload_n 0, 1) := by decide +kernel
theorem dX13_swingAll_260 : decode cX13_swingAll 260 = .ok (.getfield 81, 3) := by decide +kernel
theorem dX13_swingAll_263 : decode cX13_swingAll 263 = .ok (.sipush 150, 3) := by decide +kernel
theorem dX13_swingAll_266 : decode cX13_swingAll 266 = .ok (.iload_n 1, 1) := by decide +kernel
theorem dX13_swingAll_267 : decode cX13_swingAll 267 = .ok (.invokevirtual 490, 3) := by decide +kernel
theorem dX13_swingAll_270 : decode cX13_swingAll 270 = .ok (.aload_n 0, 1) := by decide +kernel
theorem dX13_swingAll_271 : decode cX13_swingAll 271 = .ok (.aload_n 0, 1) := by decide +kernel
theorem dX13_swingAll_272 : decode cX13_swingAll 272 = .ok (.getfield 84, 3) := by decide +kernel
theorem dX13_swingAll_275 : decode cX13_swingAll 275 = .ok (.sipush 150, 3) := by decide +kernel
theorem dX13_swingAll_278 : decode cX13_swingAll 278 = .ok (.iload_n 1, 1) := by decide +kernel
theorem dX13_swingAll_279 : decode cX13_swingAll 279 = .ok (.invokevirtual 490, 3) := by decide +kernel
theorem dX13_swingAll_282 : decode cX13_swingAll 282 = .ok (.aload_n 0, 1) := by decide +kernel
theorem dX13_swingAll_283 : decode cX13_swingAll 283 = .ok (.aload_n 0, 1) := by decide +kernel
theorem dX13_swingAll_284 : decode cX13_swingAll 284 = .ok (.getfield 87, 3) := by decide +kernel
theorem dX13_swingAll_287 : decode cX13_swingAll 287 = .ok (.sipush 150, 3) := by decide +kernel
theorem dX13_swingAll_290 : decode cX13_swingAll 290 = .ok (.iload_n 1, 1) := by decide +kernel
theorem dX13_swingAll_291 : decode cX13_swingAll 291 = .ok (.invokevirtual 490, 3) := by decide +kernel
theorem dX13_swingAll_294 : decode cX13_swingAll 294 = .ok (.aload_n 0, 1) := by decide +kernel
theorem dX13_swingAll_295 : decode cX13_swingAll 295 = .ok (.aload_n 0, 1) := by decide +kernel
theorem dX13_swingAll_296 : decode cX13_swingAll 296 = .ok (.getfield 90, 3) := by decide +kernel
theorem dX13_swingAll_299 : decode cX13_swingAll 299 = .ok (.sipush 150, 3) := by decide +kernel
theorem dX13_swingAll_302 : decode cX13_swingAll 302 = .ok (.iload_n 1, 1) := by decide +kernel
theorem dX13_swingAll_303 : decode cX13_swingAll 303 = .ok (.invokevirtual 490, 3) := by decide +kernel
theorem dX13_swingAll_306 : decode cX13_swingAll 306 = .ok (.iload_n 1, 1) := by decide +kernel
theorem dX13_swingAll_307 : decode cX13_swingAll 307 = .ok (.ifCond .eq 74, 3) := by decide +kernel
theorem dX13_swingAll_310 : decode cX13_swingAll 310 = .ok (.aload_n 0, 1) := by decide +kernel
theorem dX13_swingAll_311 : decode cX13_swingAll 311 = .ok (.aload_n 0, 1) := by decide +kernel
theorem dX13_swingAll_312 : decode cX13_swingAll 312 = .ok (.getfield 119, 3) := by decide +kernel
theorem dX13_swingAll_315 : decode cX13_swingAll 315 = .ok (.iconst 0, 1) := by decide +kernel
theorem dX13_swingAll_316 : decode cX13_swingAll 316 = .ok (.iaload, 1) := by decide +kernel
theorem dX13_swingAll_317 : decode cX13_swingAll 317 = .ok (.putfield 333, 3) := by decide +kernel
theorem dX13_swingAll_320 : decode cX13_swingAll 320 = .ok (.aload_n 0, 1) := by decide +kernel
theorem dX13_swingAll_321 : decode cX13_swingAll 321 = .ok (.aload_n 0, 1) := by decide +kernel
theorem dX13_swingAll_322 : decode cX13_swingAll 322 = .ok (.getfield 119, 3) := by decide +kernel
theorem dX13_swingAll_325 : decode cX13_swingAll 325 = .ok (.iconst 1, 1) := by decide +kernel
theorem dX13_swingAll_326 : decode cX13_swingAll 326 = .ok (.iaload, 1) := by decide +kernel
theorem dX13_swingAll_327 : decode cX13_swingAll 327 = .ok (.putfield 340, 3) := by decide +kernel
theorem dX13_swingAll_330 : decode cX13_swingAll 330 = .ok (.aload_n 0, 1) := by decide +kernel
theorem dX13_swingAll_331 : decode cX13_swingAll 331 = .ok (.aload_n 0, 1) := by decide +kernel
theorem dX13_swingAll_332 : decode cX13_swingAll 332 = .ok (.getfield 119, 3) := by decide +kernel
theorem dX13_swingAll_335 : decode cX13_swingAll 335 = .ok (.iconst 2, 1) := by decide +kernel
theorem dX13_swingAll_336 : decode cX13_swingAll 336 = .ok (.iaload, 1) := by decide +kernel
theorem dX13_swingAll_337 : decode cX13_swingAll 337 = .ok (.putfield 369, 3) := by decide +kernel
theorem dX13_swingAll_340 : decode cX13_swingAll 340 = .ok (.aload_n 0, 1) := by decide +kernel
theorem dX13_swingAll_341 : decode cX13_swingAll 341 = .ok (.aload_n 0, 1) := by decide +kernel
theorem dX13_swingAll_342 : decode cX13_swingAll 342 = .ok (.getfield 119, 3) := by decide +kernel
theorem dX13_swingAll_345 : decode cX13_swingAll 345 = .ok (.iconst 3, 1) := by decide +kernel
theorem dX13_swingAll_346 : decode cX13_swingAll 346 = .ok (.iaload, 1) := by decide +kernel
theorem dX13_swingAll_347 : decode cX13_swingAll 347 = .ok (.putfield 343, 3) := by decide +kernel
theorem dX13_swingAll_350 : decode cX13_swingAll 350 = .ok (.aload_n 0, 1) := by decide +kernel
theorem dX13_swingAll_351 : decode cX13_swingAll 351 = .ok (.aload_n 0, 1) := by decide +kernel
theorem dX13_swingAll_352 : decode cX13_swingAll 352 = .ok (.getfield 119, 3) := by decide +kernel
theorem dX13_swingAll_355 : decode cX13_swingAll 355 = .ok (.iconst 4, 1) := by decide +kernel
theorem dX13_swingAll_356 : decode cX13_swingAll 356 = .ok (.iaload, 1) := by decide +kernel
theorem dX13_swingAll_357 : decode cX13_swingAll 357 = .ok (.putfield 378, 3) := by decide +kernel
theorem dX13_swingAll_360 : decode cX13_swingAll 360 = .ok (.aload_n 0, 1) := by decide +kernel
theorem dX13_swingAll_361 : decode cX13_swingAll 361 = .ok (.aload_n 0, 1) := by decide +kernel
theorem dX13_swingAll_362 : decode cX13_swingAll 362 = .ok (.getfield 119, 3) := by decide +kernel
theorem dX13_swingAll_365 : decode cX13_swingAll 365 = .ok (.iconst 5, 1) := by decide +kernel
theorem dX13_swingAll_366 : decode cX13_swingAll 366 = .ok (.iaload, 1) := by decide +kernel
theorem dX13_swingAll_367 : decode cX13_swingAll 367 = .ok (.putfield 487, 3) := by decide +kernel
theorem dX13_swingAll_370 : decode cX13_swingAll 370 = .ok (.aload_n 0, 1) := by decide +kernel
theorem dX13_swingAll_371 : decode cX13_swingAll 371 = .ok (.aload_n 0, 1) := by decide +kernel
theorem dX13_swingAll_372 : decode cX13_swingAll 372 = .ok (.getfield 119, 3) := by decide +kernel
theorem dX13_swingAll_375 : decode cX13_swingAll 375 = .ok (.bipush 6, 2) := by decide +kernel
theorem dX13_swingAll_377 : decode cX13_swingAll 377 = .ok (.iaload, 1) := by decide +kernel
theorem dX13_swingAll_378 : decode cX13_swingAll 378 = .ok (.putfield 281, 3) := by decide +kernel
theorem dX13_swingAll_381 : decode cX13_swingAll 381 = .ok (.return_, 1) := by decide +kernel
set_option maxRecDepth 20000 in
theorem ggX13_tellProgram_X13_cutTape : GoodIn wsX13_tellProgram wsX13_cutTape := goodIn_ca (goodIn_r _ [19, 20, 21, 14, 11, 22, 23, 24, 25, 26, 18, 27, 28, 29, 30, 31, 32, 33, 34, 35, 36, 37, 38, 39, 40, 41, 42, 43, 44, 45, 46, 47, 48, 49, 50, 51, 52, 53, 54, 55, 56, 57, 58, 59, 60, 61, 62, 63, 294, 295, 296, 297, 298, 299, 300, 301, 302, 303, 304, 305, 306, 307, 308, 309, 310, 311, 312, 313, 314, 315, 316, 317, 318, 319, 320, 321, 322, 323, 324, 325, 326, 327, 328, 329, 330, 331, 332, 333, 334, 335, 336, 337, 338, 339, 340, 341, 342, 343, 344, 345, 346, 347, 348, 349, 350, 351, 352, 353, 354, 355, 356, 357, 358, 359, 360, 361, 362, 363, 364, 365, 366, 367, 368, 369, 370, 371, 372, 373, 374, 375, 376, 377, 378, 379, 380, 381, 382, 383, 384, 385, 386, 387, 388, 389, 390, 391, 392, 393, 394, 395, 396, 397, 398, 399, 400, 401, 402, 403, 404, 405, 406, 407, 408, 409, 410, 411, 412, 413, 414, 415, 416, 417, 418, 419] (by decide +kernel) (by decide +kernel)) (goodIn_sub (fun _ h => List.mem_cons_of_mem _ (List.mem_append_right _ h)) (by decide +kernel))
set_option maxRecDepth 20000 in
theorem gX13_tellProgram_X13_cutTape : GoodIn wsX13_tellProgram (wsV RX13 495 RX13 yX13_cutTape wsX13_cutTape) := goodIn_app (goodIn_of _ (by decide +kernel)) ggX13_tellProgram_X13_cutTape
set_option maxRecDepth 20000 in
theorem ggX13_tellProgram_X13_readNext : GoodIn wsX13_tellProgram wsX13_readNext := goodIn_ca (goodIn_r _ [67, 14, 13, 68, 69, 70, 18, 71, 3, 22, 4, 294, 295, 296, 297, 298, 299, 300, 301, 302, 303, 304, 305, 306, 307, 308, 309, 310, 311, 312, 313, 314, 315, 316, 317, 318, 319, 320, 321, 322, 323, 324, 325, 326, 327, 328, 329, 330, 331, 332, 333, 334, 335, 336, 337, 338, 339, 340, 341, 342, 343, 344, 345, 346, 347, 348, 349, 350, 351, 352, 353, 354, 355, 356, 357, 358, 359, 360, 361, 362, 363, 364, 365, 366, 367, 368, 369, 370, 371, 372, 373, 374, 375, 376, 377, 378, 379, 380, 381, 382, 383, 384, 385, 386, 387, 388, 389, 390, 391, 392, 393, 394, 395, 396, 397, 398, 399, 400, 401, 402, 403, 404, 405, 406, 407, 408, 409, 410, 411, 412, 413, 414, 415, 416, 417, 418, 419] (by decide +kernel) (by decide +kernel)) (goodIn_sub (fun _ h => List.mem_cons_of_mem _ (List.mem_append_right _ h)) (by decide +kernel))
set_option maxRecDepth 20000 in
theorem gX13_tellProgram_X13_readNext : GoodIn wsX13_tellProgram (wsV RX13 309 RX13 yX13_readNext wsX13_readNext) := goodIn_app (goodIn_of _ (by decide +kernel)) ggX13_tellProgram_X13_readNext
set_option maxRecDepth 20000 in
theorem ggX13_tellProgram_X13_isRight : GoodIn wsX13_tellProgram wsX13_isRight := goodIn_r _ [75, 3, 294, 295, 296, 297, 298, 299, 300, 301, 302, 303, 304, 305, 306, 307, 308, 309, 310, 311, 312, 313, 314, 315, 316, 317, 318, 319, 320, 321, 322, 323, 324, 325, 326, 327, 328, 329, 330, 331, 332, 333, 334, 335, 336, 337, 338, 339, 340, 341, 342, 343, 344, 345, 346, 347, 348, 349, 350, 351, 352, 353, 354, 355, 356, 357, 358, 359, 360, 361, 362, 363, 364, 365, 366, 367, 368, 369, 370, 371, 372, 373, 374, 375, 376, 377, 378, 379, 380, 381, 382, 383, 384, 385, 386, 387, 388, 389, 390, 391, 392, 393, 394, 395, 396, 397, 398, 399, 400, 401, 402, 403, 404, 405, 406, 407, 408, 409, 410, 411, 412, 413, 414, 415, 416, 417, 418, 419] (by decide +kernel) (by decide +kernel)
set_option maxRecDepth 20000 in
theorem gX13_tellProgram_X13_isRight : GoodIn wsX13_tellProgram (wsV RX13 325 RX13 yX13_isRight wsX13_isRight) := goodIn_app (goodIn_of _ (by decide +kernel)) ggX13_tellProgram_X13_isRight
set_option maxRecDepth 20000 in
theorem ggX13_tellProgram_X13_isWord : GoodIn wsX13_tellProgram wsX13_isWord := goodIn_ca (goodIn_r _ [79, 14, 13, 23, 294, 295, 296, 297, 298, 299, 300, 301, 302, 303, 304, 305, 306, 307, 308, 309, 310, 311, 312, 313, 314, 315, 316, 317, 318, 319, 320, 321, 322, 323, 324, 325, 326, 327, 328, 329, 330, 331, 332, 333, 334, 335, 336, 337, 338, 339, 340, 341, 342, 343, 344, 345, 346, 347, 348, 349, 350, 351, 352, 353, 354, 355, 356, 357, 358, 359, 360, 361, 362, 363, 364, 365, 366, 367, 368, 369, 370, 371, 372, 373, 374, 375, 376, 377, 378, 379, 380, 381, 382, 383, 384, 385, 386, 387, 388, 389, 390, 391, 392, 393, 394, 395, 396, 397, 398, 399, 400, 401, 402, 403, 404, 405, 406, 407, 408, 409, 410, 411, 412, 413, 414, 415, 416, 417, 418, 419] (by decide +kernel) (by decide +kernel)) (goodIn_sub (fun _ h => List.mem_cons_of_mem _ (List.mem_append_right _ h)) (by decide +kernel))
set_option maxRecDepth 20000 in
theorem gX13_tellProgram_X13_isWord : GoodIn wsX13_tellProgram (wsV RX13 391 RX13 yX13_isWord wsX13_isWord) := goodIn_app (goodIn_of _ (by decide +kernel)) ggX13_tellProgram_X13_isWord
set_option maxRecDepth 20000 in
theorem ggX13_tellProgram_X13_tellVar : GoodIn wsX13_tellProgram wsX13_tellVar := goodIn_ca (goodIn_r _ [83, 6, 23, 84, 85, 86, 87, 88, 18, 89, 3, 13, 64, 65, 66, 67, 14, 68, 69, 70, 71, 22, 4, 90, 91, 92, 93, 94, 95, 96, 97, 98, 99, 100, 101, 102, 103, 104, 7, 105, 9, 106, 107, 108, 109, 110, 40, 41, 72, 73, 74, 75, 111, 112, 113, 114, 115, 116, 117, 118, 294, 295, 296, 297, 298, 299, 300, 301, 302, 303, 304, 305, 306, 307, 308, 309, 310, 311, 312, 313, 314, 315, 316, 317, 318, 319, 320, 321, 322, 323, 324, 325, 326, 327, 328, 329, 330, 331, 332, 333, 334, 335, 336, 337, 338, 339, 340, 341, 342, 343, 344, 345, 346, 347, 348, 349, 350, 351, 352, 353, 354, 355, 356, 357, 358, 359, 360, 361, 362, 363, 364, 365, 366, 367, 368, 369, 370, 371, 372, 373, 374, 375, 376, 377, 378, 379, 380, 381, 382, 383, 384, 385, 386, 387, 388, 389, 390, 391, 392, 393, 394, 395, 396, 397, 398, 399, 400, 401, 402, 403, 404, 405, 406, 407, 408, 409, 410, 411, 412, 413, 414, 415, 416, 417, 418, 419] (by decide +kernel) (by decide +kernel)) (goodIn_sub (fun _ h => List.mem_cons_of_mem _ (List.mem_append_right _ h)) (by decide +kernel))
set_option maxRecDepth 20000 in
theorem gX13_tellProgram_X13_tellVar : GoodIn wsX13_tellProgram (wsV RX13 498 RX13 yX13_tellVar wsX13_tellVar) := goodIn_app (goodIn_of _ (by decide +kernel)) ggX13_tellProgram_X13_tellVar
set_option maxRecDepth 20000 in
theorem ggX13_tellProgram_X13_tellArr : GoodIn wsX13_tellProgram wsX13_tellArr := goodIn_ca (goodIn_r _ [122, 7, 23, 105, 123, 124, 8, 86, 87, 88, 18, 89, 3, 13, 64, 65, 66, 67, 14, 68, 69, 70, 71, 22, 4, 90, 91, 92, 93, 94, 95, 96, 97, 98, 99, 100, 101, 102, 103, 104, 6, 84, 9, 106, 107, 108, 109, 110, 40, 41, 72, 73, 74, 75, 125, 126, 127, 128, 5, 111, 112, 113, 114, 129, 130, 131, 132, 133, 134, 135, 115, 116, 117, 118, 294, 295, 296, 297, 298, 299, 300, 301, 302, 303, 304, 305, 306, 307, 308, 309, 310, 311, 312, 313, 314, 315, 316, 317, 318, 319, 320, 321, 322, 323, 324, 325, 326, 327, 328, 329, 330, 331, 332, 333, 334, 335, 336, 337, 338, 339, 340, 341, 342, 343, 344, 345, 346, 347, 348, 349, 350, 351, 352, 353, 354, 355, 356, 357, 358, 359, 360, 361, 362, 363, 364, 365, 366, 367, 368, 369, 370, 371, 372, 373, 374, 375, 376, 377, 378, 379, 380, 381, 382, 383, 384, 385, 386, 387, 388, 389, 390, 391, 392, 393, 394, 395, 396, 397, 398, 399, 400, 401, 402, 403, 404, 405, 406, 407, 408, 409, 410, 411, 412, 413, 414, 415, 416, 417, 418, 419] (by decide +kernel) (by decide +kernel)) (goodIn_sub (fun _ h => List.mem_cons_of_mem _ (List.mem_append_right _ h)) (by decide +kernel))
set_option maxRecDepth 20000 in
theorem gX13_tellProgram_X13_tellArr : GoodIn wsX13_tellProgram (wsV RX13 501 RX13 yX13_tellArr wsX13_tellArr) := goodIn_app (goodIn_of _ (by decide +kernel)) ggX13_tellProgram_X13_tellArr
set_option maxRecDepth 20000 in
theorem ggX13_tellProgram_X13_tellFunc : GoodIn wsX13_tellProgram wsX13_tellFunc := goodIn_ca (goodIn_r _ [139, 9, 95, 94, 140, 141, 96, 106, 86, 87, 88, 18, 89, 3, 13, 64, 65, 66, 67, 14, 68, 69, 70, 71, 22, 4, 90, 91, 92, 93, 97, 98, 99, 100, 101, 102, 103, 104, 6, 84, 7, 105, 107, 108, 109, 110, 40, 41, 72, 73, 74, 75, 125, 126, 127, 128, 5, 111, 112, 113, 114, 23, 132, 133, 134, 135, 115, 116, 117, 118, 142, 143, 144, 145, 146, 147, 148, 149, 150, 151, 152, 153, 154, 155, 156, 157, 158, 159, 160, 161, 162, 163, 164, 165, 166, 167, 10, 168, 169, 170, 171, 172, 173, 174, 175, 176, 177, 178, 179, 180, 181, 182, 183, 184, 185, 186, 187, 188, 2, 189, 190, 191, 192, 193, 194, 195, 196, 197, 198, 199, 200, 201, 202, 203, 204, 205, 206, 207, 208, 209, 210, 211, 212, 213, 214, 215, 216, 217, 1, 218, 219, 220, 221, 222, 223, 224, 225, 226, 227, 228, 229, 230, 231, 232, 233, 234, 235, 236, 237, 238, 239, 240, 241, 242, 243, 244, 245, 246, 247, 248, 249, 250, 251, 252, 253, 254, 255, 256, 257, 258, 259, 123, 124, 260, 261, 262, 263, 76, 77, 78, 79, 264, 265, 266, 267, 268, 269, 270, 271, 272, 273, 274, 275, 294, 295, 296, 297, 298, 299, 300, 301, 302, 303, 304, 305, 306, 307, 308, 309, 310, 311, 312, 313, 314, 315, 316, 317, 318, 319, 320, 321, 322, 323, 324, 325, 326, 327, 328, 329, 330, 331, 332, 333, 334, 335, 336, 337, 338, 339, 340, 341, 342, 343, 344, 345, 346, 347, 348, 349, 350, 351, 352, 353, 354, 355, 356, 357, 358, 359, 360, 361, 362, 363, 364, 365, 366, 367, 368, 369, 370, 371, 372, 373, 374, 375, 376, 377, 378, 379, 380, 381, 382, 383, 384, 385, 386, 387, 388, 389, 390, 391, 392, 393, 394, 395, 396, 397, 398, 399, 400, 401, 402, 403, 404, 405, 406, 407, 408, 409, 410, 411, 412, 413, 414, 415, 416, 417, 418, 419] (by decide +kernel) (by decide +kernel)) (goodIn_sub (fun _ h => List.mem_cons_of_mem _ (List.mem_append_right _ h)) (by decide +kernel))
set_option maxRecDepth 20000 in
theorem gX13_tellProgram_X13_tellFunc : GoodIn wsX13_tellProgram (wsV RX13 504 RX13 yX13_tellFunc wsX13_tellFunc) := goodIn_app (goodIn_of _ (by decide +kernel)) ggX13_tellProgram_X13_tellFunc
set_option maxRecDepth 20000 in
theorem ggX13_tellProgram_X13_flaw : GoodIn wsX13_tellProgram wsX13_flaw := goodIn_ca (goodIn_r _ [71, 3, 14, 22, 4, 294, 295, 296, 297, 298, 299, 300, 301, 302, 303, 304, 305, 306, 307, 308, 309, 310, 311, 312, 313, 314, 315, 316, 317, 318, 319, 320, 321, 322, 323, 324, 325, 326, 327, 328, 329, 330, 331, 332, 333, 334, 335, 336, 337, 338, 339, 340, 341, 342, 343, 344, 345, 346, 347, 348, 349, 350, 351, 352, 353, 354, 355, 356, 357, 358, 359, 360, 361, 362, 363, 364, 365, 366, 367, 368, 369, 370, 371, 372, 373, 374, 375, 376, 377, 378, 379, 380, 381, 382, 383, 384, 385, 386, 387, 388, 389, 390, 391, 392, 393, 394, 395, 396, 397, 398, 399, 400, 401, 402, 403, 404, 405, 406, 407, 408, 409, 410, 411, 412, 413, 414, 415, 416, 417, 418, 419] (by decide +kernel) (by decide +kernel)) (goodIn_sub (fun _ h => List.mem_cons_of_mem _ (List.mem_append_right _ h)) (by decide +kernel))
set_option maxRecDepth 20000 in
theorem gX13_tellProgram_X13_flaw : GoodIn wsX13_tellProgram (wsV RX13 312 RX13 yX13_flaw wsX13_flaw) := goodIn_app (goodIn_of _ (by decide +kernel)) ggX13_tellProgram_X13_flaw
set_option maxRecDepth 20000 in
theorem ggX13_tellProgram_X13_lookAtCalls : GoodIn wsX13_tellProgram wsX13_lookAtCalls := goodIn_ca (goodIn_r _ [279, 10, 163, 140, 3, 22, 4, 218, 280, 9, 106, 40, 41, 21, 172, 173, 281, 72, 73, 74, 18, 75, 282, 283, 284, 285, 158, 286, 287, 288, 289, 107, 108, 109, 110, 290, 291, 292, 293, 14, 23, 58, 59, 60, 294, 295, 296, 297, 298, 299, 300, 301, 302, 303, 304, 305, 306, 307, 308, 309, 310, 311, 312, 313, 314, 315, 316, 317, 318, 319, 320, 321, 322, 323, 324, 325, 326, 327, 328, 329, 330, 331, 332, 333, 334, 335, 336, 337, 338, 339, 340, 341, 342, 343, 344, 345, 346, 347, 348, 349, 350, 351, 352, 353, 354, 355, 356, 357, 358, 359, 360, 361, 362, 363, 364, 365, 366, 367, 368, 369, 370, 371, 372, 373, 374, 375, 376, 377, 378, 379, 380, 381, 382, 383, 384, 385, 386, 387, 388, 389, 390, 391, 392, 393, 394, 395, 396, 397, 398, 399, 400, 401, 402, 403, 404, 405, 406, 407, 408, 409, 410, 411, 412, 413, 414, 415, 416, 417, 418, 419] (by decide +kernel) (by decide +kernel)) (goodIn_sub (fun _ h => List.mem_cons_of_mem _ (List.mem_append_right _ h)) (by decide +kernel))
set_option maxRecDepth 20000 in
theorem gX13_tellProgram_X13_lookAtCalls : GoodIn wsX13_tellProgram (wsV RX13 507 RX13 yX13_lookAtCalls wsX13_lookAtCalls) := goodIn_app (goodIn_of _ (by decide +kernel)) ggX13_tellProgram_X13_lookAtCalls
theorem dX13_tellProgram_0 : decode cX13_tellProgram 0 = .ok (.aload_n 0, 1) := by decide +kernel
theorem dX13_tellProgram_1 : decode cX13_tellProgram 1 = .ok (.iconst 0, 1) := by decide +kernel
theorem dX13_tellProgram_2 : decode cX13_tellProgram 2 = .ok (.putfield 438, 3) := by decide +kernel
theorem dX13_tellProgram_5 : decode cX13_tellProgram 5 = .ok (.aload_n 0, 1) := by decide +kernel
theorem dX13_tellProgram_6 : decode cX13_tellProgram 6 = .ok (.iconst 0, 1) := by decide +kernel
theorem dX13_tellProgram_7 : decode cX13_tellProgram 7 = .ok (.putfield 428, 3) := by decide +kernel
theorem dX13_tellProgram_10 : decode cX13_tellProgram 10 = .ok (.aload_n 0, 1) := by decide +kernel
theorem dX13_tellProgram_11 : decode cX13_tellProgram 11 = .ok (.iconst 0, 1) := by decide +kernel
theorem dX13_tellProgram_12 : decode cX13_tellProgram 12 = .ok (.putfield 300, 3) := by decide +kernel
theorem dX13_tellProgram_15 : decode cX13_tellProgram 15 = .ok (.aload_n 0, 1) := by decide +kernel
theorem dX13_tellProgram_16 : decode cX13_tellProgram 16 = .ok (.iconst 0, 1) := by decide +kernel
theorem dX13_tellProgram_17 : decode cX13_tellProgram 17 = .ok (.putfield 303, 3) := by decide +kernel
theorem dX13_tellProgram_20 : decode cX13_tellProgram 20 = .ok (.aload_n 0, 1) := by decide +kernel
theorem dX13_tellProgram_21 : decode cX13_tellProgram 21 = .ok (.iconst 0, 1) := by decide +kernel
theorem dX13_tellProgram_22 : decode cX13_tellProgram 22 = .ok (.putfield 322, 3) := by decide +kernel
theorem dX13_tellProgram_25 : decode cX13_tellProgram 25 = .ok (.aload_n 0, 1) := by decide +kernel
theorem dX13_tellProgram_26 : decode cX13_tellProgram 26 = .ok (.iconst 0, 1) := by decide +kernel
theorem dX13_tellProgram_27 : decode cX13_tellProgram 27 = .ok (.putfield 333, 3) := by decide +kernel
theorem dX13_tellProgram_30 : decode cX13_tellProgram 30 = .ok (.aload_n 0, 1) := by decide +kernel
theorem dX13_tellProgram_31 : decode cX13_tellProgram 31 = .ok (.iconst 0, 1) := by decide +kernel
theorem dX13_tellProgram_32 : decode cX13_tellProgram 32 = .ok (.putfield 340, 3) := by decide +kernel
theorem dX13_tellProgram_35 : decode cX13_tellProgram 35 = .ok (.aload_n 0, 1) := by decide +kernel
theorem dX13_tellProgram_36 : decode cX13_tellProgram 36 = .ok (.iconst 0, 1) := by decide +kernel
theorem dX13_tellProgram_37 : decode cX13_tellProgram 37 = .ok (.putfield 369, 3) := by decide +kernel
theorem dX13_tellProgram_40 : decode cX13_tellProgram 40 = .ok (.aload_n 0, 1) := by decide +kernel
theorem dX13_tellProgram_41 : decode cX13_tellProgram 41 = .ok (.iconst 0, 1) := by decide +kernel
theorem dX13_tellProgram_42 : decode cX13_tellProgram 42 = .ok (.putfield 343, 3) := by decide +kernel
theorem dX13_tellProgram_45 : decode cX13_tellProgram 45 = .ok (.aload_n 0, 1) := by decide +kernel
theorem dX13_tellProgram_46 : decode cX13_tellProgram 46 = .ok (.iconst 0, 1) := by decide +kernel
theorem dX13_tellProgram_47 : decode cX13_tellProgram 47 = .ok (.putfield 378, 3) := by decide +kernel
theorem dX13_tellProgram_50 : decode cX13_tellProgram 50 = .ok (.aload_n 0, 1) := by decide +kernel
theorem dX13_tellProgram_51 : decode cX13_tellProgram 51 = .ok (.aload_n 0, 1) := by decide +kernel
theorem dX13_tellProgram_52 : decode cX13_tellProgram 52 = .ok (.getfield 281, 3) := by decide +kernel
theorem dX13_tellProgram_55 : decode cX13_tellProgram 55 = .ok (.ifCond .ne 9, 3) := by decide +kernel
theorem dX13_tellProgram_58 : decode cX13_tellProgram 58 = .ok (.ldc_w 494, 3) := by decide +kernel
theorem dX13_tellProgram_61 : decode cX13_tellProgram 61 = .ok (.goto 4, 3) := by decide +kernel
theorem dX13_tellProgram_64 : decode cX13_tellProgram 64 = .ok (.iconst 0, 1) := by decide +kernel
theorem dX13_tellProgram_65 : decode cX13_tellProgram 65 = .ok (.putfield 281, 3) := by decide +kernel
theorem dX13_tellProgram_68 : decode cX13_tellProgram 68 = .ok (.aload_n 0, 1) := by decide +kernel
theorem dX13_tellProgram_69 : decode cX13_tellProgram 69 = .ok (.invokevirtual 495, 3) := by decide +kernel
theorem dX13_tellProgram_72 : decode cX13_tellProgram 72 = .ok (.aload_n 0, 1) := by decide +kernel
theorem dX13_tellProgram_73 : decode cX13_tellProgram 73 = .ok (.aload_n 0, 1) := by decide +kernel
theorem dX13_tellProgram_74 : decode cX13_tellProgram 74 = .ok (.getfield 281, 3) := by decide +kernel
theorem dX13_tellProgram_77 : decode cX13_tellProgram 77 = .ok (.putfield 306, 3) := by decide +kernel
theorem dX13_tellProgram_80 : decode cX13_tellProgram 80 = .ok (.aload_n 0, 1) := by decide +kernel
theorem dX13_tellProgram_81 : decode cX13_tellProgram 81 = .ok (.invokevirtual 309, 3) := by decide +kernel
theorem dX13_tellProgram_84 : decode cX13_tellProgram 84 = .ok (.aload_n 0, 1) := by decide +kernel
theorem dX13_tellProgram_85 : decode cX13_tellProgram 85 = .ok (.invokevirtual 325, 3) := by decide +kernel
theorem dX13_tellProgram_88 : decode cX13_tellProgram 88 = .ok (.ifCond .eq 73, 3) := by decide +kernel
theorem dX13_tellProgram_91 : decode cX13_tellProgram 91 = .ok (.aload_n 0, 1) := by decide +kernel
theorem dX13_tellProgram_92 : decode cX13_tellProgram 92 = .ok (.getfield 19, 3) := by decide +kernel
theorem dX13_tellProgram_95 : decode cX13_tellProgram 95 = .ok (.aload_n 0, 1) := by decide +kernel
theorem dX13_tellProgram_96 : decode cX13_tellProgram 96 = .ok (.getfield 306, 3) := by decide +kernel
theorem dX13_tellProgram_99 : decode cX13_tellProgram 99 = .ok (.baload, 1) := by decide +kernel
theorem dX13_tellProgram_100 : decode cX13_tellProgram 100 = .ok (.iconst 5, 1) := by decide +kernel
theorem dX13_tellProgram_101 : decode cX13_tellProgram 101 = .ok (.if_icmp .eq 60, 3) := by decide +kernel
theorem dX13_tellProgram_104 : decode cX13_tellProgram 104 = .ok (.aload_n 0, 1) := by decide +kernel
theorem dX13_tellProgram_105 : decode cX13_tellProgram 105 = .ok (.iconst 1, 1) := by decide +kernel
theorem dX13_tellProgram_106 : decode cX13_tellProgram 106 = .ok (.invokevirtual 391, 3) := by decide +kernel
theorem dX13_tellProgram_109 : decode cX13_tellProgram 109 = .ok (.ifCond .eq 10, 3) := by decide +kernel
theorem dX13_tellProgram_112 : decode cX13_tellProgram 112 = .ok (.aload_n 0, 1) := by decide +kernel
theorem dX13_tellProgram_113 : decode cX13_tellProgram 113 = .ok (.invokevirtual 498, 3) := by decide +kernel
theorem dX13_tellProgram_116 : decode cX13_tellProgram 116 = .ok (.goto (-32), 3) := by decide +kernel
theorem dX13_tellProgram_119 : decode cX13_tellProgram 119 = .ok (.aload_n 0, 1) := by decide +kernel
theorem dX13_tellProgram_120 : decode cX13_tellProgram 120 = .ok (.iconst 2, 1) := by decide +kernel
theorem dX13_tellProgram_121 : decode cX13_tellProgram 121 = .ok (.invokevirtual 391, 3) := by decide +kernel
theorem dX13_tellProgram_124 : decode cX13_tellProgram 124 = .ok (.ifCond .eq 10, 3) := by decide +kernel
theorem dX13_tellProgram_127 : decode cX13_tellProgram 127 = .ok (.aload_n 0, 1) := by decide +kernel
theorem dX13_tellProgram_128 : decode cX13_tellProgram 128 = .ok (.invokevirtual 501, 3) := by decide +kernel
theorem dX13_tellProgram_131 : decode cX13_tellProgram 131 = .ok (.goto (-47), 3) := by decide +kernel
theorem dX13_tellProgram_134 : decode cX13_tellProgram 134 = .ok (.aload_n 0, 1) := by decide +kernel
theorem dX13_tellProgram_135 : decode cX13_tellProgram 135 = .ok (.iconst 3, 1) := by decide +kernel
theorem dX13_tellProgram_136 : decode cX13_tellProgram 136 = .ok (.invokevirtual 391, 3) := by decide +kernel
theorem dX13_tellProgram_139 : decode cX13_tellProgram 139 = .ok (.ifCond .eq 10, 3) := by decide +kernel
theorem dX13_tellProgram_142 : decode cX13_tellProgram 142 = .ok (.aload_n 0, 1) := by decide +kernel
theorem dX13_tellProgram_143 : decode cX13_tellProgram 143 = .ok (.invokevirtual 504, 3) := by decide +kernel
theorem dX13_tellProgram_146 : decode cX13_tellProgram 146 = .ok (.goto (-62), 3) := by decide +kernel
theorem dX13_tellProgram_149 : decode cX13_tellProgram 149 = .ok (.aload_n 0, 1) := by decide +kernel
theorem dX13_tellProgram_150 : decode cX13_tellProgram 150 = .ok (.iconst 2, 1) := by decide +kernel
theorem dX13_tellProgram_151 : decode cX13_tellProgram 151 = .ok (.aload_n 0, 1) := by decide +kernel
theorem dX13_tellProgram_152 : decode cX13_tellProgram 152 = .ok (.getfield 306, 3) := by decide +kernel
theorem dX13_tellProgram_155 : decode cX13_tellProgram 155 = .ok (.invokevirtual 312, 3) := by decide +kernel
theorem dX13_tellProgram_158 : decode cX13_tellProgram 158 = .ok (.goto (-74), 3) := by decide +kernel
theorem dX13_tellProgram_161 : decode cX13_tellProgram 161 = .ok (.aload_n 0, 1) := by decide +kernel
theorem dX13_tellProgram_162 : decode cX13_tellProgram 162 = .ok (.invokevirtual 325, 3) := by decide +kernel
theorem dX13_tellProgram_165 : decode cX13_tellProgram 165 = .ok (.ifCond .eq 7, 3) := by decide +kernel
theorem dX13_tellProgram_168 : decode cX13_tellProgram 168 = .ok (.aload_n 0, 1) := by decide +kernel
theorem dX13_tellProgram_169 : decode cX13_tellProgram 169 = .ok (.invokevirtual 507, 3) := by decide +kernel
theorem dX13_tellProgram_172 : decode cX13_tellProgram 172 = .ok (.return_, 1) := by decide +kernel
set_option maxRecDepth 20000 in
theorem ggX13_lookAtCalls_X13_isRight : GoodIn wsX13_lookAtCalls wsX13_isRight := goodIn_r _ [21, 4, 44, 45, 46, 47, 48, 49, 50, 51, 52, 53, 54, 55, 56, 57, 58, 59, 60, 61, 62, 63, 64, 65, 66, 67, 68, 69, 70, 71, 72, 73, 74, 75, 76, 77, 78, 79, 80, 81, 82, 83, 84, 85, 86, 87, 88, 89, 90, 91, 92, 93, 94, 95, 96, 97, 98, 99, 100, 101, 102, 103, 104, 105, 106, 107, 108, 109, 110, 111, 112, 113, 114, 115, 116, 117, 118, 119, 120, 121, 122, 123, 124, 125, 126, 127, 128, 129, 130, 131, 132, 133, 134, 135, 136, 137, 138, 139, 140, 141, 142, 143, 144, 145, 146, 147, 148, 149, 150, 151, 152, 153, 154, 155, 156, 157, 158, 159, 160, 161, 162, 163, 164, 165, 166, 167, 168, 169] (by decide +kernel) (by decide +kernel)
set_option maxRecDepth 20000 in
theorem gX13_lookAtCalls_X13_isRight : GoodIn wsX13_lookAtCalls (wsV RX13 325 RX13 yX13_isRight wsX13_isRight) := goodIn_app (goodIn_of _ (by decide +kernel)) ggX13_lookAtCalls_X13_isRight
set_option maxRecDepth 20000 in
theorem ggX13_lookAtCalls_X13_calledBy : GoodIn wsX13_lookAtCalls wsX13_calledBy := goodIn_ca (goodIn_r _ [25, 26, 44, 45, 46, 47, 48, 49, 50, 51, 52, 53, 54, 55, 56, 57, 58, 59, 60, 61, 62, 63, 64, 65, 66, 67, 68, 69, 70, 71, 72, 73, 74, 75, 76, 77, 78, 79, 80, 81, 82, 83, 84, 85, 86, 87, 88, 89, 90, 91, 92, 93, 94, 95, 96, 97, 98, 99, 100, 101, 102, 103, 104, 105, 106, 107, 108, 109, 110, 111, 112, 113, 114, 115, 116, 117, 118, 119, 120, 121, 122, 123, 124, 125, 126, 127, 128, 129, 130, 131, 132, 133, 134, 135, 136, 137, 138, 139, 140, 141, 142, 143, 144, 145, 146, 147, 148, 149, 150, 151, 152, 153, 154, 155, 156, 157, 158, 159, 160, 161, 162, 163, 164, 165, 166, 167, 168, 169] (by decide +kernel) (by decide +kernel)) (goodIn_sub (fun _ h => List.mem_cons_of_mem _ (List.mem_append_right _ h)) (by decide +kernel))
set_option maxRecDepth 20000 in
theorem gX13_lookAtCalls_X13_calledBy : GoodIn wsX13_lookAtCalls (wsV RX13 510 RX13 yX13_calledBy wsX13_calledBy) := goodIn_app (goodIn_of _ (by decide +kernel)) ggX13_lookAtCalls_X13_calledBy
set_option maxRecDepth 20000 in
theorem ggX13_lookAtCalls_X13_functionOf : GoodIn wsX13_lookAtCalls wsX13_functionOf := goodIn_ca (goodIn_r _ [30, 9, 10, 31, 32, 33, 20, 34, 11, 12, 44, 45, 46, 47, 48, 49, 50, 51, 52, 53, 54, 55, 56, 57, 58, 59, 60, 61, 62, 63, 64, 65, 66, 67, 68, 69, 70, 71, 72, 73, 74, 75, 76, 77, 78, 79, 80, 81, 82, 83, 84, 85, 86, 87, 88, 89, 90, 91, 92, 93, 94, 95, 96, 97, 98, 99, 100, 101, 102, 103, 104, 105, 106, 107, 108, 109, 110, 111, 112, 113, 114, 115, 116, 117, 118, 119, 120, 121, 122, 123, 124, 125, 126, 127, 128, 129, 130, 131, 132, 133, 134, 135, 136, 137, 138, 139, 140, 141, 142, 143, 144, 145, 146, 147, 148, 149, 150, 151, 152, 153, 154, 155, 156, 157, 158, 159, 160, 161, 162, 163, 164, 165, 166, 167, 168, 169] (by decide +kernel) (by decide +kernel)) (goodIn_sub (fun _ h => List.mem_cons_of_mem _ (List.mem_append_right _ h)) (by decide +kernel))
set_option maxRecDepth 20000 in
theorem gX13_lookAtCalls_X13_functionOf : GoodIn wsX13_lookAtCalls (wsV RX13 513 RX13 yX13_functionOf wsX13_functionOf) := goodIn_app (goodIn_of _ (by decide +kernel)) ggX13_lookAtCalls_X13_functionOf
set_option maxRecDepth 20000 in
theorem ggX13_lookAtCalls_X13_countArguments : GoodIn wsX13_lookAtCalls wsX13_countArguments := goodIn_ca (goodIn_r _ [38, 39, 40, 44, 45, 46, 47, 48, 49, 50, 51, 52, 53, 54, 55, 56, 57, 58, 59, 60, 61, 62, 63, 64, 65, 66, 67, 68, 69, 70, 71, 72, 73, 74, 75, 76, 77, 78, 79, 80, 81, 82, 83, 84, 85, 86, 87, 88, 89, 90, 91, 92, 93, 94, 95, 96, 97, 98, 99, 100, 101, 102, 103, 104, 105, 106, 107, 108, 109, 110, 111, 112, 113, 114, 115, 116, 117, 118, 119, 120, 121, 122, 123, 124, 125, 126, 127, 128, 129, 130, 131, 132, 133, 134, 135, 136, 137, 138, 139, 140, 141, 142, 143, 144, 145, 146, 147, 148, 149, 150, 151, 152, 153, 154, 155, 156, 157, 158, 159, 160, 161, 162, 163, 164, 165, 166, 167, 168, 169] (by decide +kernel) (by decide +kernel)) (goodIn_sub (fun _ h => List.mem_cons_of_mem _ (List.mem_append_right _ h)) (by decide +kernel))
set_option maxRecDepth 20000 in
theorem gX13_lookAtCalls_X13_countArguments : GoodIn wsX13_lookAtCalls (wsV RX13 516 RX13 yX13_countArguments wsX13_countArguments) := goodIn_app (goodIn_of _ (by decide +kernel)) ggX13_lookAtCalls_X13_countArguments
set_option maxRecDepth 20000 in
theorem ggX13_lookAtCalls_X13_word : GoodIn wsX13_lookAtCalls wsX13_word := goodIn_r _ [43] (by decide +kernel) (by decide +kernel)
set_option maxRecDepth 20000 in
theorem gX13_lookAtCalls_X13_word : GoodIn wsX13_lookAtCalls (va_wsS RX13 264 yX13_word wsX13_word) := goodIn_app (goodIn_of _ (by decide +kernel)) ggX13_lookAtCalls_X13_word
theorem dX13_lookAtCalls_0 : decode cX13_lookAtCalls 0 = .ok (.iconst 0, 1) := by decide +kernel
theorem dX13_lookAtCalls_1 : decode cX13_lookAtCalls 1 = .ok (.istore_n 1, 1) := by decide +kernel
theorem dX13_lookAtCalls_2 : decode cX13_lookAtCalls 2 = .ok (.iload_n 1, 1) := by decide +kernel
theorem dX13_lookAtCalls_3 : decode cX13_lookAtCalls 3 = .ok (.aload_n 0, 1) := by decide +kernel
theorem dX13_lookAtCalls_4 : decode cX13_lookAtCalls 4 = .ok (.getfield 378, 3) := by decide +kernel
theorem dX13_lookAtCalls_7 : decode cX13_lookAtCalls 7 = .ok (.if_icmp .ge 84, 3) := by decide +kernel
theorem dX13_lookAtCalls_10 : decode cX13_lookAtCalls 10 = .ok (.aload_n 0, 1) := by decide +kernel
theorem dX13_lookAtCalls_11 : decode cX13_lookAtCalls 11 = .ok (.getfield 66, 3) := by decide +kernel
theorem dX13_lookAtCalls_14 : decode cX13_lookAtCalls 14 = .ok (.iload_n 1, 1) := by decide +kernel
theorem dX13_lookAtCalls_15 : decode cX13_lookAtCalls 15 = .ok (.iaload, 1) := by decide +kernel
theorem dX13_lookAtCalls_16 : decode cX13_lookAtCalls 16 = .ok (.iconst 5, 1) := by decide +kernel
theorem dX13_lookAtCalls_17 : decode cX13_lookAtCalls 17 = .ok (.if_icmp .ne 68, 3) := by decide +kernel
theorem dX13_lookAtCalls_20 : decode cX13_lookAtCalls 20 = .ok (.aload_n 0, 1) := by decide +kernel
theorem dX13_lookAtCalls_21 : decode cX13_lookAtCalls 21 = .ok (.invokevirtual 325, 3) := by decide +kernel
theorem dX13_lookAtCalls_24 : decode cX13_lookAtCalls 24 = .ok (.ifCond .eq 61, 3) := by decide +kernel
theorem dX13_lookAtCalls_27 : decode cX13_lookAtCalls 27 = .ok (.aload_n 0, 1) := by decide +kernel
theorem dX13_lookAtCalls_28 : decode cX13_lookAtCalls 28 = .ok (.iload_n 1, 1) := by decide +kernel
theorem dX13_lookAtCalls_29 : decode cX13_lookAtCalls 29 = .ok (.invokevirtual 510, 3) := by decide +kernel
theorem dX13_lookAtCalls_32 : decode cX13_lookAtCalls 32 = .ok (.istore_n 2, 1) := by decide +kernel
theorem dX13_lookAtCalls_33 : decode cX13_lookAtCalls 33 = .ok (.aload_n 0, 1) := by decide +kernel
theorem dX13_lookAtCalls_34 : decode cX13_lookAtCalls 34 = .ok (.iload_n 2, 1) := by decide +kernel
theorem dX13_lookAtCalls_35 : decode cX13_lookAtCalls 35 = .ok (.invokevirtual 513, 3) := by decide +kernel
theorem dX13_lookAtCalls_38 : decode cX13_lookAtCalls 38 = .ok (.istore_n 3, 1) := by decide +kernel
theorem dX13_lookAtCalls_39 : decode cX13_lookAtCalls 39 = .ok (.iload_n 3, 1) := by decide +kernel
theorem dX13_lookAtCalls_40 : decode cX13_lookAtCalls 40 = .ok (.iconst (-1), 1) := by decide +kernel
theorem dX13_lookAtCalls_41 : decode cX13_lookAtCalls 41 = .ok (.if_icmp .eq 17, 3) := by decide +kernel
theorem dX13_lookAtCalls_44 : decode cX13_lookAtCalls 44 = .ok (.aload_n 0, 1) := by decide +kernel
theorem dX13_lookAtCalls_45 : decode cX13_lookAtCalls 45 = .ok (.getfield 54, 3) := by decide +kernel
theorem dX13_lookAtCalls_48 : decode cX13_lookAtCalls 48 = .ok (.iload_n 3, 1) := by decide +kernel
theorem dX13_lookAtCalls_49 : decode cX13_lookAtCalls 49 = .ok (.iaload, 1) := by decide +kernel
theorem dX13_lookAtCalls_50 : decode cX13_lookAtCalls 50 = .ok (.aload_n 0, 1) := by decide +kernel
theorem dX13_lookAtCalls_51 : decode cX13_lookAtCalls 51 = .ok (.iload_n 2, 1) := by decide +kernel
theorem dX13_lookAtCalls_52 : decode cX13_lookAtCalls 52 = .ok (.invokevirtual 516, 3) := by decide +kernel
theorem dX13_lookAtCalls_55 : decode cX13_lookAtCalls 55 = .ok (.if_icmp .eq 19, 3) := by decide +kernel
theorem dX13_lookAtCalls_58 : decode cX13_lookAtCalls 58 = .ok (.aload_n 0, 1) := by decide +kernel
theorem dX13_lookAtCalls_59 : decode cX13_lookAtCalls 59 = .ok (.bipush 16, 2) := by decide +kernel
theorem dX13_lookAtCalls_61 : decode cX13_lookAtCalls 61 = .ok (.putfield 300, 3) := by decide +kernel
theorem dX13_lookAtCalls_64 : decode cX13_lookAtCalls 64 = .ok (.aload_n 0, 1) := by decide +kernel
theorem dX13_lookAtCalls_65 : decode cX13_lookAtCalls 65 = .ok (.aload_n 0, 1) := by decide +kernel
theorem dX13_lookAtCalls_66 : decode cX13_lookAtCalls 66 = .ok (.getfield 22, 3) := by decide +kernel
theorem dX13_lookAtCalls_69 : decode cX13_lookAtCalls 69 = .ok (.iload_n 2, 1) := by decide +kernel
theorem dX13_lookAtCalls_70 : decode cX13_lookAtCalls 70 = .ok (.iaload, 1) := by decide +kernel
theorem dX13_lookAtCalls_71 : decode cX13_lookAtCalls 71 = .ok (.putfield 303, 3) := by decide +kernel
theorem dX13_lookAtCalls_74 : decode cX13_lookAtCalls 74 = .ok (.aload_n 0, 1) := by decide +kernel
theorem dX13_lookAtCalls_75 : decode cX13_lookAtCalls 75 = .ok (.getfield 93, 3) := by decide +kernel
theorem dX13_lookAtCalls_78 : decode cX13_lookAtCalls 78 = .ok (.iload_n 2, 1) := by decide +kernel
theorem dX13_lookAtCalls_79 : decode cX13_lookAtCalls 79 = .ok (.sipush 300, 3) := by decide +kernel
theorem dX13_lookAtCalls_82 : decode cX13_lookAtCalls 82 = .ok (.iload_n 3, 1) := by decide +kernel
theorem dX13_lookAtCalls_83 : decode cX13_lookAtCalls 83 = .ok (.iadd, 1) := by decide +kernel
theorem dX13_lookAtCalls_84 : decode cX13_lookAtCalls 84 = .ok (.iastore, 1) := by decide +kernel
theorem dX13_lookAtCalls_85 : decode cX13_lookAtCalls 85 = .ok (.iinc 1 1, 3) := by decide +kernel
theorem dX13_lookAtCalls_88 : decode cX13_lookAtCalls 88 = .ok (.goto (-86), 3) := by decide +kernel
theorem dX13_lookAtCalls_91 : decode cX13_lookAtCalls 91 = .ok (.aload_n 0, 1) := by decide +kernel
theorem dX13_lookAtCalls_92 : decode cX13_lookAtCalls 92 = .ok (.iconst (-1), 1) := by decide +kernel
theorem dX13_lookAtCalls_93 : decode cX13_lookAtCalls 93 = .ok (.putfield 487, 3) := by decide +kernel
theorem dX13_lookAtCalls_96 : decode cX13_lookAtCalls 96 = .ok (.iconst 0, 1) := by decide +kernel
theorem dX13_lookAtCalls_97 : decode cX13_lookAtCalls 97 = .ok (.istore_n 1, 1) := by decide +kernel
theorem dX13_lookAtCalls_98 : decode cX13_lookAtCalls 98 = .ok (.iload_n 1, 1) := by decide +kernel
theorem dX13_lookAtCalls_99 : decode cX13_lookAtCalls 99 = .ok (.aload_n 0, 1) := by decide +kernel
theorem dX13_lookAtCalls_100 : decode cX13_lookAtCalls 100 = .ok (.getfield 343, 3) := by decide +kernel
theorem dX13_lookAtCalls_103 : decode cX13_lookAtCalls 103 = .ok (.if_icmp .ge 70, 3) := by decide +kernel
theorem dX13_lookAtCalls_106 : decode cX13_lookAtCalls 106 = .ok (.aload_n 0, 1) := by decide +kernel
theorem dX13_lookAtCalls_107 : decode cX13_lookAtCalls 107 = .ok (.getfield 51, 3) := by decide +kernel
theorem dX13_lookAtCalls_110 : decode cX13_lookAtCalls 110 = .ok (.iload_n 1, 1) := by decide +kernel
theorem dX13_lookAtCalls_111 : decode cX13_lookAtCalls 111 = .ok (.iaload, 1) := by decide +kernel
theorem dX13_lookAtCalls_112 : decode cX13_lookAtCalls 112 = .ok (.istore_n 2, 1) := by decide +kernel
theorem dX13_lookAtCalls_113 : decode cX13_lookAtCalls 113 = .ok (.aload_n 0, 1) := by decide +kernel
theorem dX13_lookAtCalls_114 : decode cX13_lookAtCalls 114 = .ok (.aload_n 0, 1) := by decide +kernel
theorem dX13_lookAtCalls_115 : decode cX13_lookAtCalls 115 = .ok (.getfield 29, 3) := by decide +kernel
theorem dX13_lookAtCalls_118 : decode cX13_lookAtCalls 118 = .ok (.iload_n 2, 1) := by decide +kernel
theorem dX13_lookAtCalls_119 : decode cX13_lookAtCalls 119 = .ok (.laload, 1) := by decide +kernel
theorem dX13_lookAtCalls_120 : decode cX13_lookAtCalls 120 = .ok (.bipush 109, 2) := by decide +kernel
theorem dX13_lookAtCalls_122 : decode cX13_lookAtCalls 122 = .ok (.bipush 97, 2) := by decide +kernel
theorem dX13_lookAtCalls_124 : decode cX13_lookAtCalls 124 = .ok (.bipush 105, 2) := by decide +kernel
theorem dX13_lookAtCalls_126 : decode cX13_lookAtCalls 126 = .ok (.bipush 110, 2) := by decide +kernel
theorem dX13_lookAtCalls_128 : decode cX13_lookAtCalls 128 = .ok (.iconst 0, 1) := by decide +kernel
theorem dX13_lookAtCalls_129 : decode cX13_lookAtCalls 129 = .ok (.iconst 0, 1) := by decide +kernel
theorem dX13_lookAtCalls_130 : decode cX13_lookAtCalls 130 = .ok (.iconst 0, 1) := by decide +kernel
theorem dX13_lookAtCalls_131 : decode cX13_lookAtCalls 131 = .ok (.invokestatic 264, 3) := by decide +kernel
theorem dX13_lookAtCalls_134 : decode cX13_lookAtCalls 134 = .ok (.lcmp, 1) := by decide +kernel
theorem dX13_lookAtCalls_135 : decode cX13_lookAtCalls 135 = .ok (.ifCond .ne 25, 3) := by decide +kernel
theorem dX13_lookAtCalls_138 : decode cX13_lookAtCalls 138 = .ok (.aload_n 0, 1) := by decide +kernel
theorem dX13_lookAtCalls_139 : decode cX13_lookAtCalls 139 = .ok (.getfield 33, 3) := by decide +kernel
theorem dX13_lookAtCalls_142 : decode cX13_lookAtCalls 142 = .ok (.iload_n 2, 1) := by decide +kernel
theorem dX13_lookAtCalls_143 : decode cX13_lookAtCalls 143 = .ok (.iaload, 1) := by decide +kernel
theorem dX13_lookAtCalls_144 : decode cX13_lookAtCalls 144 = .ok (.ifCond .ne 16, 3) := by decide +kernel
theorem dX13_lookAtCalls_147 : decode cX13_lookAtCalls 147 = .ok (.aload_n 0, 1) := by decide +kernel
theorem dX13_lookAtCalls_148 : decode cX13_lookAtCalls 148 = .ok (.getfield 54, 3) := by decide +kernel
theorem dX13_lookAtCalls_151 : decode cX13_lookAtCalls 151 = .ok (.iload_n 1, 1) := by decide +kernel
theorem dX13_lookAtCalls_152 : decode cX13_lookAtCalls 152 = .ok (.iaload, 1) := by decide +kernel
theorem dX13_lookAtCalls_153 : decode cX13_lookAtCalls 153 = .ok (.ifCond .ne 7, 3) := by decide +kernel
theorem dX13_lookAtCalls_156 : decode cX13_lookAtCalls 156 = .ok (.iload_n 1, 1) := by decide +kernel
theorem dX13_lookAtCalls_157 : decode cX13_lookAtCalls 157 = .ok (.goto 7, 3) := by decide +kernel
theorem dX13_lookAtCalls_160 : decode cX13_lookAtCalls 160 = .ok (.aload_n 0, 1) := by decide +kernel
theorem dX13_lookAtCalls_161 : decode cX13_lookAtCalls 161 = .ok (.getfield 487, 3) := by decide +kernel
theorem dX13_lookAtCalls_164 : decode cX13_lookAtCalls 164 = .ok (.putfield 487, 3) := by decide +kernel
theorem dX13_lookAtCalls_167 : decode cX13_lookAtCalls 167 = .ok (.iinc 1 1, 3) := by decide +kernel
theorem dX13_lookAtCalls_170 : decode cX13_lookAtCalls 170 = .ok (.goto (-72), 3) := by decide +kernel
theorem dX13_lookAtCalls_173 : decode cX13_lookAtCalls 173 = .ok (.aload_n 0, 1) := by decide +kernel
theorem dX13_lookAtCalls_174 : decode cX13_lookAtCalls 174 = .ok (.invokevirtual 325, 3) := by decide +kernel
theorem dX13_lookAtCalls_177 : decode cX13_lookAtCalls 177 = .ok (.ifCond .eq 25, 3) := by decide +kernel
theorem dX13_lookAtCalls_180 : decode cX13_lookAtCalls 180 = .ok (.aload_n 0, 1) := by decide +kernel
theorem dX13_lookAtCalls_181 : decode cX13_lookAtCalls 181 = .ok (.getfield 487, 3) := by decide +kernel
theorem dX13_lookAtCalls_184 : decode cX13_lookAtCalls 184 = .ok (.iconst (-1), 1) := by decide +kernel
theorem dX13_lookAtCalls_185 : decode cX13_lookAtCalls 185 = .ok (.if_icmp .ne 17, 3) := by decide +kernel
theorem dX13_lookAtCalls_188 : decode cX13_lookAtCalls 188 = .ok (.aload_n 0, 1) := by decide +kernel
theorem dX13_lookAtCalls_189 : decode cX13_lookAtCalls 189 = .ok (.bipush 17, 2) := by decide +kernel
theorem dX13_lookAtCalls_191 : decode cX13_lookAtCalls 191 = .ok (.putfield 300, 3) := by decide +kernel
theorem dX13_lookAtCalls_194 : decode cX13_lookAtCalls 194 = .ok (.aload_n 0, 1) := by decide +kernel
theorem dX13_lookAtCalls_195 : decode cX13_lookAtCalls 195 = .ok (.aload_n 0, 1) := by decide +kernel
theorem dX13_lookAtCalls_196 : decode cX13_lookAtCalls 196 = .ok (.getfield 253, 3) := by decide +kernel
theorem dX13_lookAtCalls_199 : decode cX13_lookAtCalls 199 = .ok (.putfield 303, 3) := by decide +kernel
theorem dX13_lookAtCalls_202 : decode cX13_lookAtCalls 202 = .ok (.iconst 0, 1) := by decide +kernel
theorem dX13_lookAtCalls_203 : decode cX13_lookAtCalls 203 = .ok (.istore_n 1, 1) := by decide +kernel
theorem dX13_lookAtCalls_204 : decode cX13_lookAtCalls 204 = .ok (.iload_n 1, 1) := by decide +kernel
theorem dX13_lookAtCalls_205 : decode cX13_lookAtCalls 205 = .ok (.aload_n 0, 1) := by decide +kernel
theorem dX13_lookAtCalls_206 : decode cX13_lookAtCalls 206 = .ok (.getfield 378, 3) := by decide +kernel
theorem dX13_lookAtCalls_209 : decode cX13_lookAtCalls 209 = .ok (.if_icmp .ge 88, 3) := by decide +kernel
theorem dX13_lookAtCalls_212 : decode cX13_lookAtCalls 212 = .ok (.iload_n 1, 1) := by decide +kernel
theorem dX13_lookAtCalls_213 : decode cX13_lookAtCalls 213 = .ok (.istore_n 2, 1) := by decide +kernel
theorem dX13_lookAtCalls_214 : decode cX13_lookAtCalls 214 = .ok (.aload_n 0, 1) := by decide +kernel
theorem dX13_lookAtCalls_215 : decode cX13_lookAtCalls 215 = .ok (.getfield 81, 3) := by decide +kernel
theorem dX13_lookAtCalls_218 : decode cX13_lookAtCalls 218 = .ok (.iload_n 2, 1) := by decide +kernel
theorem dX13_lookAtCalls_219 : decode cX13_lookAtCalls 219 = .ok (.iaload, 1) := by decide +kernel
theorem dX13_lookAtCalls_220 : decode cX13_lookAtCalls 220 = .ok (.iconst (-1), 1) := by decide +kernel
theorem dX13_lookAtCalls_221 : decode cX13_lookAtCalls 221 = .ok (.if_icmp .ne 39, 3) := by decide +kernel
theorem dX13_lookAtCalls_224 : decode cX13_lookAtCalls 224 = .ok (.aload_n 0, 1) := by decide +kernel
theorem dX13_lookAtCalls_225 : decode cX13_lookAtCalls 225 = .ok (.getfield 84, 3) := by decide +kernel
theorem dX13_lookAtCalls_228 : decode cX13_lookAtCalls 228 = .ok (.iload_n 2, 1) := by decide +kernel
theorem dX13_lookAtCalls_229 : decode cX13_lookAtCalls 229 = .ok (.iaload, 1) := by decide +kernel
theorem dX13_lookAtCalls_230 : decode cX13_lookAtCalls 230 = .ok (.iconst (-1), 1) := by decide +kernel
theorem dX13_lookAtCalls_231 : decode cX13_lookAtCalls 231 = .ok (.if_icmp .eq 29, 3) := by decide +kernel
theorem dX13_lookAtCalls_234 : decode cX13_lookAtCalls 234 = .ok (.aload_n 0, 1) := by decide +kernel
theorem dX13_lookAtCalls_235 : decode cX13_lookAtCalls 235 = .ok (.getfield 66, 3) := by decide +kernel
theorem dX13_lookAtCalls_238 : decode cX13_lookAtCalls 238 = .ok (.aload_n 0, 1) := by decide +kernel
theorem dX13_lookAtCalls_239 : decode cX13_lookAtCalls 239 = .ok (.getfield 84, 3) := by decide +kernel
theorem dX13_lookAtCalls_242 : decode cX13_lookAtCalls 242 = .ok (.iload_n 2, 1) := by decide +kernel
theorem dX13_lookAtCalls_243 : decode cX13_lookAtCalls 243 = .ok (.iaload, 1) := by decide +kernel
theorem dX13_lookAtCalls_244 : decode cX13_lookAtCalls 244 = .ok (.iaload, 1) := by decide +kernel
theorem dX13_lookAtCalls_245 : decode cX13_lookAtCalls 245 = .ok (.bipush 6, 2) := by decide +kernel
theorem dX13_lookAtCalls_247 : decode cX13_lookAtCalls 247 = .ok (.if_icmp .ne 13, 3) := by decide +kernel
theorem dX13_lookAtCalls_250 : decode cX13_lookAtCalls 250 = .ok (.aload_n 0, 1) := by decide +kernel
theorem dX13_lookAtCalls_251 : decode cX13_lookAtCalls 251 = .ok (.getfield 84, 3) := by decide +kernel
theorem dX13_lookAtCalls_254 : decode cX13_lookAtCalls 254 = .ok (.iload_n 2, 1) := by decide +kernel
theorem dX13_lookAtCalls_255 : decode cX13_lookAtCalls 255 = .ok (.iaload, 1) := by decide +kernel
theorem dX13_lookAtCalls_256 : decode cX13_lookAtCalls 256 = .ok (.istore_n 2, 1) := by decide +kernel
theorem dX13_lookAtCalls_257 : decode cX13_lookAtCalls 257 = .ok (.goto (-43), 3) := by decide +kernel
theorem dX13_lookAtCalls_260 : decode cX13_lookAtCalls 260 = .ok (.aload_n 0, 1) := by decide +kernel
theorem dX13_lookAtCalls_261 : decode cX13_lookAtCalls 261 = .ok (.getfield 87, 3) := by decide +kernel
theorem dX13_lookAtCalls_264 : decode cX13_lookAtCalls 264 = .ok (.iload_n 1, 1) := by decide +kernel
theorem dX13_lookAtCalls_265 : decode cX13_lookAtCalls 265 = .ok (.aload_n 0, 1) := by decide +kernel
theorem dX13_lookAtCalls_266 : decode cX13_lookAtCalls 266 = .ok (.getfield 81, 3) := by decide +kernel
theorem dX13_lookAtCalls_269 : decode cX13_lookAtCalls 269 = .ok (.iload_n 2, 1) := by decide +kernel
theorem dX13_lookAtCalls_270 : decode cX13_lookAtCalls 270 = .ok (.iaload, 1) := by decide +kernel
theorem dX13_lookAtCalls_271 : decode cX13_lookAtCalls 271 = .ok (.iconst (-1), 1) := by decide +kernel
theorem dX13_lookAtCalls_272 : decode cX13_lookAtCalls 272 = .ok (.if_icmp .eq 12, 3) := by decide +kernel
theorem dX13_lookAtCalls_275 : decode cX13_lookAtCalls 275 = .ok (.aload_n 0, 1) := by decide +kernel
theorem dX13_lookAtCalls_276 : decode cX13_lookAtCalls 276 = .ok (.getfield 81, 3) := by decide +kernel
theorem dX13_lookAtCalls_279 : decode cX13_lookAtCalls 279 = .ok (.iload_n 2, 1) := by decide +kernel
theorem dX13_lookAtCalls_280 : decode cX13_lookAtCalls 280 = .ok (.iaload, 1) := by decide +kernel
theorem dX13_lookAtCalls_281 : decode cX13_lookAtCalls 281 = .ok (.goto 9, 3) := by decide +kernel
theorem dX13_lookAtCalls_284 : decode cX13_lookAtCalls 284 = .ok (.aload_n 0, 1) := by decide +kernel
theorem dX13_lookAtCalls_285 : decode cX13_lookAtCalls 285 = .ok (.getfield 84, 3) := by decide +kernel
theorem dX13_lookAtCalls_288 : decode cX13_lookAtCalls 288 = .ok (.iload_n 2, 1) := by decide +kernel
theorem dX13_lookAtCalls_289 : decode cX13_lookAtCalls 289 = .ok (.iaload, 1) := by decide +kernel
theorem dX13_lookAtCalls_290 : decode cX13_lookAtCalls 290 = .ok (.iastore, 1) := by decide +kernel
theorem dX13_lookAtCalls_291 : decode cX13_lookAtCalls 291 = .ok (.iinc 1 1, 3) := by decide +kernel
theorem dX13_lookAtCalls_294 : decode cX13_lookAtCalls 294 = .ok (.goto (-90), 3) := by decide +kernel
theorem dX13_lookAtCalls_297 : decode cX13_lookAtCalls 297 = .ok (.return_, 1) := by decide +kernel
set_option maxRecDepth 20000 in
theorem ggX13_program_X13_swingAll : GoodIn wsX13_program wsX13_swingAll := goodIn_ca (goodIn_r _ [19, 20, 21, 22, 23, 24, 25, 14, 26, 27, 28, 29, 30, 31, 32, 33, 34, 35, 36, 37, 38, 39, 40, 41, 42, 43, 44, 45, 46, 47, 48, 49, 18, 50, 51, 319, 320, 321, 322, 323, 324, 325, 326, 327, 328, 329, 330, 331, 332, 333, 334, 335, 336, 337, 338, 339, 340, 341, 342, 343, 344, 345, 346, 347, 348, 349, 350, 351, 352, 353, 354, 355, 356, 357, 358, 359, 360, 361, 362, 363, 364, 365, 366, 367, 368, 369, 370, 371, 372, 373, 374, 375, 376, 377, 378, 379, 380, 381, 382, 383, 384, 385, 386, 387, 388, 389, 390, 391, 392, 393, 394, 395, 396, 397, 398, 399, 400, 401, 402, 403, 404, 405, 406, 407, 408, 409, 410, 411, 412, 413, 414, 415, 416, 417, 418, 419, 420, 421, 422, 423, 424, 425, 426, 427, 428, 429, 430, 431, 432, 433, 434, 435, 436, 437, 438, 439, 440, 441, 442, 443, 444] (by decide +kernel) (by decide +kernel)) (goodIn_sub (fun _ h => List.mem_cons_of_mem _ (List.mem_append_right _ h)) (by decide +kernel))
set_option maxRecDepth 20000 in
theorem gX13_program_X13_swingAll : GoodIn wsX13_program (wsV RX13 519 RX13 yX13_swingAll wsX13_swingAll) := goodIn_app (goodIn_of _ (by decide +kernel)) ggX13_program_X13_swingAll
set_option maxRecDepth 20000 in
theorem ggX13_program_X13_tellProgram : GoodIn wsX13_program wsX13_tellProgram := goodIn_ca (goodIn_r _ [55, 56, 57, 3, 5, 58, 22, 23, 24, 25, 14, 27, 59, 60, 61, 62, 63, 64, 18, 65, 66, 2, 67, 68, 69, 70, 71, 72, 73, 74, 75, 76, 77, 78, 79, 80, 81, 82, 83, 84, 85, 86, 87, 88, 89, 90, 91, 92, 93, 94, 95, 96, 97, 98, 99, 100, 101, 102, 103, 104, 105, 106, 107, 108, 109, 110, 111, 112, 113, 114, 115, 116, 117, 118, 119, 120, 121, 122, 123, 124, 125, 126, 127, 128, 28, 29, 129, 130, 131, 132, 133, 134, 135, 136, 35, 137, 36, 138, 139, 140, 141, 142, 143, 144, 145, 30, 33, 146, 147, 148, 149, 150, 151, 152, 153, 154, 155, 156, 157, 158, 159, 160, 161, 31, 32, 162, 163, 164, 165, 166, 167, 168, 169, 170, 171, 172, 173, 174, 175, 176, 34, 37, 177, 178, 179, 180, 181, 182, 183, 184, 185, 186, 187, 188, 189, 190, 191, 192, 40, 193, 194, 195, 196, 38, 197, 198, 199, 200, 46, 39, 41, 42, 43, 44, 201, 202, 203, 204, 205, 206, 207, 208, 209, 210, 211, 212, 213, 214, 215, 216, 217, 218, 219, 220, 221, 222, 223, 224, 225, 226, 227, 228, 229, 230, 231, 232, 233, 234, 235, 236, 237, 238, 239, 240, 241, 242, 243, 244, 245, 246, 247, 248, 249, 250, 251, 252, 253, 254, 255, 256, 257, 258, 259, 260, 261, 262, 263, 264, 265, 266, 267, 268, 269, 270, 271, 272, 273, 274, 275, 276, 277, 278, 279, 280, 281, 282, 283, 284, 285, 286, 287, 288, 289, 290, 291, 292, 293, 294, 295, 296, 297, 298, 299, 300, 301, 302, 303, 304, 305, 306, 26, 45, 307, 308, 309, 310, 311, 312, 313, 314, 315, 316, 317, 318, 319, 320, 321, 322, 323, 324, 325, 326, 327, 328, 329, 330, 331, 332, 333, 334, 335, 336, 337, 338, 339, 340, 341, 342, 343, 344, 345, 346, 347, 348, 349, 350, 351, 352, 353, 354, 355, 356, 357, 358, 359, 360, 361, 362, 363, 364, 365, 366, 367, 368, 369, 370, 371, 372, 373, 374, 375, 376, 377, 378, 379, 380, 381, 382, 383, 384, 385, 386, 387, 388, 389, 390, 391, 392, 393, 394, 395, 396, 397, 398, 399, 400, 401, 402, 403, 404, 405, 406, 407, 408, 409, 410, 411, 412, 413, 414, 415, 416, 417, 418, 419, 420, 421, 422, 423, 424, 425, 426, 427, 428, 429, 430, 431, 432, 433, 434, 435, 436, 437, 438, 439, 440, 441, 442, 443, 444] (by decide +kernel) (by decide +kernel)) (goodIn_sub (fun _ h => List.mem_cons_of_mem _ (List.mem_append_right _ h)) (by decide +kernel))
set_option maxRecDepth 20000 in
theorem gX13_program_X13_tellProgram : GoodIn wsX13_program (wsV RX13 523 RX13 yX13_tellProgram wsX13_tellProgram) := goodIn_app (goodIn_of _ (by decide +kernel)) ggX13_program_X13_tellProgram
theorem dX13_program_0 : decode cX13_program 0 = .ok (.aload_n 0, 1) := by decide +kernel
theorem dX13_program_1 : decode cX13_program 1 = .ok (.iconst 0, 1) := by decide +kernel
theorem dX13_program_2 : decode cX13_program 2 = .ok (.putfield 1, 3) := by decide +kernel
theorem dX13_program_5 : decode cX13_program 5 = .ok (.aload_n 0, 1) := by decide +kernel
theorem dX13_program_6 : decode cX13_program 6 = .ok (.iconst 0, 1) := by decide +kernel
theorem dX13_program_7 : decode cX13_program 7 = .ok (.invokevirtual 519, 3) := by decide +kernel
theorem dX13_program_10 : decode cX13_program 10 = .ok (.aload_n 0, 1) := by decide +kernel
theorem dX13_program_11 : decode cX13_program 11 = .ok (.invokevirtual 523, 3) := by decide +kernel
theorem dX13_program_14 : decode cX13_program 14 = .ok (.aload_n 0, 1) := by decide +kernel
theorem dX13_program_15 : decode cX13_program 15 = .ok (.iconst 0, 1) := by decide +kernel
theorem dX13_program_16 : decode cX13_program 16 = .ok (.putfield 253, 3) := by decide +kernel
theorem dX13_program_19 : decode cX13_program 19 = .ok (.aload_n 0, 1) := by decide +kernel
theorem dX13_program_20 : decode cX13_program 20 = .ok (.aload_n 0, 1) := by decide +kernel
theorem dX13_program_21 : decode cX13_program 21 = .ok (.getfield 300, 3) := by decide +kernel
theorem dX13_program_24 : decode cX13_program 24 = .ok (.putfield 526, 3) := by decide +kernel
theorem dX13_program_27 : decode cX13_program 27 = .ok (.aload_n 0, 1) := by decide +kernel
theorem dX13_program_28 : decode cX13_program 28 = .ok (.getfield 300, 3) := by decide +kernel
theorem dX13_program_31 : decode cX13_program 31 = .ok (.ifCond .le 15, 3) := by decide +kernel
theorem dX13_program_34 : decode cX13_program 34 = .ok (.aload_n 0, 1) := by decide +kernel
theorem dX13_program_35 : decode cX13_program 35 = .ok (.iconst 1, 1) := by decide +kernel
theorem dX13_program_36 : decode cX13_program 36 = .ok (.invokevirtual 519, 3) := by decide +kernel
theorem dX13_program_39 : decode cX13_program 39 = .ok (.iconst (-1), 1) := by decide +kernel
theorem dX13_program_40 : decode cX13_program 40 = .ok (.aload_n 0, 1) := by decide +kernel
theorem dX13_program_41 : decode cX13_program 41 = .ok (.getfield 303, 3) := by decide +kernel
theorem dX13_program_44 : decode cX13_program 44 = .ok (.isub, 1) := by decide +kernel
theorem dX13_program_45 : decode cX13_program 45 = .ok (.ireturn, 1) := by decide +kernel
theorem dX13_program_46 : decode cX13_program 46 = .ok (.aload_n 0, 1) := by decide +kernel
theorem dX13_program_47 : decode cX13_program 47 = .ok (.iconst 1, 1) := by decide +kernel
theorem dX13_program_48 : decode cX13_program 48 = .ok (.putfield 529, 3) := by decide +kernel
theorem dX13_program_51 : decode cX13_program 51 = .ok (.aload_n 0, 1) := by decide +kernel
theorem dX13_program_52 : decode cX13_program 52 = .ok (.iconst 0, 1) := by decide +kernel
theorem dX13_program_53 : decode cX13_program 53 = .ok (.putfield 533, 3) := by decide +kernel
theorem dX13_program_56 : decode cX13_program 56 = .ok (.aload_n 0, 1) := by decide +kernel
theorem dX13_program_57 : decode cX13_program 57 = .ok (.iconst 0, 1) := by decide +kernel
theorem dX13_program_58 : decode cX13_program 58 = .ok (.putfield 536, 3) := by decide +kernel
theorem dX13_program_61 : decode cX13_program 61 = .ok (.aload_n 0, 1) := by decide +kernel
theorem dX13_program_62 : decode cX13_program 62 = .ok (.iconst 0, 1) := by decide +kernel
theorem dX13_program_63 : decode cX13_program 63 = .ok (.putfield 539, 3) := by decide +kernel
theorem dX13_program_66 : decode cX13_program 66 = .ok (.aload_n 0, 1) := by decide +kernel
theorem dX13_program_67 : decode cX13_program 67 = .ok (.iconst (-1), 1) := by decide +kernel
theorem dX13_program_68 : decode cX13_program 68 = .ok (.putfield 220, 3) := by decide +kernel
theorem dX13_program_71 : decode cX13_program 71 = .ok (.aload_n 0, 1) := by decide +kernel
theorem dX13_program_72 : decode cX13_program 72 = .ok (.iconst 0, 1) := by decide +kernel
theorem dX13_program_73 : decode cX13_program 73 = .ok (.putfield 542, 3) := by decide +kernel
theorem dX13_program_76 : decode cX13_program 76 = .ok (.aload_n 0, 1) := by decide +kernel
theorem dX13_program_77 : decode cX13_program 77 = .ok (.iconst 0, 1) := by decide +kernel
theorem dX13_program_78 : decode cX13_program 78 = .ok (.putfield 545, 3) := by decide +kernel
theorem dX13_program_81 : decode cX13_program 81 = .ok (.aload_n 0, 1) := by decide +kernel
theorem dX13_program_82 : decode cX13_program 82 = .ok (.iconst 0, 1) := by decide +kernel
theorem dX13_program_83 : decode cX13_program 83 = .ok (.putfield 548, 3) := by decide +kernel
theorem dX13_program_86 : decode cX13_program 86 = .ok (.aload_n 0, 1) := by decide +kernel
theorem dX13_program_87 : decode cX13_program 87 = .ok (.getfield 378, 3) := by decide +kernel
theorem dX13_program_90 : decode cX13_program 90 = .ok (.ireturn, 1) := by decide +kernel
