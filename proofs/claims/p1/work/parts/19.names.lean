abbrev cX5_words : ByteArray := prog_7_method_11_code
def yX5_words : MethodName := ⟨RX5, "words", "()I"⟩
abbrev cX5_word : ByteArray := prog_7_method_12_code
def yX5_word : MethodName := ⟨RX5, "word", "(I)I"⟩
abbrev cX10_widen : ByteArray := prog_12_method_2_code
def yX10_widen : MethodName := ⟨RX10, "widen", "(I)V"⟩
abbrev cX10_addWord : ByteArray := prog_12_method_3_code
def yX10_addWord : MethodName := ⟨RX10, "addWord", "(I)V"⟩
abbrev cX12_feed : ByteArray := prog_1_method_2_code
def yX12_feed : MethodName := ⟨RX12, "feed", "(IIIII)I"⟩
abbrev cX12_size : ByteArray := prog_1_method_17_code
def yX12_size : MethodName := ⟨RX12, "size", "(I)I"⟩
abbrev cX12_limb : ByteArray := prog_1_method_18_code
def yX12_limb : MethodName := ⟨RX12, "limb", "(II)I"⟩
abbrev cX13_feed : ByteArray := prog_15_method_4_code
def yX13_feed : MethodName := ⟨RX13, "feed", "(IIIII)I"⟩
abbrev cX13_numbersOf : ByteArray := prog_15_method_152_code
def yX13_numbersOf : MethodName := ⟨RX13, "numbersOf", "(I)I"⟩
abbrev cX13_size : ByteArray := prog_15_method_153_code
def yX13_size : MethodName := ⟨RX13, "size", "(I)I"⟩
abbrev cX13_limb : ByteArray := prog_15_method_154_code
def yX13_limb : MethodName := ⟨RX13, "limb", "(II)I"⟩
abbrev cJ7_copyOf_9075b : ByteArray := prog_34_method_121_code
def yJ7_copyOf_9075b : MethodName := ⟨RJ7, "copyOf", "([BI)[B"⟩
abbrev cL_feed : ByteArray := method_3_code
def yL_feed : MethodName := ⟨RL, "feed", "(LChanceWorks;IIIII[J)I"⟩
abbrev cL_size : ByteArray := method_16_code
def yL_size : MethodName := ⟨RL, "size", "(LChanceWorks;I[J)I"⟩
abbrev cL_limb : ByteArray := method_17_code
def yL_limb : MethodName := ⟨RL, "limb", "(LChanceWorks;II[J)I"⟩
def wsX5_bits : List Cond := .code yX5_bits cX5_bits 3 (some .int) :: ([.fieldLink RX5 25 "ChanceWorks$Num" "length" "I", .fieldLink RX5 13 "ChanceWorks$Num" "limbs" "[I"] ++ wsX50 ++ (vx_atM "java/lang/ArrayIndexOutOfBoundsException" ["java/lang/IndexOutOfBoundsException", "java/lang/RuntimeException", "java/lang/Exception"]).filter goodWord)
def wsX5_words : List Cond := .code yX5_words cX5_words 1 (some .int) :: ([.methodLink RX5 37 yX5_bits, .instanceMethod yX5_bits, .selects RX5 yX5_bits yX5_bits, .initialized RX5, .code yX5_bits cX5_bits 3 (some .int), .fieldLink RX5 25 "ChanceWorks$Num" "length" "I", .fieldLink RX5 13 "ChanceWorks$Num" "limbs" "[I"] ++ wsX50 ++ (vx_atM "java/lang/ArrayIndexOutOfBoundsException" ["java/lang/IndexOutOfBoundsException", "java/lang/RuntimeException", "java/lang/Exception"]).filter goodWord)
def wsX5_word : List Cond := .code yX5_word cX5_word 8 (some .int) :: ([.fieldLink RX5 25 "ChanceWorks$Num" "length" "I", .fieldLink RX5 13 "ChanceWorks$Num" "limbs" "[I"] ++ wsX50 ++ (vx_atM "java/lang/ArrayIndexOutOfBoundsException" ["java/lang/IndexOutOfBoundsException", "java/lang/RuntimeException", "java/lang/Exception"]).filter goodWord)
def wsJ7_copyOf_9075b : List Cond := .code yJ7_copyOf_9075b cJ7_copyOf_9075b 3 (some (.array .byte)) :: ([.methodLink RJ7 310 ⟨"[B", "clone", "()Ljava/lang/Object;"⟩, .sameMethod "[B" "java/lang/Object" "clone" "()Ljava/lang/Object;", .native ⟨"java/lang/Object", "clone", "()Ljava/lang/Object;"⟩, .instanceMethod ⟨"java/lang/Object", "clone", "()Ljava/lang/Object;"⟩, .selects "[B" ⟨"[B", "clone", "()Ljava/lang/Object;"⟩ ⟨"java/lang/Object", "clone", "()Ljava/lang/Object;"⟩, .classLink RJ7 311 "[B", .arrayClass .byte, .methodLink RJ7 304 Lib.Math.min.name, .static Lib.Math.min.name, .initialized "java/lang/Math", .code Lib.Math.min.name Lib.Math.min.code 2 (some .int), .methodLink RJ7 150 arraycopyName, .native arraycopyName, .static arraycopyName, .initialized "java/lang/System"])
def wsX10_widen : List Cond := .code yX10_widen cX10_widen 2 none :: ([.fieldLink RX10 9 "ChanceWorks$Tape" "bytes" "[B", .methodLink RX10 25 yJ7_copyOf_9075b, .static yJ7_copyOf_9075b, .initialized RJ7, .code yJ7_copyOf_9075b cJ7_copyOf_9075b 3 (some (.array .byte)), .methodLink RJ7 310 ⟨"[B", "clone", "()Ljava/lang/Object;"⟩, .sameMethod "[B" "java/lang/Object" "clone" "()Ljava/lang/Object;", .native ⟨"java/lang/Object", "clone", "()Ljava/lang/Object;"⟩, .instanceMethod ⟨"java/lang/Object", "clone", "()Ljava/lang/Object;"⟩, .selects "[B" ⟨"[B", "clone", "()Ljava/lang/Object;"⟩ ⟨"java/lang/Object", "clone", "()Ljava/lang/Object;"⟩, .classLink RJ7 311 "[B", .arrayClass .byte, .methodLink RJ7 304 Lib.Math.min.name, .static Lib.Math.min.name, .initialized "java/lang/Math", .code Lib.Math.min.name Lib.Math.min.code 2 (some .int), .methodLink RJ7 150 arraycopyName, .native arraycopyName, .static arraycopyName, .initialized "java/lang/System"] ++ wsX100)
def wsX10_addWord : List Cond := .code yX10_addWord cX10_addWord 3 none :: ([.fieldLink RX10 31 "ChanceWorks$Tape" "length" "I", .fieldLink RX10 9 "ChanceWorks$Tape" "bytes" "[B"] ++ wsX100 ++ (vx_atM "java/lang/ArrayIndexOutOfBoundsException" ["java/lang/IndexOutOfBoundsException", "java/lang/RuntimeException", "java/lang/Exception"]).filter goodWord)
def wsX12_feed_r1 : List Cond := [Cond.classLink RX12 103 "java/lang/UnsupportedOperationException", Cond.initialized "java/lang/UnsupportedOperationException", Cond.fieldLink RX12 12 "ChanceWorks" "tape" "LChanceWorks$Tape;", Cond.fieldLink RX12 98 "ChanceWorks$Tape" "length" "I", Cond.constant RX12 102 (65536), Cond.methodLink RX12 110 yX10_widen, Cond.instanceMethod yX10_widen, Cond.selects RX10 yX10_widen yX10_widen, Cond.initialized RX10, Cond.code yX10_widen cX10_widen 2 none, Cond.fieldLink RX10 9 "ChanceWorks$Tape" "bytes" "[B", Cond.methodLink RX10 25 yJ7_copyOf_9075b, Cond.static yJ7_copyOf_9075b, Cond.initialized RJ7, Cond.code yJ7_copyOf_9075b cJ7_copyOf_9075b 3 (some (.array .byte)), Cond.methodLink RJ7 310 ⟨"[B", "clone", "()Ljava/lang/Object;"⟩, Cond.sameMethod "[B" "java/lang/Object" "clone" "()Ljava/lang/Object;", Cond.native ⟨"java/lang/Object", "clone", "()Ljava/lang/Object;"⟩, Cond.instanceMethod ⟨"java/lang/Object", "clone", "()Ljava/lang/Object;"⟩, Cond.selects "[B" ⟨"[B", "clone", "()Ljava/lang/Object;"⟩ ⟨"java/lang/Object", "clone", "()Ljava/lang/Object;"⟩, Cond.classLink RJ7 311 "[B", Cond.arrayClass .byte, Cond.methodLink RJ7 304 Lib.Math.min.name, Cond.static Lib.Math.min.name]
def wsX12_feed_r2 : List Cond := [Cond.initialized "java/lang/Math", Cond.code Lib.Math.min.name Lib.Math.min.code 2 (some .int), Cond.methodLink RJ7 150 arraycopyName, Cond.native arraycopyName, Cond.static arraycopyName, Cond.initialized "java/lang/System", Cond.methodLink RX12 114 yX10_addWord, Cond.instanceMethod yX10_addWord, Cond.selects RX10 yX10_addWord yX10_addWord, Cond.code yX10_addWord cX10_addWord 3 none, Cond.fieldLink RX10 31 "ChanceWorks$Tape" "length" "I"]
def wsX12_feed : List Cond := .code yX12_feed cX12_feed 6 (some .int) :: ((wsX12_feed_r1 ++ wsX12_feed_r2) ++ wsX120 ++ wsX100 ++ (vx_atS RX12 107 "java/lang/UnsupportedOperationException" ["java/lang/RuntimeException", "java/lang/Exception"]).filter goodWord ++ (vx_atM "java/lang/ArrayIndexOutOfBoundsException" ["java/lang/IndexOutOfBoundsException", "java/lang/RuntimeException", "java/lang/Exception"]).filter goodWord)
def wsX12_size : List Cond := .code yX12_size cX12_size 2 (some .int) :: ([.classLink RX12 153 "java/lang/IndexOutOfBoundsException", .initialized "java/lang/IndexOutOfBoundsException", .fieldLink RX12 77 "ChanceWorks" "shown" "LChanceWorks$Ratio;", .fieldLink RX12 290 "ChanceWorks$Ratio" "top" "LChanceWorks$Num;", .fieldLink RX12 299 "ChanceWorks$Ratio" "bottom" "LChanceWorks$Num;", .methodLink RX12 294 yX5_words, .instanceMethod yX5_words, .selects RX5 yX5_words yX5_words, .initialized RX5, .code yX5_words cX5_words 1 (some .int), .methodLink RX5 37 yX5_bits, .instanceMethod yX5_bits, .selects RX5 yX5_bits yX5_bits, .code yX5_bits cX5_bits 3 (some .int), .fieldLink RX5 25 "ChanceWorks$Num" "length" "I", .fieldLink RX5 13 "ChanceWorks$Num" "limbs" "[I"] ++ wsX120 ++ wsX80 ++ wsX50 ++ (vx_atS RX12 157 "java/lang/IndexOutOfBoundsException" ["java/lang/RuntimeException", "java/lang/Exception"]).filter goodWord ++ (vx_atM "java/lang/ArrayIndexOutOfBoundsException" ["java/lang/IndexOutOfBoundsException", "java/lang/RuntimeException", "java/lang/Exception"]).filter goodWord)
def wsX12_limb : List Cond := .code yX12_limb cX12_limb 4 (some .int) :: ([.classLink RX12 153 "java/lang/IndexOutOfBoundsException", .initialized "java/lang/IndexOutOfBoundsException", .fieldLink RX12 77 "ChanceWorks" "shown" "LChanceWorks$Ratio;", .fieldLink RX12 290 "ChanceWorks$Ratio" "top" "LChanceWorks$Num;", .fieldLink RX12 299 "ChanceWorks$Ratio" "bottom" "LChanceWorks$Num;", .methodLink RX12 294 yX5_words, .instanceMethod yX5_words, .selects RX5 yX5_words yX5_words, .initialized RX5, .code yX5_words cX5_words 1 (some .int), .methodLink RX5 37 yX5_bits, .instanceMethod yX5_bits, .selects RX5 yX5_bits yX5_bits, .code yX5_bits cX5_bits 3 (some .int), .fieldLink RX5 25 "ChanceWorks$Num" "length" "I", .fieldLink RX5 13 "ChanceWorks$Num" "limbs" "[I", .methodLink RX12 304 yX5_word, .instanceMethod yX5_word, .selects RX5 yX5_word yX5_word, .code yX5_word cX5_word 8 (some .int)] ++ wsX120 ++ wsX80 ++ wsX50 ++ (vx_atS RX12 157 "java/lang/IndexOutOfBoundsException" ["java/lang/RuntimeException", "java/lang/Exception"]).filter goodWord ++ (vx_atM "java/lang/ArrayIndexOutOfBoundsException" ["java/lang/IndexOutOfBoundsException", "java/lang/RuntimeException", "java/lang/Exception"]).filter goodWord)
def wsX13_feed : List Cond := .code yX13_feed cX13_feed 8 (some .int) :: ([.fieldLink RX13 253 "ChanceWorksModel" "size" "I", .constant RX13 13 (65536), .fieldLink RX13 1 "ChanceWorksModel" "code" "I", .fieldLink RX13 14 "ChanceWorksModel" "tape" "[B"] ++ wsX130 ++ (vx_atM "java/lang/ArrayIndexOutOfBoundsException" ["java/lang/IndexOutOfBoundsException", "java/lang/RuntimeException", "java/lang/Exception"]).filter goodWord)
def wsX13_numbersOf : List Cond := .code yX13_numbersOf cX13_numbersOf 2 (some .int) :: ([.fieldLink RX13 821 "ChanceWorksModel" "isShown" "Z", .fieldLink RX13 188 "ChanceWorksModel" "lengths" "[I"] ++ wsX130 ++ (vx_atM "java/lang/ArrayIndexOutOfBoundsException" ["java/lang/IndexOutOfBoundsException", "java/lang/RuntimeException", "java/lang/Exception"]).filter goodWord)
def wsX13_size : List Cond := .code yX13_size cX13_size 2 (some .int) :: ([.fieldLink RX13 1 "ChanceWorksModel" "code" "I", .methodLink RX13 362 yX13_within, .static yX13_within, .initialized RX13, .code yX13_within cX13_within 3 (some .boolean), .methodLink RX13 824 yX13_numbersOf, .instanceMethod yX13_numbersOf, .selects RX13 yX13_numbersOf yX13_numbersOf, .code yX13_numbersOf cX13_numbersOf 2 (some .int), .fieldLink RX13 821 "ChanceWorksModel" "isShown" "Z", .fieldLink RX13 188 "ChanceWorksModel" "lengths" "[I"] ++ wsX130 ++ (vx_atM "java/lang/ArrayIndexOutOfBoundsException" ["java/lang/IndexOutOfBoundsException", "java/lang/RuntimeException", "java/lang/Exception"]).filter goodWord)
def wsX13_limb : List Cond := .code yX13_limb cX13_limb 5 (some .int) :: ([.fieldLink RX13 1 "ChanceWorksModel" "code" "I", .fieldLink RX13 821 "ChanceWorksModel" "isShown" "Z", .constant RX13 676 (40000), .fieldLink RX13 188 "ChanceWorksModel" "lengths" "[I", .fieldLink RX13 185 "ChanceWorksModel" "big" "[I", .methodLink RX13 362 yX13_within, .static yX13_within, .initialized RX13, .code yX13_within cX13_within 3 (some .boolean), .methodLink RX13 824 yX13_numbersOf, .instanceMethod yX13_numbersOf, .selects RX13 yX13_numbersOf yX13_numbersOf, .code yX13_numbersOf cX13_numbersOf 2 (some .int)] ++ wsX130 ++ (vx_atM "java/lang/ArrayIndexOutOfBoundsException" ["java/lang/IndexOutOfBoundsException", "java/lang/RuntimeException", "java/lang/Exception"]).filter goodWord)
def wsL_feed_r1 : List Cond := [Cond.classLink RL 13 "java/lang/UnsupportedOperationException", Cond.methodLink RL 7 yX12_feed, Cond.instanceMethod yX12_feed, Cond.selects RX12 yX12_feed yX12_feed, Cond.initialized RX12, Cond.code yX12_feed cX12_feed 6 (some .int), Cond.classLink RX12 103 "java/lang/UnsupportedOperationException", Cond.initialized "java/lang/UnsupportedOperationException", Cond.fieldLink RX12 12 "ChanceWorks" "tape" "LChanceWorks$Tape;", Cond.fieldLink RX12 98 "ChanceWorks$Tape" "length" "I", Cond.constant RX12 102 (65536), Cond.methodLink RX12 110 yX10_widen, Cond.instanceMethod yX10_widen, Cond.selects RX10 yX10_widen yX10_widen, Cond.initialized RX10, Cond.code yX10_widen cX10_widen 2 none, Cond.fieldLink RX10 9 "ChanceWorks$Tape" "bytes" "[B", Cond.methodLink RX10 25 yJ7_copyOf_9075b, Cond.static yJ7_copyOf_9075b, Cond.initialized RJ7, Cond.code yJ7_copyOf_9075b cJ7_copyOf_9075b 3 (some (.array .byte)), Cond.methodLink RJ7 310 ⟨"[B", "clone", "()Ljava/lang/Object;"⟩, Cond.sameMethod "[B" "java/lang/Object" "clone" "()Ljava/lang/Object;", Cond.native ⟨"java/lang/Object", "clone", "()Ljava/lang/Object;"⟩]
def wsL_feed_r2 : List Cond := [Cond.instanceMethod ⟨"java/lang/Object", "clone", "()Ljava/lang/Object;"⟩, Cond.selects "[B" ⟨"[B", "clone", "()Ljava/lang/Object;"⟩ ⟨"java/lang/Object", "clone", "()Ljava/lang/Object;"⟩, Cond.classLink RJ7 311 "[B", Cond.arrayClass .byte, Cond.methodLink RJ7 304 Lib.Math.min.name, Cond.static Lib.Math.min.name, Cond.initialized "java/lang/Math", Cond.code Lib.Math.min.name Lib.Math.min.code 2 (some .int), Cond.methodLink RJ7 150 arraycopyName, Cond.native arraycopyName, Cond.static arraycopyName, Cond.initialized "java/lang/System", Cond.methodLink RX12 114 yX10_addWord, Cond.instanceMethod yX10_addWord, Cond.selects RX10 yX10_addWord yX10_addWord, Cond.code yX10_addWord cX10_addWord 3 none, Cond.fieldLink RX10 31 "ChanceWorks$Tape" "length" "I"]
def wsL_feed : List Cond := .codeWith yL_feed cL_feed 8 (some .int) [(0, 16, 19, 13)] :: ((wsL_feed_r1 ++ wsL_feed_r2) ++ wsX120 ++ wsX100 ++ (vx_atM "java/lang/ArrayIndexOutOfBoundsException" ["java/lang/IndexOutOfBoundsException", "java/lang/RuntimeException", "java/lang/Exception"]).filter goodWord ++ (vx_atS RX12 107 "java/lang/UnsupportedOperationException" ["java/lang/RuntimeException", "java/lang/Exception"]).filter goodWord)
def wsL_size : List Cond := .codeWith yL_size cL_size 4 (some .int) [(0, 9, 12, 25)] :: ([.classLink RL 25 "java/lang/IndexOutOfBoundsException", .methodLink RL 62 yX12_size, .instanceMethod yX12_size, .selects RX12 yX12_size yX12_size, .initialized RX12, .code yX12_size cX12_size 2 (some .int), .classLink RX12 153 "java/lang/IndexOutOfBoundsException", .initialized "java/lang/IndexOutOfBoundsException", .fieldLink RX12 77 "ChanceWorks" "shown" "LChanceWorks$Ratio;", .fieldLink RX12 290 "ChanceWorks$Ratio" "top" "LChanceWorks$Num;", .fieldLink RX12 299 "ChanceWorks$Ratio" "bottom" "LChanceWorks$Num;", .methodLink RX12 294 yX5_words, .instanceMethod yX5_words, .selects RX5 yX5_words yX5_words, .initialized RX5, .code yX5_words cX5_words 1 (some .int), .methodLink RX5 37 yX5_bits, .instanceMethod yX5_bits, .selects RX5 yX5_bits yX5_bits, .code yX5_bits cX5_bits 3 (some .int), .fieldLink RX5 25 "ChanceWorks$Num" "length" "I", .fieldLink RX5 13 "ChanceWorks$Num" "limbs" "[I"] ++ wsX120 ++ wsX80 ++ wsX50 ++ (vx_atM "java/lang/ArrayIndexOutOfBoundsException" ["java/lang/IndexOutOfBoundsException", "java/lang/RuntimeException", "java/lang/Exception"]).filter goodWord ++ (vx_atS RX12 157 "java/lang/IndexOutOfBoundsException" ["java/lang/RuntimeException", "java/lang/Exception"]).filter goodWord)
def wsL_limb_r1 : List Cond := [Cond.classLink RL 25 "java/lang/IndexOutOfBoundsException", Cond.methodLink RL 65 yX12_limb, Cond.instanceMethod yX12_limb, Cond.selects RX12 yX12_limb yX12_limb, Cond.initialized RX12, Cond.code yX12_limb cX12_limb 4 (some .int), Cond.classLink RX12 153 "java/lang/IndexOutOfBoundsException", Cond.initialized "java/lang/IndexOutOfBoundsException", Cond.fieldLink RX12 77 "ChanceWorks" "shown" "LChanceWorks$Ratio;", Cond.fieldLink RX12 290 "ChanceWorks$Ratio" "top" "LChanceWorks$Num;", Cond.fieldLink RX12 299 "ChanceWorks$Ratio" "bottom" "LChanceWorks$Num;", Cond.methodLink RX12 294 yX5_words, Cond.instanceMethod yX5_words, Cond.selects RX5 yX5_words yX5_words, Cond.initialized RX5, Cond.code yX5_words cX5_words 1 (some .int), Cond.methodLink RX5 37 yX5_bits, Cond.instanceMethod yX5_bits, Cond.selects RX5 yX5_bits yX5_bits, Cond.code yX5_bits cX5_bits 3 (some .int), Cond.fieldLink RX5 25 "ChanceWorks$Num" "length" "I", Cond.fieldLink RX5 13 "ChanceWorks$Num" "limbs" "[I", Cond.methodLink RX12 304 yX5_word, Cond.instanceMethod yX5_word]
def wsL_limb_r2 : List Cond := [Cond.selects RX5 yX5_word yX5_word, Cond.code yX5_word cX5_word 8 (some .int)]
def wsL_limb : List Cond := .codeWith yL_limb cL_limb 5 (some .int) [(0, 10, 13, 25)] :: ((wsL_limb_r1 ++ wsL_limb_r2) ++ wsX120 ++ wsX80 ++ wsX50 ++ (vx_atM "java/lang/ArrayIndexOutOfBoundsException" ["java/lang/IndexOutOfBoundsException", "java/lang/RuntimeException", "java/lang/Exception"]).filter goodWord ++ (vx_atS RX12 157 "java/lang/IndexOutOfBoundsException" ["java/lang/RuntimeException", "java/lang/Exception"]).filter goodWord)
theorem dX5_bits_0 : decode cX5_bits 0 = .ok (.aload_n 0, 1) := by decide +kernel
theorem dX5_bits_1 : decode cX5_bits 1 = .ok (.getfield 25, 3) := by decide +kernel
theorem dX5_bits_4 : decode cX5_bits 4 = .ok (.ifCond .le 15, 3) := by decide +kernel
theorem dX5_bits_7 : decode cX5_bits 7 = .ok (.aload_n 0, 1) := by decide +kernel
theorem dX5_bits_8 : decode cX5_bits 8 = .ok (.getfield 25, 3) := by decide +kernel
theorem dX5_bits_11 : decode cX5_bits 11 = .ok (.iconst 1, 1) := by decide +kernel
theorem dX5_bits_12 : decode cX5_bits 12 = .ok (.isub, 1) := by decide +kernel
theorem dX5_bits_13 : decode cX5_bits 13 = .ok (.bipush 31, 2) := by decide +kernel
theorem dX5_bits_15 : decode cX5_bits 15 = .ok (.imul, 1) := by decide +kernel
theorem dX5_bits_16 : decode cX5_bits 16 = .ok (.goto 4, 3) := by decide +kernel
theorem dX5_bits_19 : decode cX5_bits 19 = .ok (.iconst 0, 1) := by decide +kernel
theorem dX5_bits_20 : decode cX5_bits 20 = .ok (.istore_n 1, 1) := by decide +kernel
theorem dX5_bits_21 : decode cX5_bits 21 = .ok (.aload_n 0, 1) := by decide +kernel
theorem dX5_bits_22 : decode cX5_bits 22 = .ok (.getfield 25, 3) := by decide +kernel
theorem dX5_bits_25 : decode cX5_bits 25 = .ok (.ifCond .le 17, 3) := by decide +kernel
theorem dX5_bits_28 : decode cX5_bits 28 = .ok (.aload_n 0, 1) := by decide +kernel
theorem dX5_bits_29 : decode cX5_bits 29 = .ok (.getfield 13, 3) := by decide +kernel
theorem dX5_bits_32 : decode cX5_bits 32 = .ok (.aload_n 0, 1) := by decide +kernel
theorem dX5_bits_33 : decode cX5_bits 33 = .ok (.getfield 25, 3) := by decide +kernel
theorem dX5_bits_36 : decode cX5_bits 36 = .ok (.iconst 1, 1) := by decide +kernel
theorem dX5_bits_37 : decode cX5_bits 37 = .ok (.isub, 1) := by decide +kernel
theorem dX5_bits_38 : decode cX5_bits 38 = .ok (.iaload, 1) := by decide +kernel
theorem dX5_bits_39 : decode cX5_bits 39 = .ok (.goto 4, 3) := by decide +kernel
theorem dX5_bits_42 : decode cX5_bits 42 = .ok (.iconst 0, 1) := by decide +kernel
theorem dX5_bits_43 : decode cX5_bits 43 = .ok (.istore_n 2, 1) := by decide +kernel
theorem dX5_bits_44 : decode cX5_bits 44 = .ok (.iload_n 2, 1) := by decide +kernel
theorem dX5_bits_45 : decode cX5_bits 45 = .ok (.ifCond .le 13, 3) := by decide +kernel
theorem dX5_bits_48 : decode cX5_bits 48 = .ok (.iinc 1 1, 3) := by decide +kernel
theorem dX5_bits_51 : decode cX5_bits 51 = .ok (.iload_n 2, 1) := by decide +kernel
theorem dX5_bits_52 : decode cX5_bits 52 = .ok (.iconst 1, 1) := by decide +kernel
theorem dX5_bits_53 : decode cX5_bits 53 = .ok (.ishr, 1) := by decide +kernel
theorem dX5_bits_54 : decode cX5_bits 54 = .ok (.istore_n 2, 1) := by decide +kernel
theorem dX5_bits_55 : decode cX5_bits 55 = .ok (.goto (-11), 3) := by decide +kernel
theorem dX5_bits_58 : decode cX5_bits 58 = .ok (.iload_n 1, 1) := by decide +kernel
theorem dX5_bits_59 : decode cX5_bits 59 = .ok (.ireturn, 1) := by decide +kernel
set_option maxRecDepth 20000 in
theorem ggX5_words_X5_bits : GoodIn wsX5_words wsX5_bits := goodIn_ca (goodIn_r _ [5, 6, 7, 8, 9] (by decide +kernel) (by decide +kernel)) (goodIn_sub (fun _ h => List.mem_cons_of_mem _ (List.mem_append_right _ h)) (by decide +kernel))
set_option maxRecDepth 20000 in
theorem gX5_words_X5_bits : GoodIn wsX5_words (wsV RX5 37 RX5 yX5_bits wsX5_bits) := goodIn_app (goodIn_of _ (by decide +kernel)) ggX5_words_X5_bits
theorem dX5_words_0 : decode cX5_words 0 = .ok (.aload_n 0, 1) := by decide +kernel
theorem dX5_words_1 : decode cX5_words 1 = .ok (.invokevirtual 37, 3) := by decide +kernel
theorem dX5_words_4 : decode cX5_words 4 = .ok (.bipush 31, 2) := by decide +kernel
theorem dX5_words_6 : decode cX5_words 6 = .ok (.iadd, 1) := by decide +kernel
theorem dX5_words_7 : decode cX5_words 7 = .ok (.bipush 32, 2) := by decide +kernel
theorem dX5_words_9 : decode cX5_words 9 = .ok (.idiv, 1) := by decide +kernel
theorem dX5_words_10 : decode cX5_words 10 = .ok (.ireturn, 1) := by decide +kernel
theorem dX5_word_0 : decode cX5_word 0 = .ok (.iload_n 1, 1) := by decide +kernel
theorem dX5_word_1 : decode cX5_word 1 = .ok (.bipush 32, 2) := by decide +kernel
theorem dX5_word_3 : decode cX5_word 3 = .ok (.imul, 1) := by decide +kernel
theorem dX5_word_4 : decode cX5_word 4 = .ok (.bipush 31, 2) := by decide +kernel
theorem dX5_word_6 : decode cX5_word 6 = .ok (.idiv, 1) := by decide +kernel
theorem dX5_word_7 : decode cX5_word 7 = .ok (.istore_n 2, 1) := by decide +kernel
theorem dX5_word_8 : decode cX5_word 8 = .ok (.iload_n 1, 1) := by decide +kernel
theorem dX5_word_9 : decode cX5_word 9 = .ok (.bipush 32, 2) := by decide +kernel
theorem dX5_word_11 : decode cX5_word 11 = .ok (.imul, 1) := by decide +kernel
theorem dX5_word_12 : decode cX5_word 12 = .ok (.bipush 31, 2) := by decide +kernel
theorem dX5_word_14 : decode cX5_word 14 = .ok (.irem, 1) := by decide +kernel
theorem dX5_word_15 : decode cX5_word 15 = .ok (.istore_n 3, 1) := by decide +kernel
theorem dX5_word_16 : decode cX5_word 16 = .ok (.iload_n 2, 1) := by decide +kernel
theorem dX5_word_17 : decode cX5_word 17 = .ok (.ifCond .lt 21, 3) := by decide +kernel
theorem dX5_word_20 : decode cX5_word 20 = .ok (.iload_n 2, 1) := by decide +kernel
theorem dX5_word_21 : decode cX5_word 21 = .ok (.aload_n 0, 1) := by decide +kernel
theorem dX5_word_22 : decode cX5_word 22 = .ok (.getfield 25, 3) := by decide +kernel
theorem dX5_word_25 : decode cX5_word 25 = .ok (.if_icmp .ge 13, 3) := by decide +kernel
theorem dX5_word_28 : decode cX5_word 28 = .ok (.aload_n 0, 1) := by decide +kernel
theorem dX5_word_29 : decode cX5_word 29 = .ok (.getfield 13, 3) := by decide +kernel
theorem dX5_word_32 : decode cX5_word 32 = .ok (.iload_n 2, 1) := by decide +kernel
theorem dX5_word_33 : decode cX5_word 33 = .ok (.iaload, 1) := by decide +kernel
theorem dX5_word_34 : decode cX5_word 34 = .ok (.i2l, 1) := by decide +kernel
theorem dX5_word_35 : decode cX5_word 35 = .ok (.goto 4, 3) := by decide +kernel
theorem dX5_word_38 : decode cX5_word 38 = .ok (.lconst 0, 1) := by decide +kernel
theorem dX5_word_39 : decode cX5_word 39 = .ok (.lstore 4, 2) := by decide +kernel
theorem dX5_word_41 : decode cX5_word 41 = .ok (.iload_n 2, 1) := by decide +kernel
theorem dX5_word_42 : decode cX5_word 42 = .ok (.iconst 1, 1) := by decide +kernel
theorem dX5_word_43 : decode cX5_word 43 = .ok (.iadd, 1) := by decide +kernel
theorem dX5_word_44 : decode cX5_word 44 = .ok (.ifCond .lt 25, 3) := by decide +kernel
theorem dX5_word_47 : decode cX5_word 47 = .ok (.iload_n 2, 1) := by decide +kernel
theorem dX5_word_48 : decode cX5_word 48 = .ok (.iconst 1, 1) := by decide +kernel
theorem dX5_word_49 : decode cX5_word 49 = .ok (.iadd, 1) := by decide +kernel
theorem dX5_word_50 : decode cX5_word 50 = .ok (.aload_n 0, 1) := by decide +kernel
theorem dX5_word_51 : decode cX5_word 51 = .ok (.getfield 25, 3) := by decide +kernel
theorem dX5_word_54 : decode cX5_word 54 = .ok (.if_icmp .ge 15, 3) := by decide +kernel
theorem dX5_word_57 : decode cX5_word 57 = .ok (.aload_n 0, 1) := by decide +kernel
theorem dX5_word_58 : decode cX5_word 58 = .ok (.getfield 13, 3) := by decide +kernel
theorem dX5_word_61 : decode cX5_word 61 = .ok (.iload_n 2, 1) := by decide +kernel
theorem dX5_word_62 : decode cX5_word 62 = .ok (.iconst 1, 1) := by decide +kernel
theorem dX5_word_63 : decode cX5_word 63 = .ok (.iadd, 1) := by decide +kernel
theorem dX5_word_64 : decode cX5_word 64 = .ok (.iaload, 1) := by decide +kernel
theorem dX5_word_65 : decode cX5_word 65 = .ok (.i2l, 1) := by decide +kernel
theorem dX5_word_66 : decode cX5_word 66 = .ok (.goto 4, 3) := by decide +kernel
theorem dX5_word_69 : decode cX5_word 69 = .ok (.lconst 0, 1) := by decide +kernel
theorem dX5_word_70 : decode cX5_word 70 = .ok (.lstore 6, 2) := by decide +kernel
theorem dX5_word_72 : decode cX5_word 72 = .ok (.lload 4, 2) := by decide +kernel
theorem dX5_word_74 : decode cX5_word 74 = .ok (.iload_n 3, 1) := by decide +kernel
theorem dX5_word_75 : decode cX5_word 75 = .ok (.lushr, 1) := by decide +kernel
theorem dX5_word_76 : decode cX5_word 76 = .ok (.lload 6, 2) := by decide +kernel
theorem dX5_word_78 : decode cX5_word 78 = .ok (.bipush 31, 2) := by decide +kernel
theorem dX5_word_80 : decode cX5_word 80 = .ok (.iload_n 3, 1) := by decide +kernel
theorem dX5_word_81 : decode cX5_word 81 = .ok (.isub, 1) := by decide +kernel
theorem dX5_word_82 : decode cX5_word 82 = .ok (.lshl, 1) := by decide +kernel
theorem dX5_word_83 : decode cX5_word 83 = .ok (.lor, 1) := by decide +kernel
theorem dX5_word_84 : decode cX5_word 84 = .ok (.l2i, 1) := by decide +kernel
theorem dX5_word_85 : decode cX5_word 85 = .ok (.ireturn, 1) := by decide +kernel
set_option maxRecDepth 20000 in
theorem ggX10_widen_J7_copyOf_9075b : GoodIn wsX10_widen wsJ7_copyOf_9075b := goodIn_r _ [5, 6, 7, 8, 9, 10, 11, 12, 13, 14, 15, 16, 17, 18, 19, 20] (by decide +kernel) (by decide +kernel)
set_option maxRecDepth 20000 in
theorem gX10_widen_J7_copyOf_9075b : GoodIn wsX10_widen (va_wsS RX10 25 yJ7_copyOf_9075b wsJ7_copyOf_9075b) := goodIn_app (goodIn_of _ (by decide +kernel)) ggX10_widen_J7_copyOf_9075b
theorem dX10_widen_0 : decode cX10_widen 0 = .ok (.iload_n 1, 1) := by decide +kernel
theorem dX10_widen_1 : decode cX10_widen 1 = .ok (.aload_n 0, 1) := by decide +kernel
theorem dX10_widen_2 : decode cX10_widen 2 = .ok (.getfield 9, 3) := by decide +kernel
theorem dX10_widen_5 : decode cX10_widen 5 = .ok (.arraylength, 1) := by decide +kernel
theorem dX10_widen_6 : decode cX10_widen 6 = .ok (.if_icmp .le 17, 3) := by decide +kernel
theorem dX10_widen_9 : decode cX10_widen 9 = .ok (.aload_n 0, 1) := by decide +kernel
theorem dX10_widen_10 : decode cX10_widen 10 = .ok (.aload_n 0, 1) := by decide +kernel
theorem dX10_widen_11 : decode cX10_widen 11 = .ok (.getfield 9, 3) := by decide +kernel
theorem dX10_widen_14 : decode cX10_widen 14 = .ok (.iload_n 1, 1) := by decide +kernel
theorem dX10_widen_15 : decode cX10_widen 15 = .ok (.iconst 2, 1) := by decide +kernel
theorem dX10_widen_16 : decode cX10_widen 16 = .ok (.imul, 1) := by decide +kernel
theorem dX10_widen_17 : decode cX10_widen 17 = .ok (.invokestatic 25, 3) := by decide +kernel
theorem dX10_widen_20 : decode cX10_widen 20 = .ok (.putfield 9, 3) := by decide +kernel
theorem dX10_widen_23 : decode cX10_widen 23 = .ok (.return_, 1) := by decide +kernel
theorem dX10_addWord_0 : decode cX10_addWord 0 = .ok (.bipush 24, 2) := by decide +kernel
theorem dX10_addWord_2 : decode cX10_addWord 2 = .ok (.istore_n 2, 1) := by decide +kernel
theorem dX10_addWord_3 : decode cX10_addWord 3 = .ok (.iload_n 2, 1) := by decide +kernel
theorem dX10_addWord_4 : decode cX10_addWord 4 = .ok (.ifCond .lt 44, 3) := by decide +kernel
theorem dX10_addWord_7 : decode cX10_addWord 7 = .ok (.aload_n 0, 1) := by decide +kernel
theorem dX10_addWord_8 : decode cX10_addWord 8 = .ok (.getfield 31, 3) := by decide +kernel
theorem dX10_addWord_11 : decode cX10_addWord 11 = .ok (.aload_n 0, 1) := by decide +kernel
theorem dX10_addWord_12 : decode cX10_addWord 12 = .ok (.getfield 9, 3) := by decide +kernel
theorem dX10_addWord_15 : decode cX10_addWord 15 = .ok (.arraylength, 1) := by decide +kernel
theorem dX10_addWord_16 : decode cX10_addWord 16 = .ok (.if_icmp .ge 32, 3) := by decide +kernel
theorem dX10_addWord_19 : decode cX10_addWord 19 = .ok (.aload_n 0, 1) := by decide +kernel
theorem dX10_addWord_20 : decode cX10_addWord 20 = .ok (.getfield 9, 3) := by decide +kernel
theorem dX10_addWord_23 : decode cX10_addWord 23 = .ok (.aload_n 0, 1) := by decide +kernel
theorem dX10_addWord_24 : decode cX10_addWord 24 = .ok (.getfield 31, 3) := by decide +kernel
theorem dX10_addWord_27 : decode cX10_addWord 27 = .ok (.iload_n 1, 1) := by decide +kernel
theorem dX10_addWord_28 : decode cX10_addWord 28 = .ok (.iload_n 2, 1) := by decide +kernel
theorem dX10_addWord_29 : decode cX10_addWord 29 = .ok (.ishr, 1) := by decide +kernel
theorem dX10_addWord_30 : decode cX10_addWord 30 = .ok (.i2b, 1) := by decide +kernel
theorem dX10_addWord_31 : decode cX10_addWord 31 = .ok (.bastore, 1) := by decide +kernel
theorem dX10_addWord_32 : decode cX10_addWord 32 = .ok (.aload_n 0, 1) := by decide +kernel
theorem dX10_addWord_33 : decode cX10_addWord 33 = .ok (.dup, 1) := by decide +kernel
theorem dX10_addWord_34 : decode cX10_addWord 34 = .ok (.getfield 31, 3) := by decide +kernel
theorem dX10_addWord_37 : decode cX10_addWord 37 = .ok (.iconst 1, 1) := by decide +kernel
theorem dX10_addWord_38 : decode cX10_addWord 38 = .ok (.iadd, 1) := by decide +kernel
theorem dX10_addWord_39 : decode cX10_addWord 39 = .ok (.putfield 31, 3) := by decide +kernel
theorem dX10_addWord_42 : decode cX10_addWord 42 = .ok (.iinc 2 (-8), 3) := by decide +kernel
theorem dX10_addWord_45 : decode cX10_addWord 45 = .ok (.goto (-42), 3) := by decide +kernel
theorem dX10_addWord_48 : decode cX10_addWord 48 = .ok (.return_, 1) := by decide +kernel
set_option maxRecDepth 20000 in
theorem ggX12_feed_X10_widen : GoodIn wsX12_feed wsX10_widen := goodIn_r _ [10, 11, 12, 13, 14, 15, 16, 17, 18, 19, 20, 21, 22, 23, 24, 25, 26, 27, 28, 29, 30, 54, 55, 56, 57, 58, 59] (by decide +kernel) (by decide +kernel)
set_option maxRecDepth 20000 in
theorem gX12_feed_X10_widen : GoodIn wsX12_feed (wsV RX12 110 RX10 yX10_widen wsX10_widen) := goodIn_app (goodIn_of _ (by decide +kernel)) ggX12_feed_X10_widen
set_option maxRecDepth 20000 in
theorem ggX12_feed_X10_addWord : GoodIn wsX12_feed wsX10_addWord := goodIn_ca (goodIn_r _ [34, 35, 11, 54, 55, 56, 57, 58, 59] (by decide +kernel) (by decide +kernel)) (goodIn_sub (fun _ h => List.mem_cons_of_mem _ (List.mem_append_right _ h)) (by decide +kernel))
set_option maxRecDepth 20000 in
theorem gX12_feed_X10_addWord : GoodIn wsX12_feed (wsV RX12 114 RX10 yX10_addWord wsX10_addWord) := goodIn_app (goodIn_of _ (by decide +kernel)) ggX12_feed_X10_addWord
theorem dX12_feed_0 : decode cX12_feed 0 = .ok (.aload_n 0, 1) := by decide +kernel
theorem dX12_feed_1 : decode cX12_feed 1 = .ok (.getfield 12, 3) := by decide +kernel
theorem dX12_feed_4 : decode cX12_feed 4 = .ok (.getfield 98, 3) := by decide +kernel
theorem dX12_feed_7 : decode cX12_feed 7 = .ok (.bipush 20, 2) := by decide +kernel
theorem dX12_feed_9 : decode cX12_feed 9 = .ok (.iadd, 1) := by decide +kernel
theorem dX12_feed_10 : decode cX12_feed 10 = .ok (.ldc 102, 2) := by decide +kernel
theorem dX12_feed_12 : decode cX12_feed 12 = .ok (.if_icmp .le 13, 3) := by decide +kernel
theorem dX12_feed_15 : decode cX12_feed 15 = .ok (.new 103, 3) := by decide +kernel
theorem dX12_feed_18 : decode cX12_feed 18 = .ok (.dup, 1) := by decide +kernel
theorem dX12_feed_19 : decode cX12_feed 19 = .ok (.ldc 105, 2) := by decide +kernel
theorem dX12_feed_21 : decode cX12_feed 21 = .ok (.invokespecial 107, 3) := by decide +kernel
theorem dX12_feed_24 : decode cX12_feed 24 = .ok (.athrow, 1) := by decide +kernel
theorem dX12_feed_25 : decode cX12_feed 25 = .ok (.aload_n 0, 1) := by decide +kernel
theorem dX12_feed_26 : decode cX12_feed 26 = .ok (.getfield 12, 3) := by decide +kernel
theorem dX12_feed_29 : decode cX12_feed 29 = .ok (.aload_n 0, 1) := by decide +kernel
theorem dX12_feed_30 : decode cX12_feed 30 = .ok (.getfield 12, 3) := by decide +kernel
theorem dX12_feed_33 : decode cX12_feed 33 = .ok (.getfield 98, 3) := by decide +kernel
theorem dX12_feed_36 : decode cX12_feed 36 = .ok (.bipush 20, 2) := by decide +kernel
theorem dX12_feed_38 : decode cX12_feed 38 = .ok (.iadd, 1) := by decide +kernel
theorem dX12_feed_39 : decode cX12_feed 39 = .ok (.invokevirtual 110, 3) := by decide +kernel
theorem dX12_feed_42 : decode cX12_feed 42 = .ok (.aload_n 0, 1) := by decide +kernel
theorem dX12_feed_43 : decode cX12_feed 43 = .ok (.getfield 12, 3) := by decide +kernel
theorem dX12_feed_46 : decode cX12_feed 46 = .ok (.iload_n 1, 1) := by decide +kernel
theorem dX12_feed_47 : decode cX12_feed 47 = .ok (.invokevirtual 114, 3) := by decide +kernel
theorem dX12_feed_50 : decode cX12_feed 50 = .ok (.aload_n 0, 1) := by decide +kernel
theorem dX12_feed_51 : decode cX12_feed 51 = .ok (.getfield 12, 3) := by decide +kernel
theorem dX12_feed_54 : decode cX12_feed 54 = .ok (.iload_n 2, 1) := by decide +kernel
theorem dX12_feed_55 : decode cX12_feed 55 = .ok (.invokevirtual 114, 3) := by decide +kernel
theorem dX12_feed_58 : decode cX12_feed 58 = .ok (.aload_n 0, 1) := by decide +kernel
theorem dX12_feed_59 : decode cX12_feed 59 = .ok (.getfield 12, 3) := by decide +kernel
theorem dX12_feed_62 : decode cX12_feed 62 = .ok (.iload_n 3, 1) := by decide +kernel
theorem dX12_feed_63 : decode cX12_feed 63 = .ok (.invokevirtual 114, 3) := by decide +kernel
theorem dX12_feed_66 : decode cX12_feed 66 = .ok (.aload_n 0, 1) := by decide +kernel
theorem dX12_feed_67 : decode cX12_feed 67 = .ok (.getfield 12, 3) := by decide +kernel
theorem dX12_feed_70 : decode cX12_feed 70 = .ok (.iload 4, 2) := by decide +kernel
theorem dX12_feed_72 : decode cX12_feed 72 = .ok (.invokevirtual 114, 3) := by decide +kernel
theorem dX12_feed_75 : decode cX12_feed 75 = .ok (.aload_n 0, 1) := by decide +kernel
theorem dX12_feed_76 : decode cX12_feed 76 = .ok (.getfield 12, 3) := by decide +kernel
theorem dX12_feed_79 : decode cX12_feed 79 = .ok (.iload 5, 2) := by decide +kernel
theorem dX12_feed_81 : decode cX12_feed 81 = .ok (.invokevirtual 114, 3) := by decide +kernel
theorem dX12_feed_84 : decode cX12_feed 84 = .ok (.aload_n 0, 1) := by decide +kernel
theorem dX12_feed_85 : decode cX12_feed 85 = .ok (.getfield 12, 3) := by decide +kernel
theorem dX12_feed_88 : decode cX12_feed 88 = .ok (.getfield 98, 3) := by decide +kernel
theorem dX12_feed_91 : decode cX12_feed 91 = .ok (.ireturn, 1) := by decide +kernel
set_option maxRecDepth 20000 in
theorem ggX12_size_X5_words : GoodIn wsX12_size wsX5_words := goodIn_ca (goodIn_r _ [10, 11, 12, 13, 9, 14, 15, 16, 38, 39] (by decide +kernel) (by decide +kernel)) (goodIn_sub (fun _ h => List.mem_cons_of_mem _ (List.mem_append_right _ h)) (by decide +kernel))
set_option maxRecDepth 20000 in
theorem gX12_size_X5_words : GoodIn wsX12_size (wsV RX12 294 RX5 yX5_words wsX5_words) := goodIn_app (goodIn_of _ (by decide +kernel)) ggX12_size_X5_words
theorem dX12_size_0 : decode cX12_size 0 = .ok (.iload_n 1, 1) := by decide +kernel
theorem dX12_size_1 : decode cX12_size 1 = .ok (.ifCond .lt 8, 3) := by decide +kernel
theorem dX12_size_4 : decode cX12_size 4 = .ok (.iload_n 1, 1) := by decide +kernel
theorem dX12_size_5 : decode cX12_size 5 = .ok (.iconst 1, 1) := by decide +kernel
theorem dX12_size_6 : decode cX12_size 6 = .ok (.if_icmp .le 14, 3) := by decide +kernel
theorem dX12_size_9 : decode cX12_size 9 = .ok (.new 153, 3) := by decide +kernel
theorem dX12_size_12 : decode cX12_size 12 = .ok (.dup, 1) := by decide +kernel
theorem dX12_size_13 : decode cX12_size 13 = .ok (.ldc_w 288, 3) := by decide +kernel
theorem dX12_size_16 : decode cX12_size 16 = .ok (.invokespecial 157, 3) := by decide +kernel
theorem dX12_size_19 : decode cX12_size 19 = .ok (.athrow, 1) := by decide +kernel
theorem dX12_size_20 : decode cX12_size 20 = .ok (.iload_n 1, 1) := by decide +kernel
theorem dX12_size_21 : decode cX12_size 21 = .ok (.ifCond .ne 16, 3) := by decide +kernel
theorem dX12_size_24 : decode cX12_size 24 = .ok (.aload_n 0, 1) := by decide +kernel
theorem dX12_size_25 : decode cX12_size 25 = .ok (.getfield 77, 3) := by decide +kernel
theorem dX12_size_28 : decode cX12_size 28 = .ok (.getfield 290, 3) := by decide +kernel
theorem dX12_size_31 : decode cX12_size 31 = .ok (.invokevirtual 294, 3) := by decide +kernel
theorem dX12_size_34 : decode cX12_size 34 = .ok (.goto 13, 3) := by decide +kernel
theorem dX12_size_37 : decode cX12_size 37 = .ok (.aload_n 0, 1) := by decide +kernel
theorem dX12_size_38 : decode cX12_size 38 = .ok (.getfield 77, 3) := by decide +kernel
theorem dX12_size_41 : decode cX12_size 41 = .ok (.getfield 299, 3) := by decide +kernel
theorem dX12_size_44 : decode cX12_size 44 = .ok (.invokevirtual 294, 3) := by decide +kernel
theorem dX12_size_47 : decode cX12_size 47 = .ok (.ireturn, 1) := by decide +kernel
set_option maxRecDepth 20000 in
theorem ggX12_limb_X5_words : GoodIn wsX12_limb wsX5_words := goodIn_ca (goodIn_r _ [10, 11, 12, 13, 9, 14, 15, 16, 42, 43] (by decide +kernel) (by decide +kernel)) (goodIn_sub (fun _ h => List.mem_cons_of_mem _ (List.mem_append_right _ h)) (by decide +kernel))
set_option maxRecDepth 20000 in
theorem gX12_limb_X5_words : GoodIn wsX12_limb (wsV RX12 294 RX5 yX5_words wsX5_words) := goodIn_app (goodIn_of _ (by decide +kernel)) ggX12_limb_X5_words
set_option maxRecDepth 20000 in
theorem ggX12_limb_X5_word : GoodIn wsX12_limb wsX5_word := goodIn_ca (goodIn_r _ [20, 15, 16, 42, 43] (by decide +kernel) (by decide +kernel)) (goodIn_sub (fun _ h => List.mem_cons_of_mem _ (List.mem_append_right _ h)) (by decide +kernel))
set_option maxRecDepth 20000 in
theorem gX12_limb_X5_word : GoodIn wsX12_limb (wsV RX12 304 RX5 yX5_word wsX5_word) := goodIn_app (goodIn_of _ (by decide +kernel)) ggX12_limb_X5_word
theorem dX12_limb_0 : decode cX12_limb 0 = .ok (.iload_n 1, 1) := by decide +kernel
theorem dX12_limb_1 : decode cX12_limb 1 = .ok (.ifCond .lt 8, 3) := by decide +kernel
theorem dX12_limb_4 : decode cX12_limb 4 = .ok (.iload_n 1, 1) := by decide +kernel
theorem dX12_limb_5 : decode cX12_limb 5 = .ok (.iconst 1, 1) := by decide +kernel
theorem dX12_limb_6 : decode cX12_limb 6 = .ok (.if_icmp .le 14, 3) := by decide +kernel
theorem dX12_limb_9 : decode cX12_limb 9 = .ok (.new 153, 3) := by decide +kernel
theorem dX12_limb_12 : decode cX12_limb 12 = .ok (.dup, 1) := by decide +kernel
theorem dX12_limb_13 : decode cX12_limb 13 = .ok (.ldc_w 288, 3) := by decide +kernel
theorem dX12_limb_16 : decode cX12_limb 16 = .ok (.invokespecial 157, 3) := by decide +kernel
theorem dX12_limb_19 : decode cX12_limb 19 = .ok (.athrow, 1) := by decide +kernel
theorem dX12_limb_20 : decode cX12_limb 20 = .ok (.iload_n 1, 1) := by decide +kernel
theorem dX12_limb_21 : decode cX12_limb 21 = .ok (.ifCond .ne 13, 3) := by decide +kernel
theorem dX12_limb_24 : decode cX12_limb 24 = .ok (.aload_n 0, 1) := by decide +kernel
theorem dX12_limb_25 : decode cX12_limb 25 = .ok (.getfield 77, 3) := by decide +kernel
theorem dX12_limb_28 : decode cX12_limb 28 = .ok (.getfield 290, 3) := by decide +kernel
theorem dX12_limb_31 : decode cX12_limb 31 = .ok (.goto 10, 3) := by decide +kernel
theorem dX12_limb_34 : decode cX12_limb 34 = .ok (.aload_n 0, 1) := by decide +kernel
theorem dX12_limb_35 : decode cX12_limb 35 = .ok (.getfield 77, 3) := by decide +kernel
theorem dX12_limb_38 : decode cX12_limb 38 = .ok (.getfield 299, 3) := by decide +kernel
theorem dX12_limb_41 : decode cX12_limb 41 = .ok (.astore_n 3, 1) := by decide +kernel
theorem dX12_limb_42 : decode cX12_limb 42 = .ok (.iload_n 2, 1) := by decide +kernel
theorem dX12_limb_43 : decode cX12_limb 43 = .ok (.ifCond .lt 11, 3) := by decide +kernel
theorem dX12_limb_46 : decode cX12_limb 46 = .ok (.iload_n 2, 1) := by decide +kernel
theorem dX12_limb_47 : decode cX12_limb 47 = .ok (.aload_n 3, 1) := by decide +kernel
theorem dX12_limb_48 : decode cX12_limb 48 = .ok (.invokevirtual 294, 3) := by decide +kernel
theorem dX12_limb_51 : decode cX12_limb 51 = .ok (.if_icmp .lt 14, 3) := by decide +kernel
theorem dX12_limb_54 : decode cX12_limb 54 = .ok (.new 153, 3) := by decide +kernel
theorem dX12_limb_57 : decode cX12_limb 57 = .ok (.dup, 1) := by decide +kernel
theorem dX12_limb_58 : decode cX12_limb 58 = .ok (.ldc_w 302, 3) := by decide +kernel
theorem dX12_limb_61 : decode cX12_limb 61 = .ok (.invokespecial 157, 3) := by decide +kernel
theorem dX12_limb_64 : decode cX12_limb 64 = .ok (.athrow, 1) := by decide +kernel
theorem dX12_limb_65 : decode cX12_limb 65 = .ok (.aload_n 3, 1) := by decide +kernel
theorem dX12_limb_66 : decode cX12_limb 66 = .ok (.iload_n 2, 1) := by decide +kernel
theorem dX12_limb_67 : decode cX12_limb 67 = .ok (.invokevirtual 304, 3) := by decide +kernel
theorem dX12_limb_70 : decode cX12_limb 70 = .ok (.ireturn, 1) := by decide +kernel
theorem dX13_feed_0 : decode cX13_feed 0 = .ok (.aload_n 0, 1) := by decide +kernel
theorem dX13_feed_1 : decode cX13_feed 1 = .ok (.aload_n 0, 1) := by decide +kernel
theorem dX13_feed_2 : decode cX13_feed 2 = .ok (.getfield 253, 3) := by decide +kernel
theorem dX13_feed_5 : decode cX13_feed 5 = .ok (.bipush 20, 2) := by decide +kernel
theorem dX13_feed_7 : decode cX13_feed 7 = .ok (.iadd, 1) := by decide +kernel
theorem dX13_feed_8 : decode cX13_feed 8 = .ok (.ldc 13, 2) := by decide +kernel
theorem dX13_feed_10 : decode cX13_feed 10 = .ok (.if_icmp .le 7, 3) := by decide +kernel
theorem dX13_feed_13 : decode cX13_feed 13 = .ok (.iconst 1, 1) := by decide +kernel
theorem dX13_feed_14 : decode cX13_feed 14 = .ok (.goto 4, 3) := by decide +kernel
theorem dX13_feed_17 : decode cX13_feed 17 = .ok (.iconst 0, 1) := by decide +kernel
theorem dX13_feed_18 : decode cX13_feed 18 = .ok (.putfield 1, 3) := by decide +kernel
theorem dX13_feed_21 : decode cX13_feed 21 = .ok (.aload_n 0, 1) := by decide +kernel
theorem dX13_feed_22 : decode cX13_feed 22 = .ok (.getfield 1, 3) := by decide +kernel
theorem dX13_feed_25 : decode cX13_feed 25 = .ok (.ifCond .le 5, 3) := by decide +kernel
theorem dX13_feed_28 : decode cX13_feed 28 = .ok (.iconst 0, 1) := by decide +kernel
theorem dX13_feed_29 : decode cX13_feed 29 = .ok (.ireturn, 1) := by decide +kernel
theorem dX13_feed_30 : decode cX13_feed 30 = .ok (.iconst 0, 1) := by decide +kernel
theorem dX13_feed_31 : decode cX13_feed 31 = .ok (.istore 6, 2) := by decide +kernel
theorem dX13_feed_33 : decode cX13_feed 33 = .ok (.iload 6, 2) := by decide +kernel
theorem dX13_feed_35 : decode cX13_feed 35 = .ok (.bipush 20, 2) := by decide +kernel
theorem dX13_feed_37 : decode cX13_feed 37 = .ok (.if_icmp .ge 90, 3) := by decide +kernel
theorem dX13_feed_40 : decode cX13_feed 40 = .ok (.iload 6, 2) := by decide +kernel
theorem dX13_feed_42 : decode cX13_feed 42 = .ok (.iconst 4, 1) := by decide +kernel
theorem dX13_feed_43 : decode cX13_feed 43 = .ok (.if_icmp .ge 7, 3) := by decide +kernel
theorem dX13_feed_46 : decode cX13_feed 46 = .ok (.iload_n 1, 1) := by decide +kernel
theorem dX13_feed_47 : decode cX13_feed 47 = .ok (.goto 39, 3) := by decide +kernel
theorem dX13_feed_50 : decode cX13_feed 50 = .ok (.iload 6, 2) := by decide +kernel
theorem dX13_feed_52 : decode cX13_feed 52 = .ok (.bipush 8, 2) := by decide +kernel
theorem dX13_feed_54 : decode cX13_feed 54 = .ok (.if_icmp .ge 7, 3) := by decide +kernel
theorem dX13_feed_57 : decode cX13_feed 57 = .ok (.iload_n 2, 1) := by decide +kernel
theorem dX13_feed_58 : decode cX13_feed 58 = .ok (.goto 28, 3) := by decide +kernel
theorem dX13_feed_61 : decode cX13_feed 61 = .ok (.iload 6, 2) := by decide +kernel
theorem dX13_feed_63 : decode cX13_feed 63 = .ok (.bipush 12, 2) := by decide +kernel
theorem dX13_feed_65 : decode cX13_feed 65 = .ok (.if_icmp .ge 7, 3) := by decide +kernel
theorem dX13_feed_68 : decode cX13_feed 68 = .ok (.iload_n 3, 1) := by decide +kernel
theorem dX13_feed_69 : decode cX13_feed 69 = .ok (.goto 17, 3) := by decide +kernel
theorem dX13_feed_72 : decode cX13_feed 72 = .ok (.iload 6, 2) := by decide +kernel
theorem dX13_feed_74 : decode cX13_feed 74 = .ok (.bipush 16, 2) := by decide +kernel
theorem dX13_feed_76 : decode cX13_feed 76 = .ok (.if_icmp .ge 8, 3) := by decide +kernel
theorem dX13_feed_79 : decode cX13_feed 79 = .ok (.iload 4, 2) := by decide +kernel
theorem dX13_feed_81 : decode cX13_feed 81 = .ok (.goto 5, 3) := by decide +kernel
theorem dX13_feed_84 : decode cX13_feed 84 = .ok (.iload 5, 2) := by decide +kernel
theorem dX13_feed_86 : decode cX13_feed 86 = .ok (.istore 7, 2) := by decide +kernel
theorem dX13_feed_88 : decode cX13_feed 88 = .ok (.aload_n 0, 1) := by decide +kernel
theorem dX13_feed_89 : decode cX13_feed 89 = .ok (.getfield 14, 3) := by decide +kernel
theorem dX13_feed_92 : decode cX13_feed 92 = .ok (.aload_n 0, 1) := by decide +kernel
theorem dX13_feed_93 : decode cX13_feed 93 = .ok (.getfield 253, 3) := by decide +kernel
theorem dX13_feed_96 : decode cX13_feed 96 = .ok (.iload 7, 2) := by decide +kernel
theorem dX13_feed_98 : decode cX13_feed 98 = .ok (.bipush 24, 2) := by decide +kernel
theorem dX13_feed_100 : decode cX13_feed 100 = .ok (.bipush 8, 2) := by decide +kernel
theorem dX13_feed_102 : decode cX13_feed 102 = .ok (.iload 6, 2) := by decide +kernel
theorem dX13_feed_104 : decode cX13_feed 104 = .ok (.iconst 3, 1) := by decide +kernel
theorem dX13_feed_105 : decode cX13_feed 105 = .ok (.iand, 1) := by decide +kernel
theorem dX13_feed_106 : decode cX13_feed 106 = .ok (.imul, 1) := by decide +kernel
theorem dX13_feed_107 : decode cX13_feed 107 = .ok (.isub, 1) := by decide +kernel
theorem dX13_feed_108 : decode cX13_feed 108 = .ok (.ishr, 1) := by decide +kernel
theorem dX13_feed_109 : decode cX13_feed 109 = .ok (.i2b, 1) := by decide +kernel
theorem dX13_feed_110 : decode cX13_feed 110 = .ok (.bastore, 1) := by decide +kernel
theorem dX13_feed_111 : decode cX13_feed 111 = .ok (.aload_n 0, 1) := by decide +kernel
theorem dX13_feed_112 : decode cX13_feed 112 = .ok (.dup, 1) := by decide +kernel
theorem dX13_feed_113 : decode cX13_feed 113 = .ok (.getfield 253, 3) := by decide +kernel
theorem dX13_feed_116 : decode cX13_feed 116 = .ok (.iconst 1, 1) := by decide +kernel
theorem dX13_feed_117 : decode cX13_feed 117 = .ok (.iadd, 1) := by decide +kernel
theorem dX13_feed_118 : decode cX13_feed 118 = .ok (.putfield 253, 3) := by decide +kernel
theorem dX13_feed_121 : decode cX13_feed 121 = .ok (.iinc 6 1, 3) := by decide +kernel
theorem dX13_feed_124 : decode cX13_feed 124 = .ok (.goto (-91), 3) := by decide +kernel
theorem dX13_feed_127 : decode cX13_feed 127 = .ok (.aload_n 0, 1) := by decide +kernel
theorem dX13_feed_128 : decode cX13_feed 128 = .ok (.getfield 253, 3) := by decide +kernel
theorem dX13_feed_131 : decode cX13_feed 131 = .ok (.ireturn, 1) := by decide +kernel
theorem dX13_numbersOf_0 : decode cX13_numbersOf 0 = .ok (.aload_n 0, 1) := by decide +kernel
theorem dX13_numbersOf_1 : decode cX13_numbersOf 1 = .ok (.getfield 821, 3) := by decide +kernel
theorem dX13_numbersOf_4 : decode cX13_numbersOf 4 = .ok (.ifCond .ne 7, 3) := by decide +kernel
theorem dX13_numbersOf_7 : decode cX13_numbersOf 7 = .ok (.iload_n 1, 1) := by decide +kernel
theorem dX13_numbersOf_8 : decode cX13_numbersOf 8 = .ok (.goto 16, 3) := by decide +kernel
theorem dX13_numbersOf_11 : decode cX13_numbersOf 11 = .ok (.aload_n 0, 1) := by decide +kernel
theorem dX13_numbersOf_12 : decode cX13_numbersOf 12 = .ok (.getfield 188, 3) := by decide +kernel
theorem dX13_numbersOf_15 : decode cX13_numbersOf 15 = .ok (.bipush 15, 2) := by decide +kernel
theorem dX13_numbersOf_17 : decode cX13_numbersOf 17 = .ok (.iload_n 1, 1) := by decide +kernel
theorem dX13_numbersOf_18 : decode cX13_numbersOf 18 = .ok (.iadd, 1) := by decide +kernel
theorem dX13_numbersOf_19 : decode cX13_numbersOf 19 = .ok (.iaload, 1) := by decide +kernel
theorem dX13_numbersOf_20 : decode cX13_numbersOf 20 = .ok (.iconst 1, 1) := by decide +kernel
theorem dX13_numbersOf_21 : decode cX13_numbersOf 21 = .ok (.iadd, 1) := by decide +kernel
theorem dX13_numbersOf_22 : decode cX13_numbersOf 22 = .ok (.iconst 2, 1) := by decide +kernel
theorem dX13_numbersOf_23 : decode cX13_numbersOf 23 = .ok (.idiv, 1) := by decide +kernel
theorem dX13_numbersOf_24 : decode cX13_numbersOf 24 = .ok (.ireturn, 1) := by decide +kernel
set_option maxRecDepth 20000 in
theorem ggX13_size_X13_within : GoodIn wsX13_size wsX13_within := goodIn_r _ [5] (by decide +kernel) (by decide +kernel)
set_option maxRecDepth 20000 in
theorem gX13_size_X13_within : GoodIn wsX13_size (va_wsS RX13 362 yX13_within wsX13_within) := goodIn_app (goodIn_of _ (by decide +kernel)) ggX13_size_X13_within
set_option maxRecDepth 20000 in
theorem ggX13_size_X13_numbersOf : GoodIn wsX13_size wsX13_numbersOf := goodIn_ca (goodIn_r _ [9, 10, 11, 12, 13, 14, 15, 16, 17, 18, 19, 20, 21, 22, 23, 24, 25, 26, 27, 28, 29, 30, 31, 32, 33, 34, 35, 36, 37, 38, 39, 40, 41, 42, 43, 44, 45, 46, 47, 48, 49, 50, 51, 52, 53, 54, 55, 56, 57, 58, 59, 60, 61, 62, 63, 64, 65, 66, 67, 68, 69, 70, 71, 72, 73, 74, 75, 76, 77, 78, 79, 80, 81, 82, 83, 84, 85, 86, 87, 88, 89, 90, 91, 92, 93, 94, 95, 96, 97, 98, 99, 100, 101, 102, 103, 104, 105, 106, 107, 108, 109, 110, 111, 112, 113, 114, 115, 116, 117, 118, 119, 120, 121, 122, 123, 124, 125, 126, 127, 128, 129, 130, 131, 132, 133, 134, 135, 136, 137] (by decide +kernel) (by decide +kernel)) (goodIn_sub (fun _ h => List.mem_cons_of_mem _ (List.mem_append_right _ h)) (by decide +kernel))
set_option maxRecDepth 20000 in
theorem gX13_size_X13_numbersOf : GoodIn wsX13_size (wsV RX13 824 RX13 yX13_numbersOf wsX13_numbersOf) := goodIn_app (goodIn_of _ (by decide +kernel)) ggX13_size_X13_numbersOf
theorem dX13_size_0 : decode cX13_size 0 = .ok (.aload_n 0, 1) := by decide +kernel
theorem dX13_size_1 : decode cX13_size 1 = .ok (.iload_n 1, 1) := by decide +kernel
theorem dX13_size_2 : decode cX13_size 2 = .ok (.iconst 0, 1) := by decide +kernel
theorem dX13_size_3 : decode cX13_size 3 = .ok (.iconst 1, 1) := by decide +kernel
theorem dX13_size_4 : decode cX13_size 4 = .ok (.invokestatic 362, 3) := by decide +kernel
theorem dX13_size_7 : decode cX13_size 7 = .ok (.ifCond .eq 7, 3) := by decide +kernel
theorem dX13_size_10 : decode cX13_size 10 = .ok (.iconst 0, 1) := by decide +kernel
theorem dX13_size_11 : decode cX13_size 11 = .ok (.goto 4, 3) := by decide +kernel
theorem dX13_size_14 : decode cX13_size 14 = .ok (.iconst 1, 1) := by decide +kernel
theorem dX13_size_15 : decode cX13_size 15 = .ok (.putfield 1, 3) := by decide +kernel
theorem dX13_size_18 : decode cX13_size 18 = .ok (.aload_n 0, 1) := by decide +kernel
theorem dX13_size_19 : decode cX13_size 19 = .ok (.getfield 1, 3) := by decide +kernel
theorem dX13_size_22 : decode cX13_size 22 = .ok (.ifCond .le 7, 3) := by decide +kernel
theorem dX13_size_25 : decode cX13_size 25 = .ok (.iconst 0, 1) := by decide +kernel
theorem dX13_size_26 : decode cX13_size 26 = .ok (.goto 8, 3) := by decide +kernel
theorem dX13_size_29 : decode cX13_size 29 = .ok (.aload_n 0, 1) := by decide +kernel
theorem dX13_size_30 : decode cX13_size 30 = .ok (.iload_n 1, 1) := by decide +kernel
theorem dX13_size_31 : decode cX13_size 31 = .ok (.invokevirtual 824, 3) := by decide +kernel
theorem dX13_size_34 : decode cX13_size 34 = .ok (.ireturn, 1) := by decide +kernel
set_option maxRecDepth 20000 in
theorem ggX13_limb_X13_within : GoodIn wsX13_limb wsX13_within := goodIn_r _ [9] (by decide +kernel) (by decide +kernel)
set_option maxRecDepth 20000 in
theorem gX13_limb_X13_within : GoodIn wsX13_limb (va_wsS RX13 362 yX13_within wsX13_within) := goodIn_app (goodIn_of _ (by decide +kernel)) ggX13_limb_X13_within
set_option maxRecDepth 20000 in
theorem ggX13_limb_X13_numbersOf : GoodIn wsX13_limb wsX13_numbersOf := goodIn_ca (goodIn_r _ [13, 2, 4, 14, 15, 16, 17, 18, 19, 20, 21, 22, 23, 24, 25, 26, 27, 28, 29, 30, 31, 32, 33, 34, 35, 36, 37, 38, 39, 40, 41, 42, 43, 44, 45, 46, 47, 48, 49, 50, 51, 52, 53, 54, 55, 56, 57, 58, 59, 60, 61, 62, 63, 64, 65, 66, 67, 68, 69, 70, 71, 72, 73, 74, 75, 76, 77, 78, 79, 80, 81, 82, 83, 84, 85, 86, 87, 88, 89, 90, 91, 92, 93, 94, 95, 96, 97, 98, 99, 100, 101, 102, 103, 104, 105, 106, 107, 108, 109, 110, 111, 112, 113, 114, 115, 116, 117, 118, 119, 120, 121, 122, 123, 124, 125, 126, 127, 128, 129, 130, 131, 132, 133, 134, 135, 136, 137, 138, 139] (by decide +kernel) (by decide +kernel)) (goodIn_sub (fun _ h => List.mem_cons_of_mem _ (List.mem_append_right _ h)) (by decide +kernel))
set_option maxRecDepth 20000 in
theorem gX13_limb_X13_numbersOf : GoodIn wsX13_limb (wsV RX13 824 RX13 yX13_numbersOf wsX13_numbersOf) := goodIn_app (goodIn_of _ (by decide +kernel)) ggX13_limb_X13_numbersOf
theorem dX13_limb_0 : decode cX13_limb 0 = .ok (.aload_n 0, 1) := by decide +kernel
theorem dX13_limb_1 : decode cX13_limb 1 = .ok (.iload_n 1, 1) := by decide +kernel
theorem dX13_limb_2 : decode cX13_limb 2 = .ok (.iconst 0, 1) := by decide +kernel
theorem dX13_limb_3 : decode cX13_limb 3 = .ok (.iconst 1, 1) := by decide +kernel
theorem dX13_limb_4 : decode cX13_limb 4 = .ok (.invokestatic 362, 3) := by decide +kernel
theorem dX13_limb_7 : decode cX13_limb 7 = .ok (.ifCond .eq 16, 3) := by decide +kernel
theorem dX13_limb_10 : decode cX13_limb 10 = .ok (.iload_n 2, 1) := by decide +kernel
theorem dX13_limb_11 : decode cX13_limb 11 = .ok (.ifCond .lt 12, 3) := by decide +kernel
theorem dX13_limb_14 : decode cX13_limb 14 = .ok (.iload_n 2, 1) := by decide +kernel
theorem dX13_limb_15 : decode cX13_limb 15 = .ok (.aload_n 0, 1) := by decide +kernel
theorem dX13_limb_16 : decode cX13_limb 16 = .ok (.iload_n 1, 1) := by decide +kernel
theorem dX13_limb_17 : decode cX13_limb 17 = .ok (.invokevirtual 824, 3) := by decide +kernel
theorem dX13_limb_20 : decode cX13_limb 20 = .ok (.if_icmp .lt 7, 3) := by decide +kernel
theorem dX13_limb_23 : decode cX13_limb 23 = .ok (.iconst 1, 1) := by decide +kernel
theorem dX13_limb_24 : decode cX13_limb 24 = .ok (.goto 4, 3) := by decide +kernel
theorem dX13_limb_27 : decode cX13_limb 27 = .ok (.iconst 0, 1) := by decide +kernel
theorem dX13_limb_28 : decode cX13_limb 28 = .ok (.putfield 1, 3) := by decide +kernel
theorem dX13_limb_31 : decode cX13_limb 31 = .ok (.aload_n 0, 1) := by decide +kernel
theorem dX13_limb_32 : decode cX13_limb 32 = .ok (.getfield 1, 3) := by decide +kernel
theorem dX13_limb_35 : decode cX13_limb 35 = .ok (.ifCond .le 5, 3) := by decide +kernel
theorem dX13_limb_38 : decode cX13_limb 38 = .ok (.iconst 0, 1) := by decide +kernel
theorem dX13_limb_39 : decode cX13_limb 39 = .ok (.ireturn, 1) := by decide +kernel
theorem dX13_limb_40 : decode cX13_limb 40 = .ok (.aload_n 0, 1) := by decide +kernel
theorem dX13_limb_41 : decode cX13_limb 41 = .ok (.getfield 821, 3) := by decide +kernel
theorem dX13_limb_44 : decode cX13_limb 44 = .ok (.ifCond .ne 5, 3) := by decide +kernel
theorem dX13_limb_47 : decode cX13_limb 47 = .ok (.iconst 1, 1) := by decide +kernel
theorem dX13_limb_48 : decode cX13_limb 48 = .ok (.ireturn, 1) := by decide +kernel
theorem dX13_limb_49 : decode cX13_limb 49 = .ok (.ldc_w 676, 3) := by decide +kernel
theorem dX13_limb_52 : decode cX13_limb 52 = .ok (.bipush 15, 2) := by decide +kernel
theorem dX13_limb_54 : decode cX13_limb 54 = .ok (.iload_n 1, 1) := by decide +kernel
theorem dX13_limb_55 : decode cX13_limb 55 = .ok (.iadd, 1) := by decide +kernel
theorem dX13_limb_56 : decode cX13_limb 56 = .ok (.imul, 1) := by decide +kernel
theorem dX13_limb_57 : decode cX13_limb 57 = .ok (.iconst 2, 1) := by decide +kernel
theorem dX13_limb_58 : decode cX13_limb 58 = .ok (.iload_n 2, 1) := by decide +kernel
theorem dX13_limb_59 : decode cX13_limb 59 = .ok (.imul, 1) := by decide +kernel
theorem dX13_limb_60 : decode cX13_limb 60 = .ok (.iadd, 1) := by decide +kernel
theorem dX13_limb_61 : decode cX13_limb 61 = .ok (.istore_n 3, 1) := by decide +kernel
theorem dX13_limb_62 : decode cX13_limb 62 = .ok (.iconst 2, 1) := by decide +kernel
theorem dX13_limb_63 : decode cX13_limb 63 = .ok (.iload_n 2, 1) := by decide +kernel
theorem dX13_limb_64 : decode cX13_limb 64 = .ok (.imul, 1) := by decide +kernel
theorem dX13_limb_65 : decode cX13_limb 65 = .ok (.iconst 1, 1) := by decide +kernel
theorem dX13_limb_66 : decode cX13_limb 66 = .ok (.iadd, 1) := by decide +kernel
theorem dX13_limb_67 : decode cX13_limb 67 = .ok (.aload_n 0, 1) := by decide +kernel
theorem dX13_limb_68 : decode cX13_limb 68 = .ok (.getfield 188, 3) := by decide +kernel
theorem dX13_limb_71 : decode cX13_limb 71 = .ok (.bipush 15, 2) := by decide +kernel
theorem dX13_limb_73 : decode cX13_limb 73 = .ok (.iload_n 1, 1) := by decide +kernel
theorem dX13_limb_74 : decode cX13_limb 74 = .ok (.iadd, 1) := by decide +kernel
theorem dX13_limb_75 : decode cX13_limb 75 = .ok (.iaload, 1) := by decide +kernel
theorem dX13_limb_76 : decode cX13_limb 76 = .ok (.if_icmp .ge 14, 3) := by decide +kernel
theorem dX13_limb_79 : decode cX13_limb 79 = .ok (.aload_n 0, 1) := by decide +kernel
theorem dX13_limb_80 : decode cX13_limb 80 = .ok (.getfield 185, 3) := by decide +kernel
theorem dX13_limb_83 : decode cX13_limb 83 = .ok (.iload_n 3, 1) := by decide +kernel
theorem dX13_limb_84 : decode cX13_limb 84 = .ok (.iconst 1, 1) := by decide +kernel
theorem dX13_limb_85 : decode cX13_limb 85 = .ok (.iadd, 1) := by decide +kernel
theorem dX13_limb_86 : decode cX13_limb 86 = .ok (.iaload, 1) := by decide +kernel
theorem dX13_limb_87 : decode cX13_limb 87 = .ok (.goto 4, 3) := by decide +kernel
theorem dX13_limb_90 : decode cX13_limb 90 = .ok (.iconst 0, 1) := by decide +kernel
theorem dX13_limb_91 : decode cX13_limb 91 = .ok (.istore 4, 2) := by decide +kernel
theorem dX13_limb_93 : decode cX13_limb 93 = .ok (.iload 4, 2) := by decide +kernel
theorem dX13_limb_95 : decode cX13_limb 95 = .ok (.bipush 16, 2) := by decide +kernel
theorem dX13_limb_97 : decode cX13_limb 97 = .ok (.ishl, 1) := by decide +kernel
theorem dX13_limb_98 : decode cX13_limb 98 = .ok (.aload_n 0, 1) := by decide +kernel
theorem dX13_limb_99 : decode cX13_limb 99 = .ok (.getfield 185, 3) := by decide +kernel
theorem dX13_limb_102 : decode cX13_limb 102 = .ok (.iload_n 3, 1) := by decide +kernel
theorem dX13_limb_103 : decode cX13_limb 103 = .ok (.iaload, 1) := by decide +kernel
theorem dX13_limb_104 : decode cX13_limb 104 = .ok (.ior, 1) := by decide +kernel
theorem dX13_limb_105 : decode cX13_limb 105 = .ok (.ireturn, 1) := by decide +kernel
set_option maxRecDepth 20000 in
theorem ggL_feed_X12_feed : GoodIn wsL_feed wsX12_feed := goodIn_ca (goodIn_ca (goodIn_r _ [6, 7, 8, 9, 10, 11, 12, 13, 14, 15, 16, 17, 18, 19, 20, 21, 22, 23, 24, 25, 26, 27, 28, 29, 30, 31, 32, 33, 34, 35, 36, 37, 38, 39, 40, 41, 42, 43, 44, 45, 46, 47, 48, 49, 50, 51, 52, 53, 54, 55, 56, 57, 58, 59, 60, 61, 62, 63, 64, 65] (by decide +kernel) (by decide +kernel)) (goodIn_sub (fun _ h => List.mem_cons_of_mem _ (List.mem_append_right _ h)) (by decide +kernel))) (goodIn_sub (fun _ h => List.mem_cons_of_mem _ (List.mem_append_left _ (List.mem_append_right _ h))) (by decide +kernel))
set_option maxRecDepth 20000 in
theorem gL_feed_X12_feed : GoodIn wsL_feed (wsV RL 7 RX12 yX12_feed wsX12_feed) := goodIn_app (goodIn_of _ (by decide +kernel)) ggL_feed_X12_feed
theorem dL_feed_0 : decode cL_feed 0 = .ok (.aload 6, 2) := by decide +kernel
theorem dL_feed_2 : decode cL_feed 2 = .ok (.iconst 0, 1) := by decide +kernel
theorem dL_feed_3 : decode cL_feed 3 = .ok (.aload_n 0, 1) := by decide +kernel
theorem dL_feed_4 : decode cL_feed 4 = .ok (.iload_n 1, 1) := by decide +kernel
theorem dL_feed_5 : decode cL_feed 5 = .ok (.iload_n 2, 1) := by decide +kernel
theorem dL_feed_6 : decode cL_feed 6 = .ok (.iload_n 3, 1) := by decide +kernel
theorem dL_feed_7 : decode cL_feed 7 = .ok (.iload 4, 2) := by decide +kernel
theorem dL_feed_9 : decode cL_feed 9 = .ok (.iload 5, 2) := by decide +kernel
theorem dL_feed_11 : decode cL_feed 11 = .ok (.invokevirtual 7, 3) := by decide +kernel
theorem dL_feed_14 : decode cL_feed 14 = .ok (.i2l, 1) := by decide +kernel
theorem dL_feed_15 : decode cL_feed 15 = .ok (.lastore, 1) := by decide +kernel
theorem dL_feed_16 : decode cL_feed 16 = .ok (.goto 7, 3) := by decide +kernel
theorem dL_feed_19 : decode cL_feed 19 = .ok (.astore 7, 2) := by decide +kernel
theorem dL_feed_21 : decode cL_feed 21 = .ok (.iconst 1, 1) := by decide +kernel
theorem dL_feed_22 : decode cL_feed 22 = .ok (.ireturn, 1) := by decide +kernel
theorem dL_feed_23 : decode cL_feed 23 = .ok (.iconst 0, 1) := by decide +kernel
theorem dL_feed_24 : decode cL_feed 24 = .ok (.ireturn, 1) := by decide +kernel
set_option maxRecDepth 20000 in
theorem ggL_size_X12_size : GoodIn wsL_size wsX12_size := goodIn_ca (goodIn_ca (goodIn_r _ [6, 7, 8, 9, 10, 11, 12, 13, 14, 15, 16, 17, 18, 19, 20, 21, 22, 23, 24, 25, 26, 27, 28, 29, 30, 31, 32, 33, 34, 35, 36, 37, 38, 39, 40, 41, 42, 43, 44, 45] (by decide +kernel) (by decide +kernel)) (goodIn_sub (fun _ h => List.mem_cons_of_mem _ (List.mem_append_right _ h)) (by decide +kernel))) (goodIn_sub (fun _ h => List.mem_cons_of_mem _ (List.mem_append_left _ (List.mem_append_right _ h))) (by decide +kernel))
set_option maxRecDepth 20000 in
theorem gL_size_X12_size : GoodIn wsL_size (wsV RL 62 RX12 yX12_size wsX12_size) := goodIn_app (goodIn_of _ (by decide +kernel)) ggL_size_X12_size
theorem dL_size_0 : decode cL_size 0 = .ok (.aload_n 2, 1) := by decide +kernel
theorem dL_size_1 : decode cL_size 1 = .ok (.iconst 0, 1) := by decide +kernel
theorem dL_size_2 : decode cL_size 2 = .ok (.aload_n 0, 1) := by decide +kernel
theorem dL_size_3 : decode cL_size 3 = .ok (.iload_n 1, 1) := by decide +kernel
theorem dL_size_4 : decode cL_size 4 = .ok (.invokevirtual 62, 3) := by decide +kernel
theorem dL_size_7 : decode cL_size 7 = .ok (.i2l, 1) := by decide +kernel
theorem dL_size_8 : decode cL_size 8 = .ok (.lastore, 1) := by decide +kernel
theorem dL_size_9 : decode cL_size 9 = .ok (.goto 6, 3) := by decide +kernel
theorem dL_size_12 : decode cL_size 12 = .ok (.astore_n 3, 1) := by decide +kernel
theorem dL_size_13 : decode cL_size 13 = .ok (.iconst 1, 1) := by decide +kernel
theorem dL_size_14 : decode cL_size 14 = .ok (.ireturn, 1) := by decide +kernel
theorem dL_size_15 : decode cL_size 15 = .ok (.iconst 0, 1) := by decide +kernel
theorem dL_size_16 : decode cL_size 16 = .ok (.ireturn, 1) := by decide +kernel
set_option maxRecDepth 20000 in
theorem ggL_limb_X12_limb : GoodIn wsL_limb wsX12_limb := goodIn_ca (goodIn_ca (goodIn_r _ [6, 7, 8, 9, 10, 11, 12, 13, 14, 15, 16, 17, 18, 19, 20, 21, 22, 23, 24, 25, 26, 27, 28, 29, 30, 31, 32, 33, 34, 35, 36, 37, 38, 39, 40, 41, 42, 43, 44, 45, 46, 47, 48, 49] (by decide +kernel) (by decide +kernel)) (goodIn_sub (fun _ h => List.mem_cons_of_mem _ (List.mem_append_right _ h)) (by decide +kernel))) (goodIn_sub (fun _ h => List.mem_cons_of_mem _ (List.mem_append_left _ (List.mem_append_right _ h))) (by decide +kernel))
set_option maxRecDepth 20000 in
theorem gL_limb_X12_limb : GoodIn wsL_limb (wsV RL 65 RX12 yX12_limb wsX12_limb) := goodIn_app (goodIn_of _ (by decide +kernel)) ggL_limb_X12_limb
theorem dL_limb_0 : decode cL_limb 0 = .ok (.aload_n 3, 1) := by decide +kernel
theorem dL_limb_1 : decode cL_limb 1 = .ok (.iconst 0, 1) := by decide +kernel
theorem dL_limb_2 : decode cL_limb 2 = .ok (.aload_n 0, 1) := by decide +kernel
theorem dL_limb_3 : decode cL_limb 3 = .ok (.iload_n 1, 1) := by decide +kernel
theorem dL_limb_4 : decode cL_limb 4 = .ok (.iload_n 2, 1) := by decide +kernel
theorem dL_limb_5 : decode cL_limb 5 = .ok (.invokevirtual 65, 3) := by decide +kernel
theorem dL_limb_8 : decode cL_limb 8 = .ok (.i2l, 1) := by decide +kernel
theorem dL_limb_9 : decode cL_limb 9 = .ok (.lastore, 1) := by decide +kernel
theorem dL_limb_10 : decode cL_limb 10 = .ok (.goto 7, 3) := by decide +kernel
theorem dL_limb_13 : decode cL_limb 13 = .ok (.astore 4, 2) := by decide +kernel
theorem dL_limb_15 : decode cL_limb 15 = .ok (.iconst 1, 1) := by decide +kernel
theorem dL_limb_16 : decode cL_limb 16 = .ok (.ireturn, 1) := by decide +kernel
theorem dL_limb_17 : decode cL_limb 17 = .ok (.iconst 0, 1) := by decide +kernel
theorem dL_limb_18 : decode cL_limb 18 = .ok (.ireturn, 1) := by decide +kernel
