abbrev cX5_bits : ByteArray := prog_7_method_10_code
def yX5_bits : MethodName := ⟨RX5, "bits", "()I"⟩
abbrev cX5_words : ByteArray := prog_7_method_11_code
def yX5_words : MethodName := ⟨RX5, "words", "()I"⟩
abbrev cX5_word : ByteArray := prog_7_method_12_code
def yX5_word : MethodName := ⟨RX5, "word", "(I)I"⟩
abbrev cX12_size : ByteArray := prog_1_method_17_code
def yX12_size : MethodName := ⟨RX12, "size", "(I)I"⟩
abbrev cX12_limb : ByteArray := prog_1_method_18_code
def yX12_limb : MethodName := ⟨RX12, "limb", "(II)I"⟩
abbrev cX13_numbersOf : ByteArray := prog_15_method_152_code
def yX13_numbersOf : MethodName := ⟨RX13, "numbersOf", "(I)I"⟩
abbrev cX13_size : ByteArray := prog_15_method_153_code
def yX13_size : MethodName := ⟨RX13, "size", "(I)I"⟩
abbrev cX13_limb : ByteArray := prog_15_method_154_code
def yX13_limb : MethodName := ⟨RX13, "limb", "(II)I"⟩
abbrev cL_size : ByteArray := method_16_code
def yL_size : MethodName := ⟨RL, "size", "(LChanceWorks;I[J)I"⟩
abbrev cL_limb : ByteArray := method_17_code
def yL_limb : MethodName := ⟨RL, "limb", "(LChanceWorks;II[J)I"⟩
theorem dX5_bits_0 : decode cX5_bits 0 = .ok (.aload_n 0, 1) := by decide +kernel
theorem dX5_bits_1 : decode cX5_bits 1 = .ok (.getfield 25, 3) := by decide +kernel
theorem dX5_bits_4 : decode cX5_bits 4 = .ok (.ifCond .le 15, 3) := by decide +kernel
theorem dX5_bits_7 : decode cX5_bits 7 = .ok (.aload_n 0, 1) := by decide +kernel
theorem dX5_bits_8 : decode cX5_bits 8 = .ok (.getfield 25, 3) := by decide +kernel
theorem dX5_bits_11 : decode cX5_bits 11 = .ok (.iconst 1, 1) := by decide +kernel
theorem dX5_bits_12 : decode cX5_bits 12 = .ok (.isub, 1) := by decide +kernel
theorem dX5_bits_13 : decode cX5_bits 13 = .ok (.bipush 31, 2) := by decide +kernel
theorem dX5_bits_15 : decode cX5_bits 15 = .ok (.imul, 1) := by decide +kernel
theorem dX5_bits_16 : decode cX5_bits 16 = .ok (.goto 4, 3) := by decide +kernel
theorem dX5_bits_19 : decode cX5_bits 19 = .ok (.iconst 0, 1) := by decide +kernel
theorem dX5_bits_20 : decode cX5_bits 20 = .ok (.istore_n 1, 1) := by decide +kernel
theorem dX5_bits_21 : decode cX5_bits 21 = .ok (.aload_n 0, 1) := by decide +kernel
theorem dX5_bits_22 : decode cX5_bits 22 = .ok (.getfield 25, 3) := by decide +kernel
theorem dX5_bits_25 : decode cX5_bits 25 = .ok (.ifCond .le 17, 3) := by decide +kernel
theorem dX5_bits_28 : decode cX5_bits 28 = .ok (.aload_n 0, 1) := by decide +kernel
theorem dX5_bits_29 : decode cX5_bits 29 = .ok (.getfield 13, 3) := by decide +kernel
theorem dX5_bits_32 : decode cX5_bits 32 = .ok (.aload_n 0, 1) := by decide +kernel
theorem dX5_bits_33 : decode cX5_bits 33 = .ok (.getfield 25, 3) := by decide +kernel
theorem dX5_bits_36 : decode cX5_bits 36 = .ok (.iconst 1, 1) := by decide +kernel
theorem dX5_bits_37 : decode cX5_bits 37 = .ok (.isub, 1) := by decide +kernel
theorem dX5_bits_38 : decode cX5_bits 38 = .ok (.iaload, 1) := by decide +kernel
theorem dX5_bits_39 : decode cX5_bits 39 = .ok (.goto 4, 3) := by decide +kernel
theorem dX5_bits_42 : decode cX5_bits 42 = .ok (.iconst 0, 1) := by decide +kernel
theorem dX5_bits_43 : decode cX5_bits 43 = .ok (.istore_n 2, 1) := by decide +kernel
theorem dX5_bits_44 : decode cX5_bits 44 = .ok (.iload_n 2, 1) := by decide +kernel
theorem dX5_bits_45 : decode cX5_bits 45 = .ok (.ifCond .le 13, 3) := by decide +kernel
theorem dX5_bits_48 : decode cX5_bits 48 = .ok (.iinc 1 1, 3) := by decide +kernel
theorem dX5_bits_51 : decode cX5_bits 51 = .ok (.iload_n 2, 1) := by decide +kernel
theorem dX5_bits_52 : decode cX5_bits 52 = .ok (.iconst 1, 1) := by decide +kernel
theorem dX5_bits_53 : decode cX5_bits 53 = .ok (.ishr, 1) := by decide +kernel
theorem dX5_bits_54 : decode cX5_bits 54 = .ok (.istore_n 2, 1) := by decide +kernel
theorem dX5_bits_55 : decode cX5_bits 55 = .ok (.goto (-11), 3) := by decide +kernel
theorem dX5_bits_58 : decode cX5_bits 58 = .ok (.iload_n 1, 1) := by decide +kernel
theorem dX5_bits_59 : decode cX5_bits 59 = .ok (.ireturn, 1) := by decide +kernel
theorem dX5_words_0 : decode cX5_words 0 = .ok (.aload_n 0, 1) := by decide +kernel
theorem dX5_words_1 : decode cX5_words 1 = .ok (.invokevirtual 37, 3) := by decide +kernel
theorem dX5_words_4 : decode cX5_words 4 = .ok (.bipush 31, 2) := by decide +kernel
theorem dX5_words_6 : decode cX5_words 6 = .ok (.iadd, 1) := by decide +kernel
theorem dX5_words_7 : decode cX5_words 7 = .ok (.bipush 32, 2) := by decide +kernel
theorem dX5_words_9 : decode cX5_words 9 = .ok (.idiv, 1) := by decide +kernel
theorem dX5_words_10 : decode cX5_words 10 = .ok (.ireturn, 1) := by decide +kernel
theorem dX5_word_0 : decode cX5_word 0 = .ok (.iload_n 1, 1) := by decide +kernel
theorem dX5_word_1 : decode cX5_word 1 = .ok (.bipush 32, 2) := by decide +kernel
theorem dX5_word_3 : decode cX5_word 3 = .ok (.imul, 1) := by decide +kernel
theorem dX5_word_4 : decode cX5_word 4 = .ok (.bipush 31, 2) := by decide +kernel
theorem dX5_word_6 : decode cX5_word 6 = .ok (.idiv, 1) := by decide +kernel
theorem dX5_word_7 : decode cX5_word 7 = .ok (.istore_n 2, 1) := by decide +kernel
theorem dX5_word_8 : decode cX5_word 8 = .ok (.iload_n 1, 1) := by decide +kernel
theorem dX5_word_9 : decode cX5_word 9 = .ok (.bipush 32, 2) := by decide +kernel
theorem dX5_word_11 : decode cX5_word 11 = .ok (.imul, 1) := by decide +kernel
theorem dX5_word_12 : decode cX5_word 12 = .ok (.bipush 31, 2) := by decide +kernel
theorem dX5_word_14 : decode cX5_word 14 = .ok (.irem, 1) := by decide +kernel
theorem dX5_word_15 : decode cX5_word 15 = .ok (.istore_n 3, 1) := by decide +kernel
theorem dX5_word_16 : decode cX5_word 16 = .ok (.iload_n 2, 1) := by decide +kernel
theorem dX5_word_17 : decode cX5_word 17 = .ok (.ifCond .lt 21, 3) := by decide +kernel
theorem dX5_word_20 : decode cX5_word 20 = .ok (.iload_n 2, 1) := by decide +kernel
theorem dX5_word_21 : decode cX5_word 21 = .ok (.aload_n 0, 1) := by decide +kernel
theorem dX5_word_22 : decode cX5_word 22 = .ok (.getfield 25, 3) := by decide +kernel
theorem dX5_word_25 : decode cX5_word 25 = .ok (.if_icmp .ge 13, 3) := by decide +kernel
theorem dX5_word_28 : decode cX5_word 28 = .ok (.aload_n 0, 1) := by decide +kernel
theorem dX5_word_29 : decode cX5_word 29 = .ok (.getfield 13, 3) := by decide +kernel
theorem dX5_word_32 : decode cX5_word 32 = .ok (.iload_n 2, 1) := by decide +kernel
theorem dX5_word_33 : decode cX5_word 33 = .ok (.iaload, 1) := by decide +kernel
theorem dX5_word_34 : decode cX5_word 34 = .ok (.i2l, 1) := by decide +kernel
theorem dX5_word_35 : decode cX5_word 35 = .ok (.goto 4, 3) := by decide +kernel
theorem dX5_word_39 : decode cX5_word 39 = .ok (.lstore 4, 2) := by decide +kernel
theorem dX5_word_41 : decode cX5_word 41 = .ok (.iload_n 2, 1) := by decide +kernel
theorem dX5_word_42 : decode cX5_word 42 = .ok (.iconst 1, 1) := by decide +kernel
theorem dX5_word_43 : decode cX5_word 43 = .ok (.iadd, 1) := by decide +kernel
theorem dX5_word_44 : decode cX5_word 44 = .ok (.ifCond .lt 25, 3) := by decide +kernel
theorem dX5_word_47 : decode cX5_word 47 = .ok (.iload_n 2, 1) := by decide +kernel
theorem dX5_word_48 : decode cX5_word 48 = .ok (.iconst 1, 1) := by decide +kernel
theorem dX5_word_49 : decode cX5_word 49 = .ok (.iadd, 1) := by decide +kernel
theorem dX5_word_50 : decode cX5_word 50 = .ok (.aload_n 0, 1) := by decide +kernel
theorem dX5_word_51 : decode cX5_word 51 = .ok (.getfield 25, 3) := by decide +kernel
theorem dX5_word_54 : decode cX5_word 54 = .ok (.if_icmp .ge 15, 3) := by decide +kernel
theorem dX5_word_69 : decode cX5_word 69 = .ok (.lconst 0, 1) := by decide +kernel
theorem dX5_word_70 : decode cX5_word 70 = .ok (.lstore 6, 2) := by decide +kernel
theorem dX5_word_72 : decode cX5_word 72 = .ok (.lload 4, 2) := by decide +kernel
theorem dX5_word_74 : decode cX5_word 74 = .ok (.iload_n 3, 1) := by decide +kernel
theorem dX5_word_75 : decode cX5_word 75 = .ok (.lushr, 1) := by decide +kernel
theorem dX5_word_76 : decode cX5_word 76 = .ok (.lload 6, 2) := by decide +kernel
theorem dX5_word_78 : decode cX5_word 78 = .ok (.bipush 31, 2) := by decide +kernel
theorem dX5_word_80 : decode cX5_word 80 = .ok (.iload_n 3, 1) := by decide +kernel
theorem dX5_word_81 : decode cX5_word 81 = .ok (.isub, 1) := by decide +kernel
theorem dX5_word_82 : decode cX5_word 82 = .ok (.lshl, 1) := by decide +kernel
theorem dX5_word_83 : decode cX5_word 83 = .ok (.lor, 1) := by decide +kernel
theorem dX5_word_84 : decode cX5_word 84 = .ok (.l2i, 1) := by decide +kernel
theorem dX5_word_85 : decode cX5_word 85 = .ok (.ireturn, 1) := by decide +kernel
theorem dX12_size_0 : decode cX12_size 0 = .ok (.iload_n 1, 1) := by decide +kernel
theorem dX12_size_1 : decode cX12_size 1 = .ok (.ifCond .lt 8, 3) := by decide +kernel
theorem dX12_size_4 : decode cX12_size 4 = .ok (.iload_n 1, 1) := by decide +kernel
theorem dX12_size_5 : decode cX12_size 5 = .ok (.iconst 1, 1) := by decide +kernel
theorem dX12_size_6 : decode cX12_size 6 = .ok (.if_icmp .le 14, 3) := by decide +kernel
theorem dX12_size_9 : decode cX12_size 9 = .ok (.new 154, 3) := by decide +kernel
theorem dX12_size_12 : decode cX12_size 12 = .ok (.dup, 1) := by decide +kernel
theorem dX12_size_13 : decode cX12_size 13 = .ok (.ldc_w 286, 3) := by decide +kernel
theorem dX12_size_16 : decode cX12_size 16 = .ok (.invokespecial 158, 3) := by decide +kernel
theorem dX12_size_19 : decode cX12_size 19 = .ok (.athrow, 1) := by decide +kernel
theorem dX12_size_20 : decode cX12_size 20 = .ok (.iload_n 1, 1) := by decide +kernel
theorem dX12_size_21 : decode cX12_size 21 = .ok (.ifCond .ne 16, 3) := by decide +kernel
theorem dX12_size_24 : decode cX12_size 24 = .ok (.aload_n 0, 1) := by decide +kernel
theorem dX12_size_25 : decode cX12_size 25 = .ok (.getfield 79, 3) := by decide +kernel
theorem dX12_size_28 : decode cX12_size 28 = .ok (.getfield 288, 3) := by decide +kernel
theorem dX12_size_31 : decode cX12_size 31 = .ok (.invokevirtual 292, 3) := by decide +kernel
theorem dX12_size_34 : decode cX12_size 34 = .ok (.goto 13, 3) := by decide +kernel
theorem dX12_size_37 : decode cX12_size 37 = .ok (.aload_n 0, 1) := by decide +kernel
theorem dX12_size_38 : decode cX12_size 38 = .ok (.getfield 79, 3) := by decide +kernel
theorem dX12_size_41 : decode cX12_size 41 = .ok (.getfield 297, 3) := by decide +kernel
theorem dX12_size_44 : decode cX12_size 44 = .ok (.invokevirtual 292, 3) := by decide +kernel
theorem dX12_size_47 : decode cX12_size 47 = .ok (.ireturn, 1) := by decide +kernel
theorem dX12_limb_0 : decode cX12_limb 0 = .ok (.iload_n 1, 1) := by decide +kernel
theorem dX12_limb_1 : decode cX12_limb 1 = .ok (.ifCond .lt 8, 3) := by decide +kernel
theorem dX12_limb_4 : decode cX12_limb 4 = .ok (.iload_n 1, 1) := by decide +kernel
theorem dX12_limb_5 : decode cX12_limb 5 = .ok (.iconst 1, 1) := by decide +kernel
theorem dX12_limb_6 : decode cX12_limb 6 = .ok (.if_icmp .le 14, 3) := by decide +kernel
theorem dX12_limb_9 : decode cX12_limb 9 = .ok (.new 154, 3) := by decide +kernel
theorem dX12_limb_12 : decode cX12_limb 12 = .ok (.dup, 1) := by decide +kernel
theorem dX12_limb_13 : decode cX12_limb 13 = .ok (.ldc_w 286, 3) := by decide +kernel
theorem dX12_limb_16 : decode cX12_limb 16 = .ok (.invokespecial 158, 3) := by decide +kernel
theorem dX12_limb_19 : decode cX12_limb 19 = .ok (.athrow, 1) := by decide +kernel
theorem dX12_limb_20 : decode cX12_limb 20 = .ok (.iload_n 1, 1) := by decide +kernel
theorem dX12_limb_21 : decode cX12_limb 21 = .ok (.ifCond .ne 13, 3) := by decide +kernel
theorem dX12_limb_24 : decode cX12_limb 24 = .ok (.aload_n 0, 1) := by decide +kernel
theorem dX12_limb_25 : decode cX12_limb 25 = .ok (.getfield 79, 3) := by decide +kernel
theorem dX12_limb_28 : decode cX12_limb 28 = .ok (.getfield 288, 3) := by decide +kernel
theorem dX12_limb_31 : decode cX12_limb 31 = .ok (.goto 10, 3) := by decide +kernel
theorem dX12_limb_34 : decode cX12_limb 34 = .ok (.aload_n 0, 1) := by decide +kernel
theorem dX12_limb_35 : decode cX12_limb 35 = .ok (.getfield 79, 3) := by decide +kernel
theorem dX12_limb_38 : decode cX12_limb 38 = .ok (.getfield 297, 3) := by decide +kernel
theorem dX12_limb_41 : decode cX12_limb 41 = .ok (.astore_n 3, 1) := by decide +kernel
theorem dX12_limb_42 : decode cX12_limb 42 = .ok (.iload_n 2, 1) := by decide +kernel
theorem dX12_limb_43 : decode cX12_limb 43 = .ok (.ifCond .lt 11, 3) := by decide +kernel
theorem dX12_limb_46 : decode cX12_limb 46 = .ok (.iload_n 2, 1) := by decide +kernel
theorem dX12_limb_47 : decode cX12_limb 47 = .ok (.aload_n 3, 1) := by decide +kernel
theorem dX12_limb_48 : decode cX12_limb 48 = .ok (.invokevirtual 292, 3) := by decide +kernel
theorem dX12_limb_51 : decode cX12_limb 51 = .ok (.if_icmp .lt 14, 3) := by decide +kernel
theorem dX12_limb_54 : decode cX12_limb 54 = .ok (.new 154, 3) := by decide +kernel
theorem dX12_limb_57 : decode cX12_limb 57 = .ok (.dup, 1) := by decide +kernel
theorem dX12_limb_58 : decode cX12_limb 58 = .ok (.ldc_w 300, 3) := by decide +kernel
theorem dX12_limb_61 : decode cX12_limb 61 = .ok (.invokespecial 158, 3) := by decide +kernel
theorem dX12_limb_64 : decode cX12_limb 64 = .ok (.athrow, 1) := by decide +kernel
theorem dX12_limb_65 : decode cX12_limb 65 = .ok (.aload_n 3, 1) := by decide +kernel
theorem dX12_limb_66 : decode cX12_limb 66 = .ok (.iload_n 2, 1) := by decide +kernel
theorem dX12_limb_67 : decode cX12_limb 67 = .ok (.invokevirtual 302, 3) := by decide +kernel
theorem dX12_limb_70 : decode cX12_limb 70 = .ok (.ireturn, 1) := by decide +kernel
theorem dX13_numbersOf_0 : decode cX13_numbersOf 0 = .ok (.aload_n 0, 1) := by decide +kernel
theorem dX13_numbersOf_1 : decode cX13_numbersOf 1 = .ok (.getfield 821, 3) := by decide +kernel
theorem dX13_numbersOf_4 : decode cX13_numbersOf 4 = .ok (.ifCond .ne 7, 3) := by decide +kernel
theorem dX13_numbersOf_7 : decode cX13_numbersOf 7 = .ok (.iload_n 1, 1) := by decide +kernel
theorem dX13_numbersOf_8 : decode cX13_numbersOf 8 = .ok (.goto 16, 3) := by decide +kernel
theorem dX13_numbersOf_24 : decode cX13_numbersOf 24 = .ok (.ireturn, 1) := by decide +kernel
theorem dX13_size_0 : decode cX13_size 0 = .ok (.aload_n 0, 1) := by decide +kernel
theorem dX13_size_1 : decode cX13_size 1 = .ok (.iload_n 1, 1) := by decide +kernel
theorem dX13_size_2 : decode cX13_size 2 = .ok (.iconst 0, 1) := by decide +kernel
theorem dX13_size_3 : decode cX13_size 3 = .ok (.iconst 1, 1) := by decide +kernel
theorem dX13_size_4 : decode cX13_size 4 = .ok (.invokestatic 362, 3) := by decide +kernel
theorem dX13_size_7 : decode cX13_size 7 = .ok (.ifCond .eq 7, 3) := by decide +kernel
theorem dX13_size_10 : decode cX13_size 10 = .ok (.iconst 0, 1) := by decide +kernel
theorem dX13_size_11 : decode cX13_size 11 = .ok (.goto 4, 3) := by decide +kernel
theorem dX13_size_14 : decode cX13_size 14 = .ok (.iconst 1, 1) := by decide +kernel
theorem dX13_size_15 : decode cX13_size 15 = .ok (.putfield 1, 3) := by decide +kernel
theorem dX13_size_18 : decode cX13_size 18 = .ok (.aload_n 0, 1) := by decide +kernel
theorem dX13_size_19 : decode cX13_size 19 = .ok (.getfield 1, 3) := by decide +kernel
theorem dX13_size_22 : decode cX13_size 22 = .ok (.ifCond .le 7, 3) := by decide +kernel
theorem dX13_size_25 : decode cX13_size 25 = .ok (.iconst 0, 1) := by decide +kernel
theorem dX13_size_26 : decode cX13_size 26 = .ok (.goto 8, 3) := by decide +kernel
theorem dX13_size_29 : decode cX13_size 29 = .ok (.aload_n 0, 1) := by decide +kernel
theorem dX13_size_30 : decode cX13_size 30 = .ok (.iload_n 1, 1) := by decide +kernel
theorem dX13_size_31 : decode cX13_size 31 = .ok (.invokevirtual 824, 3) := by decide +kernel
theorem dX13_size_34 : decode cX13_size 34 = .ok (.ireturn, 1) := by decide +kernel
theorem dX13_limb_0 : decode cX13_limb 0 = .ok (.aload_n 0, 1) := by decide +kernel
theorem dX13_limb_1 : decode cX13_limb 1 = .ok (.iload_n 1, 1) := by decide +kernel
theorem dX13_limb_2 : decode cX13_limb 2 = .ok (.iconst 0, 1) := by decide +kernel
theorem dX13_limb_3 : decode cX13_limb 3 = .ok (.iconst 1, 1) := by decide +kernel
theorem dX13_limb_4 : decode cX13_limb 4 = .ok (.invokestatic 362, 3) := by decide +kernel
theorem dX13_limb_7 : decode cX13_limb 7 = .ok (.ifCond .eq 16, 3) := by decide +kernel
theorem dX13_limb_10 : decode cX13_limb 10 = .ok (.iload_n 2, 1) := by decide +kernel
theorem dX13_limb_11 : decode cX13_limb 11 = .ok (.ifCond .lt 12, 3) := by decide +kernel
theorem dX13_limb_14 : decode cX13_limb 14 = .ok (.iload_n 2, 1) := by decide +kernel
theorem dX13_limb_15 : decode cX13_limb 15 = .ok (.aload_n 0, 1) := by decide +kernel
theorem dX13_limb_16 : decode cX13_limb 16 = .ok (.iload_n 1, 1) := by decide +kernel
theorem dX13_limb_17 : decode cX13_limb 17 = .ok (.invokevirtual 824, 3) := by decide +kernel
theorem dX13_limb_20 : decode cX13_limb 20 = .ok (.if_icmp .lt 7, 3) := by decide +kernel
theorem dX13_limb_23 : decode cX13_limb 23 = .ok (.iconst 1, 1) := by decide +kernel
theorem dX13_limb_24 : decode cX13_limb 24 = .ok (.goto 4, 3) := by decide +kernel
theorem dX13_limb_27 : decode cX13_limb 27 = .ok (.iconst 0, 1) := by decide +kernel
theorem dX13_limb_28 : decode cX13_limb 28 = .ok (.putfield 1, 3) := by decide +kernel
theorem dX13_limb_31 : decode cX13_limb 31 = .ok (.aload_n 0, 1) := by decide +kernel
theorem dX13_limb_32 : decode cX13_limb 32 = .ok (.getfield 1, 3) := by decide +kernel
theorem dX13_limb_35 : decode cX13_limb 35 = .ok (.ifCond .le 5, 3) := by decide +kernel
theorem dX13_limb_38 : decode cX13_limb 38 = .ok (.iconst 0, 1) := by decide +kernel
theorem dX13_limb_39 : decode cX13_limb 39 = .ok (.ireturn, 1) := by decide +kernel
theorem dX13_limb_40 : decode cX13_limb 40 = .ok (.aload_n 0, 1) := by decide +kernel
theorem dX13_limb_41 : decode cX13_limb 41 = .ok (.getfield 821, 3) := by decide +kernel
theorem dX13_limb_44 : decode cX13_limb 44 = .ok (.ifCond .ne 5, 3) := by decide +kernel
theorem dX13_limb_47 : decode cX13_limb 47 = .ok (.iconst 1, 1) := by decide +kernel
theorem dX13_limb_48 : decode cX13_limb 48 = .ok (.ireturn, 1) := by decide +kernel
theorem dL_size_0 : decode cL_size 0 = .ok (.aload_n 2, 1) := by decide +kernel
theorem dL_size_1 : decode cL_size 1 = .ok (.iconst 0, 1) := by decide +kernel
theorem dL_size_2 : decode cL_size 2 = .ok (.aload_n 0, 1) := by decide +kernel
theorem dL_size_3 : decode cL_size 3 = .ok (.iload_n 1, 1) := by decide +kernel
theorem dL_size_4 : decode cL_size 4 = .ok (.invokevirtual 62, 3) := by decide +kernel
theorem dL_size_7 : decode cL_size 7 = .ok (.i2l, 1) := by decide +kernel
theorem dL_size_8 : decode cL_size 8 = .ok (.lastore, 1) := by decide +kernel
theorem dL_size_9 : decode cL_size 9 = .ok (.goto 6, 3) := by decide +kernel
theorem dL_size_12 : decode cL_size 12 = .ok (.astore_n 3, 1) := by decide +kernel
theorem dL_size_13 : decode cL_size 13 = .ok (.iconst 1, 1) := by decide +kernel
theorem dL_size_14 : decode cL_size 14 = .ok (.ireturn, 1) := by decide +kernel
theorem dL_size_15 : decode cL_size 15 = .ok (.iconst 0, 1) := by decide +kernel
theorem dL_size_16 : decode cL_size 16 = .ok (.ireturn, 1) := by decide +kernel
theorem dL_limb_0 : decode cL_limb 0 = .ok (.aload_n 3, 1) := by decide +kernel
theorem dL_limb_1 : decode cL_limb 1 = .ok (.iconst 0, 1) := by decide +kernel
theorem dL_limb_2 : decode cL_limb 2 = .ok (.aload_n 0, 1) := by decide +kernel
theorem dL_limb_3 : decode cL_limb 3 = .ok (.iload_n 1, 1) := by decide +kernel
theorem dL_limb_4 : decode cL_limb 4 = .ok (.iload_n 2, 1) := by decide +kernel
theorem dL_limb_5 : decode cL_limb 5 = .ok (.invokevirtual 65, 3) := by decide +kernel
theorem dL_limb_8 : decode cL_limb 8 = .ok (.i2l, 1) := by decide +kernel
theorem dL_limb_9 : decode cL_limb 9 = .ok (.lastore, 1) := by decide +kernel
theorem dL_limb_10 : decode cL_limb 10 = .ok (.goto 7, 3) := by decide +kernel
theorem dL_limb_13 : decode cL_limb 13 = .ok (.astore 4, 2) := by decide +kernel
theorem dL_limb_15 : decode cL_limb 15 = .ok (.iconst 1, 1) := by decide +kernel
theorem dL_limb_16 : decode cL_limb 16 = .ok (.ireturn, 1) := by decide +kernel
theorem dL_limb_17 : decode cL_limb 17 = .ok (.iconst 0, 1) := by decide +kernel
theorem dL_limb_18 : decode cL_limb 18 = .ok (.ireturn, 1) := by decide +kernel
