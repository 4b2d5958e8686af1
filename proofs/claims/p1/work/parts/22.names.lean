abbrev cX2_clear : ByteArray := prog_4_method_2_code
def yX2_clear : MethodName := ⟨RX2, "clear", "()V"⟩
abbrev cX7_read : ByteArray := prog_9_method_2_code
def yX7_read : MethodName := ⟨RX7, "read", "(LChanceWorks$Code;)V"⟩
abbrev cX7_take : ByteArray := prog_9_method_3_code
def yX7_take : MethodName := ⟨RX7, "take", "()V"⟩
abbrev cX7_refuse : ByteArray := prog_9_method_4_code
def yX7_refuse : MethodName := ⟨RX7, "refuse", "(II)V"⟩
abbrev cX7_findCalled : ByteArray := prog_9_method_36_code
def yX7_findCalled : MethodName := ⟨RX7, "findCalled", "()V"⟩
abbrev cX10_split : ByteArray := prog_12_method_5_code
def yX10_split : MethodName := ⟨RX10, "split", "()V"⟩
abbrev cX10_addToken : ByteArray := prog_12_method_6_code
def yX10_addToken : MethodName := ⟨RX10, "addToken", "(III)V"⟩
abbrev cX10_skipBlanks : ByteArray := prog_12_method_7_code
def yX10_skipBlanks : MethodName := ⟨RX10, "skipBlanks", "(I)I"⟩
abbrev cX12_program : ByteArray := prog_1_method_4_code
def yX12_program : MethodName := ⟨RX12, "program", "()I"⟩
def RJ7 : String := "java/util/Arrays"
abbrev cJ7_fill_53178 : ByteArray := prog_34_method_103_code
def yJ7_fill_53178 : MethodName := ⟨RJ7, "fill", "([II)V"⟩
theorem dX2_clear_0 : decode cX2_clear 0 = .ok (.aload_n 0, 1) := by decide +kernel
theorem dX2_clear_1 : decode cX2_clear 1 = .ok (.iconst 0, 1) := by decide +kernel
theorem dX2_clear_2 : decode cX2_clear 2 = .ok (.putfield 39, 3) := by decide +kernel
theorem dX2_clear_5 : decode cX2_clear 5 = .ok (.aload_n 0, 1) := by decide +kernel
theorem dX2_clear_6 : decode cX2_clear 6 = .ok (.iconst 0, 1) := by decide +kernel
theorem dX2_clear_7 : decode cX2_clear 7 = .ok (.putfield 43, 3) := by decide +kernel
theorem dX2_clear_10 : decode cX2_clear 10 = .ok (.aload_n 0, 1) := by decide +kernel
theorem dX2_clear_11 : decode cX2_clear 11 = .ok (.iconst 0, 1) := by decide +kernel
theorem dX2_clear_12 : decode cX2_clear 12 = .ok (.putfield 46, 3) := by decide +kernel
theorem dX2_clear_15 : decode cX2_clear 15 = .ok (.aload_n 0, 1) := by decide +kernel
theorem dX2_clear_16 : decode cX2_clear 16 = .ok (.iconst 0, 1) := by decide +kernel
theorem dX2_clear_17 : decode cX2_clear 17 = .ok (.putfield 49, 3) := by decide +kernel
theorem dX2_clear_20 : decode cX2_clear 20 = .ok (.aload_n 0, 1) := by decide +kernel
theorem dX2_clear_21 : decode cX2_clear 21 = .ok (.iconst 0, 1) := by decide +kernel
theorem dX2_clear_22 : decode cX2_clear 22 = .ok (.putfield 52, 3) := by decide +kernel
theorem dX2_clear_25 : decode cX2_clear 25 = .ok (.aload_n 0, 1) := by decide +kernel
theorem dX2_clear_26 : decode cX2_clear 26 = .ok (.iconst (-1), 1) := by decide +kernel
theorem dX2_clear_27 : decode cX2_clear 27 = .ok (.putfield 55, 3) := by decide +kernel
theorem dX2_clear_30 : decode cX2_clear 30 = .ok (.aload_n 0, 1) := by decide +kernel
theorem dX2_clear_31 : decode cX2_clear 31 = .ok (.iconst 0, 1) := by decide +kernel
theorem dX2_clear_32 : decode cX2_clear 32 = .ok (.putfield 58, 3) := by decide +kernel
theorem dX2_clear_35 : decode cX2_clear 35 = .ok (.aload_n 0, 1) := by decide +kernel
theorem dX2_clear_36 : decode cX2_clear 36 = .ok (.getfield 21, 3) := by decide +kernel
theorem dX2_clear_39 : decode cX2_clear 39 = .ok (.iconst (-1), 1) := by decide +kernel
theorem dX2_clear_40 : decode cX2_clear 40 = .ok (.invokestatic 61, 3) := by decide +kernel
theorem dX2_clear_43 : decode cX2_clear 43 = .ok (.return_, 1) := by decide +kernel
theorem dX7_read_0 : decode cX7_read 0 = .ok (.aload_n 0, 1) := by decide +kernel
theorem dX7_read_1 : decode cX7_read 1 = .ok (.getfield 9, 3) := by decide +kernel
theorem dX7_read_4 : decode cX7_read 4 = .ok (.invokevirtual 45, 3) := by decide +kernel
theorem dX7_read_7 : decode cX7_read 7 = .ok (.aload_n 0, 1) := by decide +kernel
theorem dX7_read_8 : decode cX7_read 8 = .ok (.aload_n 1, 1) := by decide +kernel
theorem dX7_read_9 : decode cX7_read 9 = .ok (.putfield 15, 3) := by decide +kernel
theorem dX7_read_12 : decode cX7_read 12 = .ok (.aload_n 0, 1) := by decide +kernel
theorem dX7_read_13 : decode cX7_read 13 = .ok (.getfield 15, 3) := by decide +kernel
theorem dX7_read_16 : decode cX7_read 16 = .ok (.invokevirtual 50, 3) := by decide +kernel
theorem dX7_read_19 : decode cX7_read 19 = .ok (.aload_n 0, 1) := by decide +kernel
theorem dX7_read_20 : decode cX7_read 20 = .ok (.iconst (-1), 1) := by decide +kernel
theorem dX7_read_21 : decode cX7_read 21 = .ok (.putfield 55, 3) := by decide +kernel
theorem dX7_read_24 : decode cX7_read 24 = .ok (.aload_n 0, 1) := by decide +kernel
theorem dX7_read_25 : decode cX7_read 25 = .ok (.iconst 0, 1) := by decide +kernel
theorem dX7_read_26 : decode cX7_read 26 = .ok (.putfield 59, 3) := by decide +kernel
theorem dX7_read_29 : decode cX7_read 29 = .ok (.aload_n 0, 1) := by decide +kernel
theorem dX7_read_30 : decode cX7_read 30 = .ok (.iconst 0, 1) := by decide +kernel
theorem dX7_read_31 : decode cX7_read 31 = .ok (.putfield 62, 3) := by decide +kernel
theorem dX7_read_34 : decode cX7_read 34 = .ok (.aload_n 0, 1) := by decide +kernel
theorem dX7_read_35 : decode cX7_read 35 = .ok (.iconst 0, 1) := by decide +kernel
theorem dX7_read_36 : decode cX7_read 36 = .ok (.putfield 66, 3) := by decide +kernel
theorem dX7_read_39 : decode cX7_read 39 = .ok (.aload_n 0, 1) := by decide +kernel
theorem dX7_read_40 : decode cX7_read 40 = .ok (.iconst 0, 1) := by decide +kernel
theorem dX7_read_41 : decode cX7_read 41 = .ok (.putfield 69, 3) := by decide +kernel
theorem dX7_read_44 : decode cX7_read 44 = .ok (.aload_n 0, 1) := by decide +kernel
theorem dX7_read_45 : decode cX7_read 45 = .ok (.invokevirtual 72, 3) := by decide +kernel
theorem dX7_read_48 : decode cX7_read 48 = .ok (.iconst 0, 1) := by decide +kernel
theorem dX7_read_49 : decode cX7_read 49 = .ok (.istore_n 2, 1) := by decide +kernel
theorem dX7_read_50 : decode cX7_read 50 = .ok (.iload_n 2, 1) := by decide +kernel
theorem dX7_read_51 : decode cX7_read 51 = .ok (.aload_n 0, 1) := by decide +kernel
theorem dX7_read_52 : decode cX7_read 52 = .ok (.getfield 9, 3) := by decide +kernel
theorem dX7_read_55 : decode cX7_read 55 = .ok (.getfield 75, 3) := by decide +kernel
theorem dX7_read_58 : decode cX7_read 58 = .ok (.if_icmp .gt 64, 3) := by decide +kernel
theorem dX7_read_61 : decode cX7_read 61 = .ok (.aload_n 0, 1) := by decide +kernel
theorem dX7_read_62 : decode cX7_read 62 = .ok (.getfield 62, 3) := by decide +kernel
theorem dX7_read_65 : decode cX7_read 65 = .ok (.ifCond .ne 13, 3) := by decide +kernel
theorem dX7_read_68 : decode cX7_read 68 = .ok (.aload_n 0, 1) := by decide +kernel
theorem dX7_read_69 : decode cX7_read 69 = .ok (.getfield 78, 3) := by decide +kernel
theorem dX7_read_72 : decode cX7_read 72 = .ok (.sipush 142, 3) := by decide +kernel
theorem dX7_read_75 : decode cX7_read 75 = .ok (.if_icmp .eq 47, 3) := by decide +kernel
theorem dX7_read_122 : decode cX7_read 122 = .ok (.aload_n 0, 1) := by decide +kernel
theorem dX7_read_123 : decode cX7_read 123 = .ok (.invokevirtual 95, 3) := by decide +kernel
theorem dX7_take_0 : decode cX7_take 0 = .ok (.aload_n 0, 1) := by decide +kernel
theorem dX7_take_1 : decode cX7_take 1 = .ok (.dup, 1) := by decide +kernel
theorem dX7_take_2 : decode cX7_take 2 = .ok (.getfield 55, 3) := by decide +kernel
theorem dX7_take_5 : decode cX7_take 5 = .ok (.iconst 1, 1) := by decide +kernel
theorem dX7_take_6 : decode cX7_take 6 = .ok (.iadd, 1) := by decide +kernel
theorem dX7_take_7 : decode cX7_take 7 = .ok (.putfield 55, 3) := by decide +kernel
theorem dX7_take_10 : decode cX7_take 10 = .ok (.aload_n 0, 1) := by decide +kernel
theorem dX7_take_11 : decode cX7_take 11 = .ok (.aload_n 0, 1) := by decide +kernel
theorem dX7_take_12 : decode cX7_take 12 = .ok (.getfield 55, 3) := by decide +kernel
theorem dX7_take_15 : decode cX7_take 15 = .ok (.ifCond .lt 32, 3) := by decide +kernel
theorem dX7_take_18 : decode cX7_take 18 = .ok (.aload_n 0, 1) := by decide +kernel
theorem dX7_take_19 : decode cX7_take 19 = .ok (.getfield 55, 3) := by decide +kernel
theorem dX7_take_22 : decode cX7_take 22 = .ok (.aload_n 0, 1) := by decide +kernel
theorem dX7_take_23 : decode cX7_take 23 = .ok (.getfield 9, 3) := by decide +kernel
theorem dX7_take_26 : decode cX7_take 26 = .ok (.getfield 75, 3) := by decide +kernel
theorem dX7_take_29 : decode cX7_take 29 = .ok (.if_icmp .ge 18, 3) := by decide +kernel
theorem dX7_take_32 : decode cX7_take 32 = .ok (.aload_n 0, 1) := by decide +kernel
theorem dX7_take_33 : decode cX7_take 33 = .ok (.getfield 9, 3) := by decide +kernel
theorem dX7_take_36 : decode cX7_take 36 = .ok (.getfield 101, 3) := by decide +kernel
theorem dX7_take_39 : decode cX7_take 39 = .ok (.aload_n 0, 1) := by decide +kernel
theorem dX7_take_40 : decode cX7_take 40 = .ok (.getfield 55, 3) := by decide +kernel
theorem dX7_take_43 : decode cX7_take 43 = .ok (.iaload, 1) := by decide +kernel
theorem dX7_take_44 : decode cX7_take 44 = .ok (.goto 6, 3) := by decide +kernel
theorem dX7_take_50 : decode cX7_take 50 = .ok (.putfield 78, 3) := by decide +kernel
theorem dX7_take_53 : decode cX7_take 53 = .ok (.return_, 1) := by decide +kernel
theorem dX7_refuse_0 : decode cX7_refuse 0 = .ok (.aload_n 0, 1) := by decide +kernel
theorem dX7_refuse_1 : decode cX7_refuse 1 = .ok (.getfield 78, 3) := by decide +kernel
theorem dX7_refuse_4 : decode cX7_refuse 4 = .ok (.sipush 143, 3) := by decide +kernel
theorem dX7_refuse_7 : decode cX7_refuse 7 = .ok (.if_icmp .ne 10, 3) := by decide +kernel
theorem dX7_refuse_17 : decode cX7_refuse 17 = .ok (.iload_n 2, 1) := by decide +kernel
theorem dX7_refuse_18 : decode cX7_refuse 18 = .ok (.istore_n 3, 1) := by decide +kernel
theorem dX7_refuse_19 : decode cX7_refuse 19 = .ok (.aload_n 0, 1) := by decide +kernel
theorem dX7_refuse_20 : decode cX7_refuse 20 = .ok (.aload_n 0, 1) := by decide +kernel
theorem dX7_refuse_21 : decode cX7_refuse 21 = .ok (.getfield 78, 3) := by decide +kernel
theorem dX7_refuse_24 : decode cX7_refuse 24 = .ok (.sipush 143, 3) := by decide +kernel
theorem dX7_refuse_27 : decode cX7_refuse 27 = .ok (.if_icmp .ne 7, 3) := by decide +kernel
theorem dX7_refuse_34 : decode cX7_refuse 34 = .ok (.iload_n 1, 1) := by decide +kernel
theorem dX7_refuse_35 : decode cX7_refuse 35 = .ok (.putfield 104, 3) := by decide +kernel
theorem dX7_refuse_38 : decode cX7_refuse 38 = .ok (.aload_n 0, 1) := by decide +kernel
theorem dX7_refuse_39 : decode cX7_refuse 39 = .ok (.iload_n 3, 1) := by decide +kernel
theorem dX7_refuse_40 : decode cX7_refuse 40 = .ok (.ifCond .lt 26, 3) := by decide +kernel
theorem dX7_refuse_43 : decode cX7_refuse 43 = .ok (.iload_n 3, 1) := by decide +kernel
theorem dX7_refuse_44 : decode cX7_refuse 44 = .ok (.aload_n 0, 1) := by decide +kernel
theorem dX7_refuse_45 : decode cX7_refuse 45 = .ok (.getfield 9, 3) := by decide +kernel
theorem dX7_refuse_48 : decode cX7_refuse 48 = .ok (.getfield 75, 3) := by decide +kernel
theorem dX7_refuse_51 : decode cX7_refuse 51 = .ok (.if_icmp .ge 15, 3) := by decide +kernel
theorem dX7_refuse_54 : decode cX7_refuse 54 = .ok (.aload_n 0, 1) := by decide +kernel
theorem dX7_refuse_55 : decode cX7_refuse 55 = .ok (.getfield 9, 3) := by decide +kernel
theorem dX7_refuse_58 : decode cX7_refuse 58 = .ok (.getfield 107, 3) := by decide +kernel
theorem dX7_refuse_61 : decode cX7_refuse 61 = .ok (.iload_n 3, 1) := by decide +kernel
theorem dX7_refuse_62 : decode cX7_refuse 62 = .ok (.iaload, 1) := by decide +kernel
theorem dX7_refuse_63 : decode cX7_refuse 63 = .ok (.goto 10, 3) := by decide +kernel
theorem dX7_refuse_73 : decode cX7_refuse 73 = .ok (.putfield 113, 3) := by decide +kernel
theorem dX7_refuse_76 : decode cX7_refuse 76 = .ok (.new 116, 3) := by decide +kernel
theorem dX7_refuse_79 : decode cX7_refuse 79 = .ok (.dup, 1) := by decide +kernel
theorem dX7_refuse_80 : decode cX7_refuse 80 = .ok (.ldc 118, 2) := by decide +kernel
theorem dX7_refuse_82 : decode cX7_refuse 82 = .ok (.invokespecial 120, 3) := by decide +kernel
theorem dX7_refuse_85 : decode cX7_refuse 85 = .ok (.athrow, 1) := by decide +kernel
theorem dX7_findCalled_0 : decode cX7_findCalled 0 = .ok (.iconst 0, 1) := by decide +kernel
theorem dX7_findCalled_1 : decode cX7_findCalled 1 = .ok (.istore_n 1, 1) := by decide +kernel
theorem dX7_findCalled_2 : decode cX7_findCalled 2 = .ok (.iload_n 1, 1) := by decide +kernel
theorem dX7_findCalled_3 : decode cX7_findCalled 3 = .ok (.aload_n 0, 1) := by decide +kernel
theorem dX7_findCalled_4 : decode cX7_findCalled 4 = .ok (.getfield 15, 3) := by decide +kernel
theorem dX7_findCalled_7 : decode cX7_findCalled 7 = .ok (.getfield 197, 3) := by decide +kernel
theorem dX7_findCalled_10 : decode cX7_findCalled 10 = .ok (.if_icmp .ge 95, 3) := by decide +kernel
theorem dX7_findCalled_105 : decode cX7_findCalled 105 = .ok (.iconst 0, 1) := by decide +kernel
theorem dX7_findCalled_106 : decode cX7_findCalled 106 = .ok (.istore_n 1, 1) := by decide +kernel
theorem dX7_findCalled_107 : decode cX7_findCalled 107 = .ok (.iload_n 1, 1) := by decide +kernel
theorem dX7_findCalled_108 : decode cX7_findCalled 108 = .ok (.aload_n 0, 1) := by decide +kernel
theorem dX7_findCalled_109 : decode cX7_findCalled 109 = .ok (.getfield 15, 3) := by decide +kernel
theorem dX7_findCalled_112 : decode cX7_findCalled 112 = .ok (.getfield 140, 3) := by decide +kernel
theorem dX7_findCalled_115 : decode cX7_findCalled 115 = .ok (.if_icmp .ge 51, 3) := by decide +kernel
theorem dX7_findCalled_166 : decode cX7_findCalled 166 = .ok (.aload_n 0, 1) := by decide +kernel
theorem dX7_findCalled_167 : decode cX7_findCalled 167 = .ok (.getfield 15, 3) := by decide +kernel
theorem dX7_findCalled_170 : decode cX7_findCalled 170 = .ok (.getfield 276, 3) := by decide +kernel
theorem dX7_findCalled_173 : decode cX7_findCalled 173 = .ok (.iconst (-1), 1) := by decide +kernel
theorem dX7_findCalled_174 : decode cX7_findCalled 174 = .ok (.if_icmp .ne 13, 3) := by decide +kernel
theorem dX7_findCalled_177 : decode cX7_findCalled 177 = .ok (.aload_n 0, 1) := by decide +kernel
theorem dX7_findCalled_178 : decode cX7_findCalled 178 = .ok (.bipush 17, 2) := by decide +kernel
theorem dX7_findCalled_180 : decode cX7_findCalled 180 = .ok (.aload_n 0, 1) := by decide +kernel
theorem dX7_findCalled_181 : decode cX7_findCalled 181 = .ok (.getfield 55, 3) := by decide +kernel
theorem dX7_findCalled_184 : decode cX7_findCalled 184 = .ok (.invokevirtual 123, 3) := by decide +kernel
theorem dX10_split_0 : decode cX10_split 0 = .ok (.aload_n 0, 1) := by decide +kernel
theorem dX10_split_1 : decode cX10_split 1 = .ok (.iconst 0, 1) := by decide +kernel
theorem dX10_split_2 : decode cX10_split 2 = .ok (.putfield 35, 3) := by decide +kernel
theorem dX10_split_5 : decode cX10_split 5 = .ok (.iconst 0, 1) := by decide +kernel
theorem dX10_split_6 : decode cX10_split 6 = .ok (.istore_n 1, 1) := by decide +kernel
theorem dX10_split_7 : decode cX10_split 7 = .ok (.iconst 0, 1) := by decide +kernel
theorem dX10_split_8 : decode cX10_split 8 = .ok (.istore_n 2, 1) := by decide +kernel
theorem dX10_split_9 : decode cX10_split 9 = .ok (.iload_n 2, 1) := by decide +kernel
theorem dX10_split_10 : decode cX10_split 10 = .ok (.aload_n 0, 1) := by decide +kernel
theorem dX10_split_11 : decode cX10_split 11 = .ok (.getfield 31, 3) := by decide +kernel
theorem dX10_split_14 : decode cX10_split 14 = .ok (.if_icmp .gt 84, 3) := by decide +kernel
theorem dX10_split_17 : decode cX10_split 17 = .ok (.aload_n 0, 1) := by decide +kernel
theorem dX10_split_18 : decode cX10_split 18 = .ok (.iload_n 1, 1) := by decide +kernel
theorem dX10_split_19 : decode cX10_split 19 = .ok (.invokevirtual 38, 3) := by decide +kernel
theorem dX10_split_22 : decode cX10_split 22 = .ok (.istore_n 1, 1) := by decide +kernel
theorem dX10_split_23 : decode cX10_split 23 = .ok (.iload_n 1, 1) := by decide +kernel
theorem dX10_split_24 : decode cX10_split 24 = .ok (.aload_n 0, 1) := by decide +kernel
theorem dX10_split_25 : decode cX10_split 25 = .ok (.getfield 31, 3) := by decide +kernel
theorem dX10_split_28 : decode cX10_split 28 = .ok (.if_icmp .ge 11, 3) := by decide +kernel
theorem dX10_split_39 : decode cX10_split 39 = .ok (.iconst 0, 1) := by decide +kernel
theorem dX10_split_40 : decode cX10_split 40 = .ok (.istore_n 3, 1) := by decide +kernel
theorem dX10_split_41 : decode cX10_split 41 = .ok (.iload_n 1, 1) := by decide +kernel
theorem dX10_split_42 : decode cX10_split 42 = .ok (.aload_n 0, 1) := by decide +kernel
theorem dX10_split_43 : decode cX10_split 43 = .ok (.getfield 31, 3) := by decide +kernel
theorem dX10_split_46 : decode cX10_split 46 = .ok (.if_icmp .ge 12, 3) := by decide +kernel
theorem dX10_split_58 : decode cX10_split 58 = .ok (.sipush 142, 3) := by decide +kernel
theorem dX10_split_61 : decode cX10_split 61 = .ok (.istore 4, 2) := by decide +kernel
theorem dX10_split_63 : decode cX10_split 63 = .ok (.aload_n 0, 1) := by decide +kernel
theorem dX10_split_64 : decode cX10_split 64 = .ok (.iload 4, 2) := by decide +kernel
theorem dX10_split_66 : decode cX10_split 66 = .ok (.iload_n 1, 1) := by decide +kernel
theorem dX10_split_67 : decode cX10_split 67 = .ok (.iload_n 3, 1) := by decide +kernel
theorem dX10_split_68 : decode cX10_split 68 = .ok (.invokevirtual 49, 3) := by decide +kernel
theorem dX10_split_71 : decode cX10_split 71 = .ok (.iload 4, 2) := by decide +kernel
theorem dX10_split_73 : decode cX10_split 73 = .ok (.sipush 142, 3) := by decide +kernel
theorem dX10_split_76 : decode cX10_split 76 = .ok (.if_icmp .eq 11, 3) := by decide +kernel
theorem dX10_split_87 : decode cX10_split 87 = .ok (.return_, 1) := by decide +kernel
theorem dX10_addToken_0 : decode cX10_addToken 0 = .ok (.aload_n 0, 1) := by decide +kernel
theorem dX10_addToken_1 : decode cX10_addToken 1 = .ok (.getfield 35, 3) := by decide +kernel
theorem dX10_addToken_4 : decode cX10_addToken 4 = .ok (.aload_n 0, 1) := by decide +kernel
theorem dX10_addToken_5 : decode cX10_addToken 5 = .ok (.getfield 15, 3) := by decide +kernel
theorem dX10_addToken_8 : decode cX10_addToken 8 = .ok (.arraylength, 1) := by decide +kernel
theorem dX10_addToken_9 : decode cX10_addToken 9 = .ok (.if_icmp .lt 54, 3) := by decide +kernel
theorem dX10_addToken_63 : decode cX10_addToken 63 = .ok (.aload_n 0, 1) := by decide +kernel
theorem dX10_addToken_64 : decode cX10_addToken 64 = .ok (.getfield 15, 3) := by decide +kernel
theorem dX10_addToken_67 : decode cX10_addToken 67 = .ok (.aload_n 0, 1) := by decide +kernel
theorem dX10_addToken_68 : decode cX10_addToken 68 = .ok (.getfield 35, 3) := by decide +kernel
theorem dX10_addToken_71 : decode cX10_addToken 71 = .ok (.iload_n 1, 1) := by decide +kernel
theorem dX10_addToken_72 : decode cX10_addToken 72 = .ok (.iastore, 1) := by decide +kernel
theorem dX10_addToken_73 : decode cX10_addToken 73 = .ok (.aload_n 0, 1) := by decide +kernel
theorem dX10_addToken_74 : decode cX10_addToken 74 = .ok (.getfield 19, 3) := by decide +kernel
theorem dX10_addToken_77 : decode cX10_addToken 77 = .ok (.aload_n 0, 1) := by decide +kernel
theorem dX10_addToken_78 : decode cX10_addToken 78 = .ok (.getfield 35, 3) := by decide +kernel
theorem dX10_addToken_81 : decode cX10_addToken 81 = .ok (.iload_n 2, 1) := by decide +kernel
theorem dX10_addToken_82 : decode cX10_addToken 82 = .ok (.iastore, 1) := by decide +kernel
theorem dX10_addToken_83 : decode cX10_addToken 83 = .ok (.aload_n 0, 1) := by decide +kernel
theorem dX10_addToken_84 : decode cX10_addToken 84 = .ok (.getfield 22, 3) := by decide +kernel
theorem dX10_addToken_87 : decode cX10_addToken 87 = .ok (.aload_n 0, 1) := by decide +kernel
theorem dX10_addToken_88 : decode cX10_addToken 88 = .ok (.getfield 35, 3) := by decide +kernel
theorem dX10_addToken_91 : decode cX10_addToken 91 = .ok (.iload_n 3, 1) := by decide +kernel
theorem dX10_addToken_92 : decode cX10_addToken 92 = .ok (.iastore, 1) := by decide +kernel
theorem dX10_addToken_93 : decode cX10_addToken 93 = .ok (.aload_n 0, 1) := by decide +kernel
theorem dX10_addToken_94 : decode cX10_addToken 94 = .ok (.dup, 1) := by decide +kernel
theorem dX10_addToken_95 : decode cX10_addToken 95 = .ok (.getfield 35, 3) := by decide +kernel
theorem dX10_addToken_98 : decode cX10_addToken 98 = .ok (.iconst 1, 1) := by decide +kernel
theorem dX10_addToken_99 : decode cX10_addToken 99 = .ok (.iadd, 1) := by decide +kernel
theorem dX10_addToken_100 : decode cX10_addToken 100 = .ok (.putfield 35, 3) := by decide +kernel
theorem dX10_addToken_103 : decode cX10_addToken 103 = .ok (.return_, 1) := by decide +kernel
theorem dX10_skipBlanks_0 : decode cX10_skipBlanks 0 = .ok (.iconst 0, 1) := by decide +kernel
theorem dX10_skipBlanks_1 : decode cX10_skipBlanks 1 = .ok (.istore_n 2, 1) := by decide +kernel
theorem dX10_skipBlanks_2 : decode cX10_skipBlanks 2 = .ok (.iload_n 1, 1) := by decide +kernel
theorem dX10_skipBlanks_3 : decode cX10_skipBlanks 3 = .ok (.istore_n 3, 1) := by decide +kernel
theorem dX10_skipBlanks_4 : decode cX10_skipBlanks 4 = .ok (.iload_n 3, 1) := by decide +kernel
theorem dX10_skipBlanks_5 : decode cX10_skipBlanks 5 = .ok (.aload_n 0, 1) := by decide +kernel
theorem dX10_skipBlanks_6 : decode cX10_skipBlanks 6 = .ok (.getfield 31, 3) := by decide +kernel
theorem dX10_skipBlanks_9 : decode cX10_skipBlanks 9 = .ok (.if_icmp .ge 67, 3) := by decide +kernel
theorem dX10_skipBlanks_76 : decode cX10_skipBlanks 76 = .ok (.aload_n 0, 1) := by decide +kernel
theorem dX10_skipBlanks_77 : decode cX10_skipBlanks 77 = .ok (.getfield 31, 3) := by decide +kernel
theorem dX10_skipBlanks_80 : decode cX10_skipBlanks 80 = .ok (.ireturn, 1) := by decide +kernel
theorem dX12_program_0 : decode cX12_program 0 = .ok (.iconst 1, 1) := by decide +kernel
theorem dX12_program_1 : decode cX12_program 1 = .ok (.istore_n 1, 1) := by decide +kernel
theorem dX12_program_2 : decode cX12_program 2 = .ok (.aload_n 0, 1) := by decide +kernel
theorem dX12_program_3 : decode cX12_program 3 = .ok (.getfield 31, 3) := by decide +kernel
theorem dX12_program_6 : decode cX12_program 6 = .ok (.aload_n 0, 1) := by decide +kernel
theorem dX12_program_7 : decode cX12_program 7 = .ok (.getfield 23, 3) := by decide +kernel
theorem dX12_program_10 : decode cX12_program 10 = .ok (.invokevirtual 123, 3) := by decide +kernel
theorem dX12_program_16 : decode cX12_program 16 = .ok (.astore_n 2, 1) := by decide +kernel
theorem dX12_program_17 : decode cX12_program 17 = .ok (.iconst 0, 1) := by decide +kernel
theorem dX12_program_18 : decode cX12_program 18 = .ok (.istore_n 1, 1) := by decide +kernel
theorem dX12_program_19 : decode cX12_program 19 = .ok (.aload_n 0, 1) := by decide +kernel
theorem dX12_program_20 : decode cX12_program 20 = .ok (.getfield 12, 3) := by decide +kernel
theorem dX12_program_23 : decode cX12_program 23 = .ok (.iconst 0, 1) := by decide +kernel
theorem dX12_program_24 : decode cX12_program 24 = .ok (.putfield 100, 3) := by decide +kernel
theorem dX12_program_27 : decode cX12_program 27 = .ok (.aload_n 0, 1) := by decide +kernel
theorem dX12_program_28 : decode cX12_program 28 = .ok (.iload_n 1, 1) := by decide +kernel
theorem dX12_program_29 : decode cX12_program 29 = .ok (.ifCond .eq 7, 3) := by decide +kernel
theorem dX12_program_36 : decode cX12_program 36 = .ok (.aload_n 0, 1) := by decide +kernel
theorem dX12_program_37 : decode cX12_program 37 = .ok (.getfield 31, 3) := by decide +kernel
theorem dX12_program_40 : decode cX12_program 40 = .ok (.getfield 128, 3) := by decide +kernel
theorem dX12_program_43 : decode cX12_program 43 = .ok (.putfield 131, 3) := by decide +kernel
theorem dX12_program_46 : decode cX12_program 46 = .ok (.iload_n 1, 1) := by decide +kernel
theorem dX12_program_47 : decode cX12_program 47 = .ok (.ifCond .ne 13, 3) := by decide +kernel
theorem dX12_program_50 : decode cX12_program 50 = .ok (.iconst (-1), 1) := by decide +kernel
theorem dX12_program_51 : decode cX12_program 51 = .ok (.aload_n 0, 1) := by decide +kernel
theorem dX12_program_52 : decode cX12_program 52 = .ok (.getfield 31, 3) := by decide +kernel
theorem dX12_program_55 : decode cX12_program 55 = .ok (.getfield 132, 3) := by decide +kernel
theorem dX12_program_58 : decode cX12_program 58 = .ok (.isub, 1) := by decide +kernel
theorem dX12_program_59 : decode cX12_program 59 = .ok (.ireturn, 1) := by decide +kernel
theorem dJ7_fill_53178_0 : decode cJ7_fill_53178 0 = .ok (.iconst 0, 1) := by decide +kernel
theorem dJ7_fill_53178_1 : decode cJ7_fill_53178 1 = .ok (.istore_n 2, 1) := by decide +kernel
theorem dJ7_fill_53178_2 : decode cJ7_fill_53178 2 = .ok (.aload_n 0, 1) := by decide +kernel
theorem dJ7_fill_53178_3 : decode cJ7_fill_53178 3 = .ok (.arraylength, 1) := by decide +kernel
theorem dJ7_fill_53178_4 : decode cJ7_fill_53178 4 = .ok (.istore_n 3, 1) := by decide +kernel
theorem dJ7_fill_53178_5 : decode cJ7_fill_53178 5 = .ok (.iload_n 2, 1) := by decide +kernel
theorem dJ7_fill_53178_6 : decode cJ7_fill_53178 6 = .ok (.iload_n 3, 1) := by decide +kernel
theorem dJ7_fill_53178_7 : decode cJ7_fill_53178 7 = .ok (.if_icmp .ge 13, 3) := by decide +kernel
theorem dJ7_fill_53178_10 : decode cJ7_fill_53178 10 = .ok (.aload_n 0, 1) := by decide +kernel
theorem dJ7_fill_53178_11 : decode cJ7_fill_53178 11 = .ok (.iload_n 2, 1) := by decide +kernel
theorem dJ7_fill_53178_12 : decode cJ7_fill_53178 12 = .ok (.iload_n 1, 1) := by decide +kernel
theorem dJ7_fill_53178_13 : decode cJ7_fill_53178 13 = .ok (.iastore, 1) := by decide +kernel
theorem dJ7_fill_53178_14 : decode cJ7_fill_53178 14 = .ok (.iinc 2 1, 3) := by decide +kernel
theorem dJ7_fill_53178_17 : decode cJ7_fill_53178 17 = .ok (.goto (-12), 3) := by decide +kernel
theorem dJ7_fill_53178_20 : decode cJ7_fill_53178 20 = .ok (.return_, 1) := by decide +kernel
