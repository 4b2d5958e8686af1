abbrev cX10_widen : ByteArray := prog_12_method_2_code
def yX10_widen : MethodName := ⟨RX10, "widen", "(I)V"⟩
abbrev cX10_addWord : ByteArray := prog_12_method_3_code
def yX10_addWord : MethodName := ⟨RX10, "addWord", "(I)V"⟩
abbrev cX12_feed : ByteArray := prog_1_method_2_code
def yX12_feed : MethodName := ⟨RX12, "feed", "(IIIII)I"⟩
abbrev cX13_feed : ByteArray := prog_15_method_4_code
def yX13_feed : MethodName := ⟨RX13, "feed", "(IIIII)I"⟩
abbrev cL_feed : ByteArray := method_3_code
def yL_feed : MethodName := ⟨RL, "feed", "(LChanceWorks;IIIII[J)I"⟩
theorem dX10_widen_0 : decode cX10_widen 0 = .ok (.iload_n 1, 1) := by decide +kernel
theorem dX10_widen_1 : decode cX10_widen 1 = .ok (.aload_n 0, 1) := by decide +kernel
theorem dX10_widen_2 : decode cX10_widen 2 = .ok (.getfield 9, 3) := by decide +kernel
theorem dX10_widen_5 : decode cX10_widen 5 = .ok (.arraylength, 1) := by decide +kernel
theorem dX10_widen_6 : decode cX10_widen 6 = .ok (.if_icmp .le 17, 3) := by decide +kernel
theorem dX10_widen_23 : decode cX10_widen 23 = .ok (.return_, 1) := by decide +kernel
theorem dX10_addWord_0 : decode cX10_addWord 0 = .ok (.bipush 24, 2) := by decide +kernel
theorem dX10_addWord_2 : decode cX10_addWord 2 = .ok (.istore_n 2, 1) := by decide +kernel
theorem dX10_addWord_3 : decode cX10_addWord 3 = .ok (.iload_n 2, 1) := by decide +kernel
theorem dX10_addWord_4 : decode cX10_addWord 4 = .ok (.ifCond .lt 44, 3) := by decide +kernel
theorem dX10_addWord_7 : decode cX10_addWord 7 = .ok (.aload_n 0, 1) := by decide +kernel
theorem dX10_addWord_8 : decode cX10_addWord 8 = .ok (.getfield 31, 3) := by decide +kernel
theorem dX10_addWord_11 : decode cX10_addWord 11 = .ok (.aload_n 0, 1) := by decide +kernel
theorem dX10_addWord_12 : decode cX10_addWord 12 = .ok (.getfield 9, 3) := by decide +kernel
theorem dX10_addWord_15 : decode cX10_addWord 15 = .ok (.arraylength, 1) := by decide +kernel
theorem dX10_addWord_16 : decode cX10_addWord 16 = .ok (.if_icmp .ge 32, 3) := by decide +kernel
theorem dX10_addWord_19 : decode cX10_addWord 19 = .ok (.aload_n 0, 1) := by decide +kernel
theorem dX10_addWord_20 : decode cX10_addWord 20 = .ok (.getfield 9, 3) := by decide +kernel
theorem dX10_addWord_23 : decode cX10_addWord 23 = .ok (.aload_n 0, 1) := by decide +kernel
theorem dX10_addWord_24 : decode cX10_addWord 24 = .ok (.getfield 31, 3) := by decide +kernel
theorem dX10_addWord_27 : decode cX10_addWord 27 = .ok (.iload_n 1, 1) := by decide +kernel
theorem dX10_addWord_28 : decode cX10_addWord 28 = .ok (.iload_n 2, 1) := by decide +kernel
theorem dX10_addWord_29 : decode cX10_addWord 29 = .ok (.ishr, 1) := by decide +kernel
theorem dX10_addWord_30 : decode cX10_addWord 30 = .ok (.i2b, 1) := by decide +kernel
theorem dX10_addWord_31 : decode cX10_addWord 31 = .ok (.bastore, 1) := by decide +kernel
theorem dX10_addWord_32 : decode cX10_addWord 32 = .ok (.aload_n 0, 1) := by decide +kernel
theorem dX10_addWord_33 : decode cX10_addWord 33 = .ok (.dup, 1) := by decide +kernel
theorem dX10_addWord_34 : decode cX10_addWord 34 = .ok (.getfield 31, 3) := by decide +kernel
theorem dX10_addWord_37 : decode cX10_addWord 37 = .ok (.iconst 1, 1) := by decide +kernel
theorem dX10_addWord_38 : decode cX10_addWord 38 = .ok (.iadd, 1) := by decide +kernel
theorem dX10_addWord_39 : decode cX10_addWord 39 = .ok (.putfield 31, 3) := by decide +kernel
theorem dX10_addWord_42 : decode cX10_addWord 42 = .ok (.iinc 2 (-8), 3) := by decide +kernel
theorem dX10_addWord_45 : decode cX10_addWord 45 = .ok (.goto (-42), 3) := by decide +kernel
theorem dX10_addWord_48 : decode cX10_addWord 48 = .ok (.return_, 1) := by decide +kernel
theorem dX12_feed_0 : decode cX12_feed 0 = .ok (.aload_n 0, 1) := by decide +kernel
theorem dX12_feed_1 : decode cX12_feed 1 = .ok (.getfield 12, 3) := by decide +kernel
theorem dX12_feed_4 : decode cX12_feed 4 = .ok (.getfield 100, 3) := by decide +kernel
theorem dX12_feed_7 : decode cX12_feed 7 = .ok (.bipush 20, 2) := by decide +kernel
theorem dX12_feed_9 : decode cX12_feed 9 = .ok (.iadd, 1) := by decide +kernel
theorem dX12_feed_10 : decode cX12_feed 10 = .ok (.ldc 104, 2) := by decide +kernel
theorem dX12_feed_12 : decode cX12_feed 12 = .ok (.if_icmp .le 13, 3) := by decide +kernel
theorem dX12_feed_25 : decode cX12_feed 25 = .ok (.aload_n 0, 1) := by decide +kernel
theorem dX12_feed_26 : decode cX12_feed 26 = .ok (.getfield 12, 3) := by decide +kernel
theorem dX12_feed_29 : decode cX12_feed 29 = .ok (.aload_n 0, 1) := by decide +kernel
theorem dX12_feed_30 : decode cX12_feed 30 = .ok (.getfield 12, 3) := by decide +kernel
theorem dX12_feed_33 : decode cX12_feed 33 = .ok (.getfield 100, 3) := by decide +kernel
theorem dX12_feed_36 : decode cX12_feed 36 = .ok (.bipush 20, 2) := by decide +kernel
theorem dX12_feed_38 : decode cX12_feed 38 = .ok (.iadd, 1) := by decide +kernel
theorem dX12_feed_39 : decode cX12_feed 39 = .ok (.invokevirtual 112, 3) := by decide +kernel
theorem dX12_feed_42 : decode cX12_feed 42 = .ok (.aload_n 0, 1) := by decide +kernel
theorem dX12_feed_43 : decode cX12_feed 43 = .ok (.getfield 12, 3) := by decide +kernel
theorem dX12_feed_46 : decode cX12_feed 46 = .ok (.iload_n 1, 1) := by decide +kernel
theorem dX12_feed_47 : decode cX12_feed 47 = .ok (.invokevirtual 115, 3) := by decide +kernel
theorem dX12_feed_50 : decode cX12_feed 50 = .ok (.aload_n 0, 1) := by decide +kernel
theorem dX12_feed_51 : decode cX12_feed 51 = .ok (.getfield 12, 3) := by decide +kernel
theorem dX12_feed_54 : decode cX12_feed 54 = .ok (.iload_n 2, 1) := by decide +kernel
theorem dX12_feed_55 : decode cX12_feed 55 = .ok (.invokevirtual 115, 3) := by decide +kernel
theorem dX12_feed_58 : decode cX12_feed 58 = .ok (.aload_n 0, 1) := by decide +kernel
theorem dX12_feed_59 : decode cX12_feed 59 = .ok (.getfield 12, 3) := by decide +kernel
theorem dX12_feed_62 : decode cX12_feed 62 = .ok (.iload_n 3, 1) := by decide +kernel
theorem dX12_feed_63 : decode cX12_feed 63 = .ok (.invokevirtual 115, 3) := by decide +kernel
theorem dX12_feed_66 : decode cX12_feed 66 = .ok (.aload_n 0, 1) := by decide +kernel
theorem dX12_feed_67 : decode cX12_feed 67 = .ok (.getfield 12, 3) := by decide +kernel
theorem dX12_feed_70 : decode cX12_feed 70 = .ok (.iload 4, 2) := by decide +kernel
theorem dX12_feed_72 : decode cX12_feed 72 = .ok (.invokevirtual 115, 3) := by decide +kernel
theorem dX12_feed_75 : decode cX12_feed 75 = .ok (.aload_n 0, 1) := by decide +kernel
theorem dX12_feed_76 : decode cX12_feed 76 = .ok (.getfield 12, 3) := by decide +kernel
theorem dX12_feed_79 : decode cX12_feed 79 = .ok (.iload 5, 2) := by decide +kernel
theorem dX12_feed_81 : decode cX12_feed 81 = .ok (.invokevirtual 115, 3) := by decide +kernel
theorem dX12_feed_84 : decode cX12_feed 84 = .ok (.aload_n 0, 1) := by decide +kernel
theorem dX12_feed_85 : decode cX12_feed 85 = .ok (.getfield 12, 3) := by decide +kernel
theorem dX12_feed_88 : decode cX12_feed 88 = .ok (.getfield 100, 3) := by decide +kernel
theorem dX12_feed_91 : decode cX12_feed 91 = .ok (.ireturn, 1) := by decide +kernel
theorem dX13_feed_0 : decode cX13_feed 0 = .ok (.aload_n 0, 1) := by decide +kernel
theorem dX13_feed_1 : decode cX13_feed 1 = .ok (.aload_n 0, 1) := by decide +kernel
theorem dX13_feed_2 : decode cX13_feed 2 = .ok (.getfield 253, 3) := by decide +kernel
theorem dX13_feed_5 : decode cX13_feed 5 = .ok (.bipush 20, 2) := by decide +kernel
theorem dX13_feed_7 : decode cX13_feed 7 = .ok (.iadd, 1) := by decide +kernel
theorem dX13_feed_8 : decode cX13_feed 8 = .ok (.ldc 13, 2) := by decide +kernel
theorem dX13_feed_10 : decode cX13_feed 10 = .ok (.if_icmp .le 7, 3) := by decide +kernel
theorem dX13_feed_17 : decode cX13_feed 17 = .ok (.iconst 0, 1) := by decide +kernel
theorem dX13_feed_18 : decode cX13_feed 18 = .ok (.putfield 1, 3) := by decide +kernel
theorem dX13_feed_21 : decode cX13_feed 21 = .ok (.aload_n 0, 1) := by decide +kernel
theorem dX13_feed_22 : decode cX13_feed 22 = .ok (.getfield 1, 3) := by decide +kernel
theorem dX13_feed_25 : decode cX13_feed 25 = .ok (.ifCond .le 5, 3) := by decide +kernel
theorem dX13_feed_30 : decode cX13_feed 30 = .ok (.iconst 0, 1) := by decide +kernel
theorem dX13_feed_31 : decode cX13_feed 31 = .ok (.istore 6, 2) := by decide +kernel
theorem dX13_feed_33 : decode cX13_feed 33 = .ok (.iload 6, 2) := by decide +kernel
theorem dX13_feed_35 : decode cX13_feed 35 = .ok (.bipush 20, 2) := by decide +kernel
theorem dX13_feed_37 : decode cX13_feed 37 = .ok (.if_icmp .ge 90, 3) := by decide +kernel
theorem dX13_feed_40 : decode cX13_feed 40 = .ok (.iload 6, 2) := by decide +kernel
theorem dX13_feed_42 : decode cX13_feed 42 = .ok (.iconst 4, 1) := by decide +kernel
theorem dX13_feed_43 : decode cX13_feed 43 = .ok (.if_icmp .ge 7, 3) := by decide +kernel
theorem dX13_feed_46 : decode cX13_feed 46 = .ok (.iload_n 1, 1) := by decide +kernel
theorem dX13_feed_47 : decode cX13_feed 47 = .ok (.goto 39, 3) := by decide +kernel
theorem dX13_feed_50 : decode cX13_feed 50 = .ok (.iload 6, 2) := by decide +kernel
theorem dX13_feed_52 : decode cX13_feed 52 = .ok (.bipush 8, 2) := by decide +kernel
theorem dX13_feed_54 : decode cX13_feed 54 = .ok (.if_icmp .ge 7, 3) := by decide +kernel
theorem dX13_feed_57 : decode cX13_feed 57 = .ok (.iload_n 2, 1) := by decide +kernel
theorem dX13_feed_58 : decode cX13_feed 58 = .ok (.goto 28, 3) := by decide +kernel
theorem dX13_feed_61 : decode cX13_feed 61 = .ok (.iload 6, 2) := by decide +kernel
theorem dX13_feed_63 : decode cX13_feed 63 = .ok (.bipush 12, 2) := by decide +kernel
theorem dX13_feed_65 : decode cX13_feed 65 = .ok (.if_icmp .ge 7, 3) := by decide +kernel
theorem dX13_feed_68 : decode cX13_feed 68 = .ok (.iload_n 3, 1) := by decide +kernel
theorem dX13_feed_69 : decode cX13_feed 69 = .ok (.goto 17, 3) := by decide +kernel
theorem dX13_feed_72 : decode cX13_feed 72 = .ok (.iload 6, 2) := by decide +kernel
theorem dX13_feed_74 : decode cX13_feed 74 = .ok (.bipush 16, 2) := by decide +kernel
theorem dX13_feed_76 : decode cX13_feed 76 = .ok (.if_icmp .ge 8, 3) := by decide +kernel
theorem dX13_feed_79 : decode cX13_feed 79 = .ok (.iload 4, 2) := by decide +kernel
theorem dX13_feed_81 : decode cX13_feed 81 = .ok (.goto 5, 3) := by decide +kernel
theorem dX13_feed_84 : decode cX13_feed 84 = .ok (.iload 5, 2) := by decide +kernel
theorem dX13_feed_86 : decode cX13_feed 86 = .ok (.istore 7, 2) := by decide +kernel
theorem dX13_feed_88 : decode cX13_feed 88 = .ok (.aload_n 0, 1) := by decide +kernel
theorem dX13_feed_89 : decode cX13_feed 89 = .ok (.getfield 14, 3) := by decide +kernel
theorem dX13_feed_92 : decode cX13_feed 92 = .ok (.aload_n 0, 1) := by decide +kernel
theorem dX13_feed_93 : decode cX13_feed 93 = .ok (.getfield 253, 3) := by decide +kernel
theorem dX13_feed_96 : decode cX13_feed 96 = .ok (.iload 7, 2) := by decide +kernel
theorem dX13_feed_98 : decode cX13_feed 98 = .ok (.bipush 24, 2) := by decide +kernel
theorem dX13_feed_100 : decode cX13_feed 100 = .ok (.bipush 8, 2) := by decide +kernel
theorem dX13_feed_102 : decode cX13_feed 102 = .ok (.iload 6, 2) := by decide +kernel
theorem dX13_feed_104 : decode cX13_feed 104 = .ok (.iconst 3, 1) := by decide +kernel
theorem dX13_feed_105 : decode cX13_feed 105 = .ok (.iand, 1) := by decide +kernel
theorem dX13_feed_106 : decode cX13_feed 106 = .ok (.imul, 1) := by decide +kernel
theorem dX13_feed_107 : decode cX13_feed 107 = .ok (.isub, 1) := by decide +kernel
theorem dX13_feed_108 : decode cX13_feed 108 = .ok (.ishr, 1) := by decide +kernel
theorem dX13_feed_109 : decode cX13_feed 109 = .ok (.i2b, 1) := by decide +kernel
theorem dX13_feed_110 : decode cX13_feed 110 = .ok (.bastore, 1) := by decide +kernel
theorem dX13_feed_111 : decode cX13_feed 111 = .ok (.aload_n 0, 1) := by decide +kernel
theorem dX13_feed_112 : decode cX13_feed 112 = .ok (.dup, 1) := by decide +kernel
theorem dX13_feed_113 : decode cX13_feed 113 = .ok (.getfield 253, 3) := by decide +kernel
theorem dX13_feed_116 : decode cX13_feed 116 = .ok (.iconst 1, 1) := by decide +kernel
theorem dX13_feed_117 : decode cX13_feed 117 = .ok (.iadd, 1) := by decide +kernel
theorem dX13_feed_118 : decode cX13_feed 118 = .ok (.putfield 253, 3) := by decide +kernel
theorem dX13_feed_121 : decode cX13_feed 121 = .ok (.iinc 6 1, 3) := by decide +kernel
theorem dX13_feed_124 : decode cX13_feed 124 = .ok (.goto (-91), 3) := by decide +kernel
theorem dX13_feed_127 : decode cX13_feed 127 = .ok (.aload_n 0, 1) := by decide +kernel
theorem dX13_feed_128 : decode cX13_feed 128 = .ok (.getfield 253, 3) := by decide +kernel
theorem dX13_feed_131 : decode cX13_feed 131 = .ok (.ireturn, 1) := by decide +kernel
theorem dL_feed_0 : decode cL_feed 0 = .ok (.aload 6, 2) := by decide +kernel
theorem dL_feed_2 : decode cL_feed 2 = .ok (.iconst 0, 1) := by decide +kernel
theorem dL_feed_3 : decode cL_feed 3 = .ok (.aload_n 0, 1) := by decide +kernel
theorem dL_feed_4 : decode cL_feed 4 = .ok (.iload_n 1, 1) := by decide +kernel
theorem dL_feed_5 : decode cL_feed 5 = .ok (.iload_n 2, 1) := by decide +kernel
theorem dL_feed_6 : decode cL_feed 6 = .ok (.iload_n 3, 1) := by decide +kernel
theorem dL_feed_7 : decode cL_feed 7 = .ok (.iload 4, 2) := by decide +kernel
theorem dL_feed_9 : decode cL_feed 9 = .ok (.iload 5, 2) := by decide +kernel
theorem dL_feed_11 : decode cL_feed 11 = .ok (.invokevirtual 7, 3) := by decide +kernel
theorem dL_feed_14 : decode cL_feed 14 = .ok (.i2l, 1) := by decide +kernel
theorem dL_feed_15 : decode cL_feed 15 = .ok (.lastore, 1) := by decide +kernel
theorem dL_feed_16 : decode cL_feed 16 = .ok (.goto 7, 3) := by decide +kernel
theorem dL_feed_23 : decode cL_feed 23 = .ok (.iconst 0, 1) := by decide +kernel
theorem dL_feed_24 : decode cL_feed 24 = .ok (.ireturn, 1) := by decide +kernel
