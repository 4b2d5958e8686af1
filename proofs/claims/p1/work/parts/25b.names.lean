abbrev cX13_thrown : ByteArray := prog_15_method_1_code
def yX13_thrown : MethodName := ⟨RX13, "thrown", "()I"⟩
abbrev cX13_byteAt : ByteArray := prog_15_method_6_code
def yX13_byteAt : MethodName := ⟨RX13, "byteAt", "(I)I"⟩
abbrev cX13_isBlank : ByteArray := prog_15_method_9_code
def yX13_isBlank : MethodName := ⟨RX13, "isBlank", "(I)Z"⟩
abbrev cX13_skip : ByteArray := prog_15_method_10_code
def yX13_skip : MethodName := ⟨RX13, "skip", "(I)I"⟩
abbrev cX13_cutTape : ByteArray := prog_15_method_17_code
def yX13_cutTape : MethodName := ⟨RX13, "cutTape", "()V"⟩
abbrev cX13_isRight : ByteArray := prog_15_method_18_code
def yX13_isRight : MethodName := ⟨RX13, "isRight", "()Z"⟩
abbrev cX13_readNext : ByteArray := prog_15_method_21_code
def yX13_readNext : MethodName := ⟨RX13, "readNext", "()V"⟩
abbrev cX13_swingAll : ByteArray := prog_15_method_63_code
def yX13_swingAll : MethodName := ⟨RX13, "swingAll", "(Z)V"⟩
abbrev cX13_tellProgram : ByteArray := prog_15_method_64_code
def yX13_tellProgram : MethodName := ⟨RX13, "tellProgram", "()V"⟩
abbrev cX13_lookAtCalls : ByteArray := prog_15_method_67_code
def yX13_lookAtCalls : MethodName := ⟨RX13, "lookAtCalls", "()V"⟩
abbrev cX13_program : ByteArray := prog_15_method_68_code
def yX13_program : MethodName := ⟨RX13, "program", "()I"⟩
theorem dX13_thrown_0 : decode cX13_thrown 0 = .ok (.aload_n 0, 1) := by decide +kernel
theorem dX13_thrown_1 : decode cX13_thrown 1 = .ok (.getfield 1, 3) := by decide +kernel
theorem dX13_thrown_4 : decode cX13_thrown 4 = .ok (.ireturn, 1) := by decide +kernel
theorem dX13_byteAt_0 : decode cX13_byteAt 0 = .ok (.iload_n 1, 1) := by decide +kernel
theorem dX13_byteAt_1 : decode cX13_byteAt 1 = .ok (.aload_n 0, 1) := by decide +kernel
theorem dX13_byteAt_2 : decode cX13_byteAt 2 = .ok (.getfield 253, 3) := by decide +kernel
theorem dX13_byteAt_5 : decode cX13_byteAt 5 = .ok (.if_icmp .ge 16, 3) := by decide +kernel
theorem dX13_byteAt_21 : decode cX13_byteAt 21 = .ok (.iconst (-1), 1) := by decide +kernel
theorem dX13_byteAt_22 : decode cX13_byteAt 22 = .ok (.ireturn, 1) := by decide +kernel
theorem dX13_isBlank_0 : decode cX13_isBlank 0 = .ok (.iload_n 0, 1) := by decide +kernel
theorem dX13_isBlank_1 : decode cX13_isBlank 1 = .ok (.bipush 9, 2) := by decide +kernel
theorem dX13_isBlank_3 : decode cX13_isBlank 3 = .ok (.if_icmp .eq 21, 3) := by decide +kernel
theorem dX13_isBlank_6 : decode cX13_isBlank 6 = .ok (.iload_n 0, 1) := by decide +kernel
theorem dX13_isBlank_7 : decode cX13_isBlank 7 = .ok (.bipush 10, 2) := by decide +kernel
theorem dX13_isBlank_9 : decode cX13_isBlank 9 = .ok (.if_icmp .eq 15, 3) := by decide +kernel
theorem dX13_isBlank_12 : decode cX13_isBlank 12 = .ok (.iload_n 0, 1) := by decide +kernel
theorem dX13_isBlank_13 : decode cX13_isBlank 13 = .ok (.bipush 13, 2) := by decide +kernel
theorem dX13_isBlank_15 : decode cX13_isBlank 15 = .ok (.if_icmp .eq 9, 3) := by decide +kernel
theorem dX13_isBlank_18 : decode cX13_isBlank 18 = .ok (.iload_n 0, 1) := by decide +kernel
theorem dX13_isBlank_19 : decode cX13_isBlank 19 = .ok (.bipush 32, 2) := by decide +kernel
theorem dX13_isBlank_21 : decode cX13_isBlank 21 = .ok (.if_icmp .ne 7, 3) := by decide +kernel
theorem dX13_isBlank_28 : decode cX13_isBlank 28 = .ok (.iconst 0, 1) := by decide +kernel
theorem dX13_isBlank_29 : decode cX13_isBlank 29 = .ok (.ireturn, 1) := by decide +kernel
theorem dX13_skip_0 : decode cX13_skip 0 = .ok (.iload_n 1, 1) := by decide +kernel
theorem dX13_skip_1 : decode cX13_skip 1 = .ok (.istore_n 2, 1) := by decide +kernel
theorem dX13_skip_2 : decode cX13_skip 2 = .ok (.aload_n 0, 1) := by decide +kernel
theorem dX13_skip_3 : decode cX13_skip 3 = .ok (.iload_n 2, 1) := by decide +kernel
theorem dX13_skip_4 : decode cX13_skip 4 = .ok (.invokevirtual 256, 3) := by decide +kernel
theorem dX13_skip_7 : decode cX13_skip 7 = .ok (.invokestatic 260, 3) := by decide +kernel
theorem dX13_skip_10 : decode cX13_skip 10 = .ok (.ifCond .ne 13, 3) := by decide +kernel
theorem dX13_skip_13 : decode cX13_skip 13 = .ok (.aload_n 0, 1) := by decide +kernel
theorem dX13_skip_14 : decode cX13_skip 14 = .ok (.iload_n 2, 1) := by decide +kernel
theorem dX13_skip_15 : decode cX13_skip 15 = .ok (.invokevirtual 256, 3) := by decide +kernel
theorem dX13_skip_18 : decode cX13_skip 18 = .ok (.bipush 35, 2) := by decide +kernel
theorem dX13_skip_20 : decode cX13_skip 20 = .ok (.if_icmp .ne 43, 3) := by decide +kernel
theorem dX13_skip_63 : decode cX13_skip 63 = .ok (.iload_n 2, 1) := by decide +kernel
theorem dX13_skip_64 : decode cX13_skip 64 = .ok (.ireturn, 1) := by decide +kernel
theorem dX13_cutTape_0 : decode cX13_cutTape 0 = .ok (.aload_n 0, 1) := by decide +kernel
theorem dX13_cutTape_1 : decode cX13_cutTape 1 = .ok (.iconst 0, 1) := by decide +kernel
theorem dX13_cutTape_2 : decode cX13_cutTape 2 = .ok (.putfield 284, 3) := by decide +kernel
theorem dX13_cutTape_5 : decode cX13_cutTape 5 = .ok (.aload_n 0, 1) := by decide +kernel
theorem dX13_cutTape_6 : decode cX13_cutTape 6 = .ok (.iconst 0, 1) := by decide +kernel
theorem dX13_cutTape_7 : decode cX13_cutTape 7 = .ok (.invokevirtual 294, 3) := by decide +kernel
theorem dX13_cutTape_10 : decode cX13_cutTape 10 = .ok (.istore_n 1, 1) := by decide +kernel
theorem dX13_cutTape_11 : decode cX13_cutTape 11 = .ok (.iconst 0, 1) := by decide +kernel
theorem dX13_cutTape_12 : decode cX13_cutTape 12 = .ok (.istore_n 2, 1) := by decide +kernel
theorem dX13_cutTape_13 : decode cX13_cutTape 13 = .ok (.iload_n 1, 1) := by decide +kernel
theorem dX13_cutTape_14 : decode cX13_cutTape 14 = .ok (.aload_n 0, 1) := by decide +kernel
theorem dX13_cutTape_15 : decode cX13_cutTape 15 = .ok (.getfield 253, 3) := by decide +kernel
theorem dX13_cutTape_18 : decode cX13_cutTape 18 = .ok (.if_icmp .ge 54, 3) := by decide +kernel
theorem dX13_cutTape_72 : decode cX13_cutTape 72 = .ok (.aload_n 0, 1) := by decide +kernel
theorem dX13_cutTape_73 : decode cX13_cutTape 73 = .ok (.getfield 19, 3) := by decide +kernel
theorem dX13_cutTape_76 : decode cX13_cutTape 76 = .ok (.aload_n 0, 1) := by decide +kernel
theorem dX13_cutTape_77 : decode cX13_cutTape 77 = .ok (.getfield 281, 3) := by decide +kernel
theorem dX13_cutTape_80 : decode cX13_cutTape 80 = .ok (.aload_n 0, 1) := by decide +kernel
theorem dX13_cutTape_81 : decode cX13_cutTape 81 = .ok (.getfield 284, 3) := by decide +kernel
theorem dX13_cutTape_84 : decode cX13_cutTape 84 = .ok (.iadd, 1) := by decide +kernel
theorem dX13_cutTape_85 : decode cX13_cutTape 85 = .ok (.iconst 5, 1) := by decide +kernel
theorem dX13_cutTape_86 : decode cX13_cutTape 86 = .ok (.bastore, 1) := by decide +kernel
theorem dX13_cutTape_87 : decode cX13_cutTape 87 = .ok (.aload_n 0, 1) := by decide +kernel
theorem dX13_cutTape_88 : decode cX13_cutTape 88 = .ok (.getfield 22, 3) := by decide +kernel
theorem dX13_cutTape_91 : decode cX13_cutTape 91 = .ok (.aload_n 0, 1) := by decide +kernel
theorem dX13_cutTape_92 : decode cX13_cutTape 92 = .ok (.getfield 281, 3) := by decide +kernel
theorem dX13_cutTape_95 : decode cX13_cutTape 95 = .ok (.aload_n 0, 1) := by decide +kernel
theorem dX13_cutTape_96 : decode cX13_cutTape 96 = .ok (.getfield 284, 3) := by decide +kernel
theorem dX13_cutTape_99 : decode cX13_cutTape 99 = .ok (.iadd, 1) := by decide +kernel
theorem dX13_cutTape_100 : decode cX13_cutTape 100 = .ok (.aload_n 0, 1) := by decide +kernel
theorem dX13_cutTape_101 : decode cX13_cutTape 101 = .ok (.getfield 253, 3) := by decide +kernel
theorem dX13_cutTape_104 : decode cX13_cutTape 104 = .ok (.iastore, 1) := by decide +kernel
theorem dX13_cutTape_105 : decode cX13_cutTape 105 = .ok (.aload_n 0, 1) := by decide +kernel
theorem dX13_cutTape_106 : decode cX13_cutTape 106 = .ok (.getfield 26, 3) := by decide +kernel
theorem dX13_cutTape_109 : decode cX13_cutTape 109 = .ok (.aload_n 0, 1) := by decide +kernel
theorem dX13_cutTape_110 : decode cX13_cutTape 110 = .ok (.getfield 281, 3) := by decide +kernel
theorem dX13_cutTape_113 : decode cX13_cutTape 113 = .ok (.aload_n 0, 1) := by decide +kernel
theorem dX13_cutTape_114 : decode cX13_cutTape 114 = .ok (.getfield 284, 3) := by decide +kernel
theorem dX13_cutTape_117 : decode cX13_cutTape 117 = .ok (.iadd, 1) := by decide +kernel
theorem dX13_cutTape_118 : decode cX13_cutTape 118 = .ok (.iconst 0, 1) := by decide +kernel
theorem dX13_cutTape_119 : decode cX13_cutTape 119 = .ok (.iastore, 1) := by decide +kernel
theorem dX13_cutTape_120 : decode cX13_cutTape 120 = .ok (.return_, 1) := by decide +kernel
theorem dX13_isRight_0 : decode cX13_isRight 0 = .ok (.aload_n 0, 1) := by decide +kernel
theorem dX13_isRight_1 : decode cX13_isRight 1 = .ok (.getfield 300, 3) := by decide +kernel
theorem dX13_isRight_4 : decode cX13_isRight 4 = .ok (.ifCond .ne 7, 3) := by decide +kernel
theorem dX13_isRight_7 : decode cX13_isRight 7 = .ok (.iconst 1, 1) := by decide +kernel
theorem dX13_isRight_8 : decode cX13_isRight 8 = .ok (.goto 4, 3) := by decide +kernel
theorem dX13_isRight_12 : decode cX13_isRight 12 = .ok (.ireturn, 1) := by decide +kernel
theorem dX13_readNext_0 : decode cX13_readNext 0 = .ok (.aload_n 0, 1) := by decide +kernel
theorem dX13_readNext_1 : decode cX13_readNext 1 = .ok (.getfield 19, 3) := by decide +kernel
theorem dX13_readNext_4 : decode cX13_readNext 4 = .ok (.aload_n 0, 1) := by decide +kernel
theorem dX13_readNext_5 : decode cX13_readNext 5 = .ok (.getfield 306, 3) := by decide +kernel
theorem dX13_readNext_8 : decode cX13_readNext 8 = .ok (.baload, 1) := by decide +kernel
theorem dX13_readNext_9 : decode cX13_readNext 9 = .ok (.iconst 4, 1) := by decide +kernel
theorem dX13_readNext_10 : decode cX13_readNext 10 = .ok (.if_icmp .ne 12, 3) := by decide +kernel
theorem dX13_readNext_22 : decode cX13_readNext 22 = .ok (.return_, 1) := by decide +kernel
theorem dX13_swingAll_0 : decode cX13_swingAll 0 = .ok (.aload_n 0, 1) := by decide +kernel
theorem dX13_swingAll_1 : decode cX13_swingAll 1 = .ok (.iconst 0, 1) := by decide +kernel
theorem dX13_swingAll_2 : decode cX13_swingAll 2 = .ok (.putfield 484, 3) := by decide +kernel
theorem dX13_swingAll_5 : decode cX13_swingAll 5 = .ok (.iload_n 1, 1) := by decide +kernel
theorem dX13_swingAll_6 : decode cX13_swingAll 6 = .ok (.ifCond .ne 74, 3) := by decide +kernel
theorem dX13_swingAll_9 : decode cX13_swingAll 9 = .ok (.aload_n 0, 1) := by decide +kernel
theorem dX13_swingAll_10 : decode cX13_swingAll 10 = .ok (.getfield 119, 3) := by decide +kernel
theorem dX13_swingAll_13 : decode cX13_swingAll 13 = .ok (.iconst 0, 1) := by decide +kernel
theorem dX13_swingAll_14 : decode cX13_swingAll 14 = .ok (.aload_n 0, 1) := by decide +kernel
theorem dX13_swingAll_15 : decode cX13_swingAll 15 = .ok (.getfield 333, 3) := by decide +kernel
theorem dX13_swingAll_18 : decode cX13_swingAll 18 = .ok (.iastore, 1) := by decide +kernel
theorem dX13_swingAll_19 : decode cX13_swingAll 19 = .ok (.aload_n 0, 1) := by decide +kernel
theorem dX13_swingAll_20 : decode cX13_swingAll 20 = .ok (.getfield 119, 3) := by decide +kernel
theorem dX13_swingAll_23 : decode cX13_swingAll 23 = .ok (.iconst 1, 1) := by decide +kernel
theorem dX13_swingAll_24 : decode cX13_swingAll 24 = .ok (.aload_n 0, 1) := by decide +kernel
theorem dX13_swingAll_25 : decode cX13_swingAll 25 = .ok (.getfield 340, 3) := by decide +kernel
theorem dX13_swingAll_28 : decode cX13_swingAll 28 = .ok (.iastore, 1) := by decide +kernel
theorem dX13_swingAll_29 : decode cX13_swingAll 29 = .ok (.aload_n 0, 1) := by decide +kernel
theorem dX13_swingAll_30 : decode cX13_swingAll 30 = .ok (.getfield 119, 3) := by decide +kernel
theorem dX13_swingAll_33 : decode cX13_swingAll 33 = .ok (.iconst 2, 1) := by decide +kernel
theorem dX13_swingAll_34 : decode cX13_swingAll 34 = .ok (.aload_n 0, 1) := by decide +kernel
theorem dX13_swingAll_35 : decode cX13_swingAll 35 = .ok (.getfield 369, 3) := by decide +kernel
theorem dX13_swingAll_38 : decode cX13_swingAll 38 = .ok (.iastore, 1) := by decide +kernel
theorem dX13_swingAll_39 : decode cX13_swingAll 39 = .ok (.aload_n 0, 1) := by decide +kernel
theorem dX13_swingAll_40 : decode cX13_swingAll 40 = .ok (.getfield 119, 3) := by decide +kernel
theorem dX13_swingAll_43 : decode cX13_swingAll 43 = .ok (.iconst 3, 1) := by decide +kernel
theorem dX13_swingAll_44 : decode cX13_swingAll 44 = .ok (.aload_n 0, 1) := by decide +kernel
theorem dX13_swingAll_45 : decode cX13_swingAll 45 = .ok (.getfield 343, 3) := by decide +kernel
theorem dX13_swingAll_48 : decode cX13_swingAll 48 = .ok (.iastore, 1) := by decide +kernel
theorem dX13_swingAll_49 : decode cX13_swingAll 49 = .ok (.aload_n 0, 1) := by decide +kernel
theorem dX13_swingAll_50 : decode cX13_swingAll 50 = .ok (.getfield 119, 3) := by decide +kernel
theorem dX13_swingAll_53 : decode cX13_swingAll 53 = .ok (.iconst 4, 1) := by decide +kernel
theorem dX13_swingAll_54 : decode cX13_swingAll 54 = .ok (.aload_n 0, 1) := by decide +kernel
theorem dX13_swingAll_55 : decode cX13_swingAll 55 = .ok (.getfield 378, 3) := by decide +kernel
theorem dX13_swingAll_58 : decode cX13_swingAll 58 = .ok (.iastore, 1) := by decide +kernel
theorem dX13_swingAll_59 : decode cX13_swingAll 59 = .ok (.aload_n 0, 1) := by decide +kernel
theorem dX13_swingAll_60 : decode cX13_swingAll 60 = .ok (.getfield 119, 3) := by decide +kernel
theorem dX13_swingAll_63 : decode cX13_swingAll 63 = .ok (.iconst 5, 1) := by decide +kernel
theorem dX13_swingAll_64 : decode cX13_swingAll 64 = .ok (.aload_n 0, 1) := by decide +kernel
theorem dX13_swingAll_65 : decode cX13_swingAll 65 = .ok (.getfield 487, 3) := by decide +kernel
theorem dX13_swingAll_68 : decode cX13_swingAll 68 = .ok (.iastore, 1) := by decide +kernel
theorem dX13_swingAll_69 : decode cX13_swingAll 69 = .ok (.aload_n 0, 1) := by decide +kernel
theorem dX13_swingAll_70 : decode cX13_swingAll 70 = .ok (.getfield 119, 3) := by decide +kernel
theorem dX13_swingAll_73 : decode cX13_swingAll 73 = .ok (.bipush 6, 2) := by decide +kernel
theorem dX13_swingAll_75 : decode cX13_swingAll 75 = .ok (.aload_n 0, 1) := by decide +kernel
theorem dX13_swingAll_76 : decode cX13_swingAll 76 = .ok (.getfield 281, 3) := by decide +kernel
theorem dX13_swingAll_79 : decode cX13_swingAll 79 = .ok (.iastore, 1) := by decide +kernel
theorem dX13_swingAll_80 : decode cX13_swingAll 80 = .ok (.aload_n 0, 1) := by decide +kernel
theorem dX13_swingAll_81 : decode cX13_swingAll 81 = .ok (.aload_n 0, 1) := by decide +kernel
theorem dX13_swingAll_82 : decode cX13_swingAll 82 = .ok (.getfield 119, 3) := by decide +kernel
theorem dX13_swingAll_85 : decode cX13_swingAll 85 = .ok (.bipush 8, 2) := by decide +kernel
theorem dX13_swingAll_87 : decode cX13_swingAll 87 = .ok (.iload_n 1, 1) := by decide +kernel
theorem dX13_swingAll_88 : decode cX13_swingAll 88 = .ok (.invokevirtual 490, 3) := by decide +kernel
theorem dX13_swingAll_91 : decode cX13_swingAll 91 = .ok (.aload_n 0, 1) := by decide +kernel
theorem dX13_swingAll_92 : decode cX13_swingAll 92 = .ok (.aload_n 0, 1) := by decide +kernel
theorem dX13_swingAll_93 : decode cX13_swingAll 93 = .ok (.getfield 36, 3) := by decide +kernel
theorem dX13_swingAll_96 : decode cX13_swingAll 96 = .ok (.bipush 10, 2) := by decide +kernel
theorem dX13_swingAll_98 : decode cX13_swingAll 98 = .ok (.iload_n 1, 1) := by decide +kernel
theorem dX13_swingAll_99 : decode cX13_swingAll 99 = .ok (.invokevirtual 490, 3) := by decide +kernel
theorem dX13_swingAll_102 : decode cX13_swingAll 102 = .ok (.aload_n 0, 1) := by decide +kernel
theorem dX13_swingAll_103 : decode cX13_swingAll 103 = .ok (.aload_n 0, 1) := by decide +kernel
theorem dX13_swingAll_104 : decode cX13_swingAll 104 = .ok (.getfield 39, 3) := by decide +kernel
theorem dX13_swingAll_107 : decode cX13_swingAll 107 = .ok (.bipush 10, 2) := by decide +kernel
theorem dX13_swingAll_109 : decode cX13_swingAll 109 = .ok (.iload_n 1, 1) := by decide +kernel
theorem dX13_swingAll_110 : decode cX13_swingAll 110 = .ok (.invokevirtual 490, 3) := by decide +kernel
theorem dX13_swingAll_113 : decode cX13_swingAll 113 = .ok (.aload_n 0, 1) := by decide +kernel
theorem dX13_swingAll_114 : decode cX13_swingAll 114 = .ok (.aload_n 0, 1) := by decide +kernel
theorem dX13_swingAll_115 : decode cX13_swingAll 115 = .ok (.getfield 42, 3) := by decide +kernel
theorem dX13_swingAll_118 : decode cX13_swingAll 118 = .ok (.iconst 3, 1) := by decide +kernel
theorem dX13_swingAll_119 : decode cX13_swingAll 119 = .ok (.iload_n 1, 1) := by decide +kernel
theorem dX13_swingAll_120 : decode cX13_swingAll 120 = .ok (.invokevirtual 490, 3) := by decide +kernel
theorem dX13_swingAll_123 : decode cX13_swingAll 123 = .ok (.aload_n 0, 1) := by decide +kernel
theorem dX13_swingAll_124 : decode cX13_swingAll 124 = .ok (.aload_n 0, 1) := by decide +kernel
theorem dX13_swingAll_125 : decode cX13_swingAll 125 = .ok (.getfield 45, 3) := by decide +kernel
theorem dX13_swingAll_128 : decode cX13_swingAll 128 = .ok (.iconst 3, 1) := by decide +kernel
theorem dX13_swingAll_129 : decode cX13_swingAll 129 = .ok (.iload_n 1, 1) := by decide +kernel
theorem dX13_swingAll_130 : decode cX13_swingAll 130 = .ok (.invokevirtual 490, 3) := by decide +kernel
theorem dX13_swingAll_133 : decode cX13_swingAll 133 = .ok (.aload_n 0, 1) := by decide +kernel
theorem dX13_swingAll_134 : decode cX13_swingAll 134 = .ok (.aload_n 0, 1) := by decide +kernel
theorem dX13_swingAll_135 : decode cX13_swingAll 135 = .ok (.getfield 48, 3) := by decide +kernel
theorem dX13_swingAll_138 : decode cX13_swingAll 138 = .ok (.iconst 3, 1) := by decide +kernel
theorem dX13_swingAll_139 : decode cX13_swingAll 139 = .ok (.iload_n 1, 1) := by decide +kernel
theorem dX13_swingAll_140 : decode cX13_swingAll 140 = .ok (.invokevirtual 490, 3) := by decide +kernel
theorem dX13_swingAll_143 : decode cX13_swingAll 143 = .ok (.aload_n 0, 1) := by decide +kernel
theorem dX13_swingAll_144 : decode cX13_swingAll 144 = .ok (.aload_n 0, 1) := by decide +kernel
theorem dX13_swingAll_145 : decode cX13_swingAll 145 = .ok (.getfield 51, 3) := by decide +kernel
theorem dX13_swingAll_148 : decode cX13_swingAll 148 = .ok (.bipush 10, 2) := by decide +kernel
theorem dX13_swingAll_150 : decode cX13_swingAll 150 = .ok (.iload_n 1, 1) := by decide +kernel
theorem dX13_swingAll_151 : decode cX13_swingAll 151 = .ok (.invokevirtual 490, 3) := by decide +kernel
theorem dX13_swingAll_154 : decode cX13_swingAll 154 = .ok (.aload_n 0, 1) := by decide +kernel
theorem dX13_swingAll_155 : decode cX13_swingAll 155 = .ok (.aload_n 0, 1) := by decide +kernel
theorem dX13_swingAll_156 : decode cX13_swingAll 156 = .ok (.getfield 54, 3) := by decide +kernel
theorem dX13_swingAll_159 : decode cX13_swingAll 159 = .ok (.bipush 10, 2) := by decide +kernel
theorem dX13_swingAll_161 : decode cX13_swingAll 161 = .ok (.iload_n 1, 1) := by decide +kernel
theorem dX13_swingAll_162 : decode cX13_swingAll 162 = .ok (.invokevirtual 490, 3) := by decide +kernel
theorem dX13_swingAll_165 : decode cX13_swingAll 165 = .ok (.aload_n 0, 1) := by decide +kernel
theorem dX13_swingAll_166 : decode cX13_swingAll 166 = .ok (.aload_n 0, 1) := by decide +kernel
theorem dX13_swingAll_167 : decode cX13_swingAll 167 = .ok (.getfield 57, 3) := by decide +kernel
theorem dX13_swingAll_170 : decode cX13_swingAll 170 = .ok (.bipush 10, 2) := by decide +kernel
theorem dX13_swingAll_172 : decode cX13_swingAll 172 = .ok (.iload_n 1, 1) := by decide +kernel
theorem dX13_swingAll_173 : decode cX13_swingAll 173 = .ok (.invokevirtual 490, 3) := by decide +kernel
theorem dX13_swingAll_176 : decode cX13_swingAll 176 = .ok (.aload_n 0, 1) := by decide +kernel
theorem dX13_swingAll_177 : decode cX13_swingAll 177 = .ok (.aload_n 0, 1) := by decide +kernel
theorem dX13_swingAll_178 : decode cX13_swingAll 178 = .ok (.getfield 60, 3) := by decide +kernel
theorem dX13_swingAll_181 : decode cX13_swingAll 181 = .ok (.bipush 80, 2) := by decide +kernel
theorem dX13_swingAll_183 : decode cX13_swingAll 183 = .ok (.iload_n 1, 1) := by decide +kernel
theorem dX13_swingAll_184 : decode cX13_swingAll 184 = .ok (.invokevirtual 490, 3) := by decide +kernel
theorem dX13_swingAll_187 : decode cX13_swingAll 187 = .ok (.aload_n 0, 1) := by decide +kernel
theorem dX13_swingAll_188 : decode cX13_swingAll 188 = .ok (.aload_n 0, 1) := by decide +kernel
theorem dX13_swingAll_189 : decode cX13_swingAll 189 = .ok (.getfield 63, 3) := by decide +kernel
theorem dX13_swingAll_192 : decode cX13_swingAll 192 = .ok (.bipush 10, 2) := by decide +kernel
theorem dX13_swingAll_194 : decode cX13_swingAll 194 = .ok (.iload_n 1, 1) := by decide +kernel
theorem dX13_swingAll_195 : decode cX13_swingAll 195 = .ok (.invokevirtual 490, 3) := by decide +kernel
theorem dX13_swingAll_198 : decode cX13_swingAll 198 = .ok (.aload_n 0, 1) := by decide +kernel
theorem dX13_swingAll_199 : decode cX13_swingAll 199 = .ok (.aload_n 0, 1) := by decide +kernel
theorem dX13_swingAll_200 : decode cX13_swingAll 200 = .ok (.getfield 66, 3) := by decide +kernel
theorem dX13_swingAll_203 : decode cX13_swingAll 203 = .ok (.sipush 150, 3) := by decide +kernel
theorem dX13_swingAll_206 : decode cX13_swingAll 206 = .ok (.iload_n 1, 1) := by decide +kernel
theorem dX13_swingAll_207 : decode cX13_swingAll 207 = .ok (.invokevirtual 490, 3) := by decide +kernel
theorem dX13_swingAll_210 : decode cX13_swingAll 210 = .ok (.aload_n 0, 1) := by decide +kernel
theorem dX13_swingAll_211 : decode cX13_swingAll 211 = .ok (.aload_n 0, 1) := by decide +kernel
theorem dX13_swingAll_212 : decode cX13_swingAll 212 = .ok (.getfield 69, 3) := by decide +kernel
theorem dX13_swingAll_215 : decode cX13_swingAll 215 = .ok (.sipush 150, 3) := by decide +kernel
theorem dX13_swingAll_218 : decode cX13_swingAll 218 = .ok (.iload_n 1, 1) := by decide +kernel
theorem dX13_swingAll_219 : decode cX13_swingAll 219 = .ok (.invokevirtual 490, 3) := by decide +kernel
theorem dX13_swingAll_222 : decode cX13_swingAll 222 = .ok (.aload_n 0, 1) := by decide +kernel
theorem dX13_swingAll_223 : decode cX13_swingAll 223 = .ok (.aload_n 0, 1) := by decide +kernel
theorem dX13_swingAll_224 : decode cX13_swingAll 224 = .ok (.getfield 72, 3) := by decide +kernel
theorem dX13_swingAll_227 : decode cX13_swingAll 227 = .ok (.sipush 150, 3) := by decide +kernel
theorem dX13_swingAll_230 : decode cX13_swingAll 230 = .ok (.iload_n 1, 1) := by decide +kernel
theorem dX13_swingAll_231 : decode cX13_swingAll 231 = .ok (.invokevirtual 490, 3) := by decide +kernel
theorem dX13_swingAll_234 : decode cX13_swingAll 234 = .ok (.aload_n 0, 1) := by decide +kernel
theorem dX13_swingAll_235 : decode cX13_swingAll 235 = .ok (.aload_n 0, 1) := by decide +kernel
theorem dX13_swingAll_236 : decode cX13_swingAll 236 = .ok (.getfield 75, 3) := by decide +kernel
theorem dX13_swingAll_239 : decode cX13_swingAll 239 = .ok (.sipush 150, 3) := by decide +kernel
theorem dX13_swingAll_242 : decode cX13_swingAll 242 = .ok (.iload_n 1, 1) := by decide +kernel
theorem dX13_swingAll_243 : decode cX13_swingAll 243 = .ok (.invokevirtual 490, 3) := by decide +kernel
theorem dX13_swingAll_246 : decode cX13_swingAll 246 = .ok (.aload_n 0, 1) := by decide +kernel
theorem dX13_swingAll_247 : decode cX13_swingAll 247 = .ok (.aload_n 0, 1) := by decide +kernel
theorem dX13_swingAll_248 : decode cX13_swingAll 248 = .ok (.getfield 78, 3) := by decide +kernel
theorem dX13_swingAll_251 : decode cX13_swingAll 251 = .ok (.sipush 150, 3) := by decide +kernel
theorem dX13_swingAll_254 : decode cX13_swingAll 254 = .ok (.iload_n 1, 1) := by decide +kernel
theorem dX13_swingAll_255 : decode cX13_swingAll 255 = .ok (.invokevirtual 490, 3) := by decide +kernel
theorem dX13_swingAll_258 : decode cX13_swingAll 258 = .ok (.aload_n 0, 1) := by decide +kernel
theorem dX13_swingAll_259 : decode cX13_swingAll 259 = .ok (.aload_n 0, 1) := by decide +kernel
theorem dX13_swingAll_260 : decode cX13_swingAll 260 = .ok (.getfield 81, 3) := by decide +kernel
theorem dX13_swingAll_263 : decode cX13_swingAll 263 = .ok (.sipush 150, 3) := by decide +kernel
theorem dX13_swingAll_266 : decode cX13_swingAll 266 = .ok (.iload_n 1, 1) := by decide +kernel
theorem dX13_swingAll_267 : decode cX13_swingAll 267 = .ok (.invokevirtual 490, 3) := by decide +kernel
theorem dX13_swingAll_270 : decode cX13_swingAll 270 = .ok (.aload_n 0, 1) := by decide +kernel
theorem dX13_swingAll_271 : decode cX13_swingAll 271 = .ok (.aload_n 0, 1) := by decide +kernel
theorem dX13_swingAll_272 : decode cX13_swingAll 272 = .ok (.getfield 84, 3) := by decide +kernel
theorem dX13_swingAll_275 : decode cX13_swingAll 275 = .ok (.sipush 150, 3) := by decide +kernel
theorem dX13_swingAll_278 : decode cX13_swingAll 278 = .ok (.iload_n 1, 1) := by decide +kernel
theorem dX13_swingAll_279 : decode cX13_swingAll 279 = .ok (.invokevirtual 490, 3) := by decide +kernel
theorem dX13_swingAll_282 : decode cX13_swingAll 282 = .ok (.aload_n 0, 1) := by decide +kernel
theorem dX13_swingAll_283 : decode cX13_swingAll 283 = .ok (.aload_n 0, 1) := by decide +kernel
theorem dX13_swingAll_284 : decode cX13_swingAll 284 = .ok (.getfield 87, 3) := by decide +kernel
theorem dX13_swingAll_287 : decode cX13_swingAll 287 = .ok (.sipush 150, 3) := by decide +kernel
theorem dX13_swingAll_290 : decode cX13_swingAll 290 = .ok (.iload_n 1, 1) := by decide +kernel
theorem dX13_swingAll_291 : decode cX13_swingAll 291 = .ok (.invokevirtual 490, 3) := by decide +kernel
theorem dX13_swingAll_294 : decode cX13_swingAll 294 = .ok (.aload_n 0, 1) := by decide +kernel
theorem dX13_swingAll_295 : decode cX13_swingAll 295 = .ok (.aload_n 0, 1) := by decide +kernel
theorem dX13_swingAll_296 : decode cX13_swingAll 296 = .ok (.getfield 90, 3) := by decide +kernel
theorem dX13_swingAll_299 : decode cX13_swingAll 299 = .ok (.sipush 150, 3) := by decide +kernel
theorem dX13_swingAll_302 : decode cX13_swingAll 302 = .ok (.iload_n 1, 1) := by decide +kernel
theorem dX13_swingAll_303 : decode cX13_swingAll 303 = .ok (.invokevirtual 490, 3) := by decide +kernel
theorem dX13_swingAll_306 : decode cX13_swingAll 306 = .ok (.iload_n 1, 1) := by decide +kernel
theorem dX13_swingAll_307 : decode cX13_swingAll 307 = .ok (.ifCond .eq 74, 3) := by decide +kernel
theorem dX13_swingAll_310 : decode cX13_swingAll 310 = .ok (.aload_n 0, 1) := by decide +kernel
theorem dX13_swingAll_311 : decode cX13_swingAll 311 = .ok (.aload_n 0, 1) := by decide +kernel
theorem dX13_swingAll_312 : decode cX13_swingAll 312 = .ok (.getfield 119, 3) := by decide +kernel
theorem dX13_swingAll_315 : decode cX13_swingAll 315 = .ok (.iconst 0, 1) := by decide +kernel
theorem dX13_swingAll_316 : decode cX13_swingAll 316 = .ok (.iaload, 1) := by decide +kernel
theorem dX13_swingAll_317 : decode cX13_swingAll 317 = .ok (.putfield 333, 3) := by decide +kernel
theorem dX13_swingAll_320 : decode cX13_swingAll 320 = .ok (.aload_n 0, 1) := by decide +kernel
theorem dX13_swingAll_321 : decode cX13_swingAll 321 = .ok (.aload_n 0, 1) := by decide +kernel
theorem dX13_swingAll_322 : decode cX13_swingAll 322 = .ok (.getfield 119, 3) := by decide +kernel
theorem dX13_swingAll_325 : decode cX13_swingAll 325 = .ok (.iconst 1, 1) := by decide +kernel
theorem dX13_swingAll_326 : decode cX13_swingAll 326 = .ok (.iaload, 1) := by decide +kernel
theorem dX13_swingAll_327 : decode cX13_swingAll 327 = .ok (.putfield 340, 3) := by decide +kernel
theorem dX13_swingAll_330 : decode cX13_swingAll 330 = .ok (.aload_n 0, 1) := by decide +kernel
theorem dX13_swingAll_331 : decode cX13_swingAll 331 = .ok (.aload_n 0, 1) := by decide +kernel
theorem dX13_swingAll_332 : decode cX13_swingAll 332 = .ok (.getfield 119, 3) := by decide +kernel
theorem dX13_swingAll_335 : decode cX13_swingAll 335 = .ok (.iconst 2, 1) := by decide +kernel
theorem dX13_swingAll_336 : decode cX13_swingAll 336 = .ok (.iaload, 1) := by decide +kernel
theorem dX13_swingAll_337 : decode cX13_swingAll 337 = .ok (.putfield 369, 3) := by decide +kernel
theorem dX13_swingAll_340 : decode cX13_swingAll 340 = .ok (.aload_n 0, 1) := by decide +kernel
theorem dX13_swingAll_341 : decode cX13_swingAll 341 = .ok (.aload_n 0, 1) := by decide +kernel
theorem dX13_swingAll_342 : decode cX13_swingAll 342 = .ok (.getfield 119, 3) := by decide +kernel
theorem dX13_swingAll_345 : decode cX13_swingAll 345 = .ok (.iconst 3, 1) := by decide +kernel
theorem dX13_swingAll_346 : decode cX13_swingAll 346 = .ok (.iaload, 1) := by decide +kernel
theorem dX13_swingAll_347 : decode cX13_swingAll 347 = .ok (.putfield 343, 3) := by decide +kernel
theorem dX13_swingAll_350 : decode cX13_swingAll 350 = .ok (.aload_n 0, 1) := by decide +kernel
theorem dX13_swingAll_351 : decode cX13_swingAll 351 = .ok (.aload_n 0, 1) := by decide +kernel
theorem dX13_swingAll_352 : decode cX13_swingAll 352 = .ok (.getfield 119, 3) := by decide +kernel
theorem dX13_swingAll_355 : decode cX13_swingAll 355 = .ok (.iconst 4, 1) := by decide +kernel
theorem dX13_swingAll_356 : decode cX13_swingAll 356 = .ok (.iaload, 1) := by decide +kernel
theorem dX13_swingAll_357 : decode cX13_swingAll 357 = .ok (.putfield 378, 3) := by decide +kernel
theorem dX13_swingAll_360 : decode cX13_swingAll 360 = .ok (.aload_n 0, 1) := by decide +kernel
theorem dX13_swingAll_361 : decode cX13_swingAll 361 = .ok (.aload_n 0, 1) := by decide +kernel
theorem dX13_swingAll_362 : decode cX13_swingAll 362 = .ok (.getfield 119, 3) := by decide +kernel
theorem dX13_swingAll_365 : decode cX13_swingAll 365 = .ok (.iconst 5, 1) := by decide +kernel
theorem dX13_swingAll_366 : decode cX13_swingAll 366 = .ok (.iaload, 1) := by decide +kernel
theorem dX13_swingAll_367 : decode cX13_swingAll 367 = .ok (.putfield 487, 3) := by decide +kernel
theorem dX13_swingAll_370 : decode cX13_swingAll 370 = .ok (.aload_n 0, 1) := by decide +kernel
theorem dX13_swingAll_371 : decode cX13_swingAll 371 = .ok (.aload_n 0, 1) := by decide +kernel
theorem dX13_swingAll_372 : decode cX13_swingAll 372 = .ok (.getfield 119, 3) := by decide +kernel
theorem dX13_swingAll_375 : decode cX13_swingAll 375 = .ok (.bipush 6, 2) := by decide +kernel
theorem dX13_swingAll_377 : decode cX13_swingAll 377 = .ok (.iaload, 1) := by decide +kernel
theorem dX13_swingAll_378 : decode cX13_swingAll 378 = .ok (.putfield 281, 3) := by decide +kernel
theorem dX13_swingAll_381 : decode cX13_swingAll 381 = .ok (.return_, 1) := by decide +kernel
theorem dX13_tellProgram_0 : decode cX13_tellProgram 0 = .ok (.aload_n 0, 1) := by decide +kernel
theorem dX13_tellProgram_1 : decode cX13_tellProgram 1 = .ok (.iconst 0, 1) := by decide +kernel
theorem dX13_tellProgram_2 : decode cX13_tellProgram 2 = .ok (.putfield 438, 3) := by decide +kernel
theorem dX13_tellProgram_5 : decode cX13_tellProgram 5 = .ok (.aload_n 0, 1) := by decide +kernel
theorem dX13_tellProgram_6 : decode cX13_tellProgram 6 = .ok (.iconst 0, 1) := by decide +kernel
theorem dX13_tellProgram_7 : decode cX13_tellProgram 7 = .ok (.putfield 428, 3) := by decide +kernel
theorem dX13_tellProgram_10 : decode cX13_tellProgram 10 = .ok (.aload_n 0, 1) := by decide +kernel
theorem dX13_tellProgram_11 : decode cX13_tellProgram 11 = .ok (.iconst 0, 1) := by decide +kernel
theorem dX13_tellProgram_12 : decode cX13_tellProgram 12 = .ok (.putfield 300, 3) := by decide +kernel
theorem dX13_tellProgram_15 : decode cX13_tellProgram 15 = .ok (.aload_n 0, 1) := by decide +kernel
theorem dX13_tellProgram_16 : decode cX13_tellProgram 16 = .ok (.iconst 0, 1) := by decide +kernel
theorem dX13_tellProgram_17 : decode cX13_tellProgram 17 = .ok (.putfield 303, 3) := by decide +kernel
theorem dX13_tellProgram_20 : decode cX13_tellProgram 20 = .ok (.aload_n 0, 1) := by decide +kernel
theorem dX13_tellProgram_21 : decode cX13_tellProgram 21 = .ok (.iconst 0, 1) := by decide +kernel
theorem dX13_tellProgram_22 : decode cX13_tellProgram 22 = .ok (.putfield 322, 3) := by decide +kernel
theorem dX13_tellProgram_25 : decode cX13_tellProgram 25 = .ok (.aload_n 0, 1) := by decide +kernel
theorem dX13_tellProgram_26 : decode cX13_tellProgram 26 = .ok (.iconst 0, 1) := by decide +kernel
theorem dX13_tellProgram_27 : decode cX13_tellProgram 27 = .ok (.putfield 333, 3) := by decide +kernel
theorem dX13_tellProgram_30 : decode cX13_tellProgram 30 = .ok (.aload_n 0, 1) := by decide +kernel
theorem dX13_tellProgram_31 : decode cX13_tellProgram 31 = .ok (.iconst 0, 1) := by decide +kernel
theorem dX13_tellProgram_32 : decode cX13_tellProgram 32 = .ok (.putfield 340, 3) := by decide +kernel
theorem dX13_tellProgram_35 : decode cX13_tellProgram 35 = .ok (.aload_n 0, 1) := by decide +kernel
theorem dX13_tellProgram_36 : decode cX13_tellProgram 36 = .ok (.iconst 0, 1) := by decide +kernel
theorem dX13_tellProgram_37 : decode cX13_tellProgram 37 = .ok (.putfield 369, 3) := by decide +kernel
theorem dX13_tellProgram_40 : decode cX13_tellProgram 40 = .ok (.aload_n 0, 1) := by decide +kernel
theorem dX13_tellProgram_41 : decode cX13_tellProgram 41 = .ok (.iconst 0, 1) := by decide +kernel
theorem dX13_tellProgram_42 : decode cX13_tellProgram 42 = .ok (.putfield 343, 3) := by decide +kernel
theorem dX13_tellProgram_45 : decode cX13_tellProgram 45 = .ok (.aload_n 0, 1) := by decide +kernel
theorem dX13_tellProgram_46 : decode cX13_tellProgram 46 = .ok (.iconst 0, 1) := by decide +kernel
theorem dX13_tellProgram_47 : decode cX13_tellProgram 47 = .ok (.putfield 378, 3) := by decide +kernel
theorem dX13_tellProgram_50 : decode cX13_tellProgram 50 = .ok (.aload_n 0, 1) := by decide +kernel
theorem dX13_tellProgram_51 : decode cX13_tellProgram 51 = .ok (.aload_n 0, 1) := by decide +kernel
theorem dX13_tellProgram_52 : decode cX13_tellProgram 52 = .ok (.getfield 281, 3) := by decide +kernel
theorem dX13_tellProgram_55 : decode cX13_tellProgram 55 = .ok (.ifCond .ne 9, 3) := by decide +kernel
theorem dX13_tellProgram_58 : decode cX13_tellProgram 58 = .ok (.ldc_w 494, 3) := by decide +kernel
theorem dX13_tellProgram_61 : decode cX13_tellProgram 61 = .ok (.goto 4, 3) := by decide +kernel
theorem dX13_tellProgram_65 : decode cX13_tellProgram 65 = .ok (.putfield 281, 3) := by decide +kernel
theorem dX13_tellProgram_68 : decode cX13_tellProgram 68 = .ok (.aload_n 0, 1) := by decide +kernel
theorem dX13_tellProgram_69 : decode cX13_tellProgram 69 = .ok (.invokevirtual 495, 3) := by decide +kernel
theorem dX13_tellProgram_72 : decode cX13_tellProgram 72 = .ok (.aload_n 0, 1) := by decide +kernel
theorem dX13_tellProgram_73 : decode cX13_tellProgram 73 = .ok (.aload_n 0, 1) := by decide +kernel
theorem dX13_tellProgram_74 : decode cX13_tellProgram 74 = .ok (.getfield 281, 3) := by decide +kernel
theorem dX13_tellProgram_77 : decode cX13_tellProgram 77 = .ok (.putfield 306, 3) := by decide +kernel
theorem dX13_tellProgram_80 : decode cX13_tellProgram 80 = .ok (.aload_n 0, 1) := by decide +kernel
theorem dX13_tellProgram_81 : decode cX13_tellProgram 81 = .ok (.invokevirtual 309, 3) := by decide +kernel
theorem dX13_tellProgram_84 : decode cX13_tellProgram 84 = .ok (.aload_n 0, 1) := by decide +kernel
theorem dX13_tellProgram_85 : decode cX13_tellProgram 85 = .ok (.invokevirtual 325, 3) := by decide +kernel
theorem dX13_tellProgram_88 : decode cX13_tellProgram 88 = .ok (.ifCond .eq 73, 3) := by decide +kernel
theorem dX13_tellProgram_91 : decode cX13_tellProgram 91 = .ok (.aload_n 0, 1) := by decide +kernel
theorem dX13_tellProgram_92 : decode cX13_tellProgram 92 = .ok (.getfield 19, 3) := by decide +kernel
theorem dX13_tellProgram_95 : decode cX13_tellProgram 95 = .ok (.aload_n 0, 1) := by decide +kernel
theorem dX13_tellProgram_96 : decode cX13_tellProgram 96 = .ok (.getfield 306, 3) := by decide +kernel
theorem dX13_tellProgram_99 : decode cX13_tellProgram 99 = .ok (.baload, 1) := by decide +kernel
theorem dX13_tellProgram_100 : decode cX13_tellProgram 100 = .ok (.iconst 5, 1) := by decide +kernel
theorem dX13_tellProgram_101 : decode cX13_tellProgram 101 = .ok (.if_icmp .eq 60, 3) := by decide +kernel
theorem dX13_tellProgram_161 : decode cX13_tellProgram 161 = .ok (.aload_n 0, 1) := by decide +kernel
theorem dX13_tellProgram_162 : decode cX13_tellProgram 162 = .ok (.invokevirtual 325, 3) := by decide +kernel
theorem dX13_tellProgram_165 : decode cX13_tellProgram 165 = .ok (.ifCond .eq 7, 3) := by decide +kernel
theorem dX13_tellProgram_168 : decode cX13_tellProgram 168 = .ok (.aload_n 0, 1) := by decide +kernel
theorem dX13_tellProgram_169 : decode cX13_tellProgram 169 = .ok (.invokevirtual 507, 3) := by decide +kernel
theorem dX13_tellProgram_172 : decode cX13_tellProgram 172 = .ok (.return_, 1) := by decide +kernel
theorem dX13_lookAtCalls_0 : decode cX13_lookAtCalls 0 = .ok (.iconst 0, 1) := by decide +kernel
theorem dX13_lookAtCalls_1 : decode cX13_lookAtCalls 1 = .ok (.istore_n 1, 1) := by decide +kernel
theorem dX13_lookAtCalls_2 : decode cX13_lookAtCalls 2 = .ok (.iload_n 1, 1) := by decide +kernel
theorem dX13_lookAtCalls_3 : decode cX13_lookAtCalls 3 = .ok (.aload_n 0, 1) := by decide +kernel
theorem dX13_lookAtCalls_4 : decode cX13_lookAtCalls 4 = .ok (.getfield 378, 3) := by decide +kernel
theorem dX13_lookAtCalls_7 : decode cX13_lookAtCalls 7 = .ok (.if_icmp .ge 84, 3) := by decide +kernel
theorem dX13_lookAtCalls_91 : decode cX13_lookAtCalls 91 = .ok (.aload_n 0, 1) := by decide +kernel
theorem dX13_lookAtCalls_92 : decode cX13_lookAtCalls 92 = .ok (.iconst (-1), 1) := by decide +kernel
theorem dX13_lookAtCalls_93 : decode cX13_lookAtCalls 93 = .ok (.putfield 487, 3) := by decide +kernel
theorem dX13_lookAtCalls_96 : decode cX13_lookAtCalls 96 = .ok (.iconst 0, 1) := by decide +kernel
theorem dX13_lookAtCalls_97 : decode cX13_lookAtCalls 97 = .ok (.istore_n 1, 1) := by decide +kernel
theorem dX13_lookAtCalls_98 : decode cX13_lookAtCalls 98 = .ok (.iload_n 1, 1) := by decide +kernel
theorem dX13_lookAtCalls_99 : decode cX13_lookAtCalls 99 = .ok (.aload_n 0, 1) := by decide +kernel
theorem dX13_lookAtCalls_100 : decode cX13_lookAtCalls 100 = .ok (.getfield 343, 3) := by decide +kernel
theorem dX13_lookAtCalls_103 : decode cX13_lookAtCalls 103 = .ok (.if_icmp .ge 70, 3) := by decide +kernel
theorem dX13_lookAtCalls_173 : decode cX13_lookAtCalls 173 = .ok (.aload_n 0, 1) := by decide +kernel
theorem dX13_lookAtCalls_174 : decode cX13_lookAtCalls 174 = .ok (.invokevirtual 325, 3) := by decide +kernel
theorem dX13_lookAtCalls_177 : decode cX13_lookAtCalls 177 = .ok (.ifCond .eq 25, 3) := by decide +kernel
theorem dX13_lookAtCalls_180 : decode cX13_lookAtCalls 180 = .ok (.aload_n 0, 1) := by decide +kernel
theorem dX13_lookAtCalls_181 : decode cX13_lookAtCalls 181 = .ok (.getfield 487, 3) := by decide +kernel
theorem dX13_lookAtCalls_184 : decode cX13_lookAtCalls 184 = .ok (.iconst (-1), 1) := by decide +kernel
theorem dX13_lookAtCalls_185 : decode cX13_lookAtCalls 185 = .ok (.if_icmp .ne 17, 3) := by decide +kernel
theorem dX13_lookAtCalls_188 : decode cX13_lookAtCalls 188 = .ok (.aload_n 0, 1) := by decide +kernel
theorem dX13_lookAtCalls_189 : decode cX13_lookAtCalls 189 = .ok (.bipush 17, 2) := by decide +kernel
theorem dX13_lookAtCalls_191 : decode cX13_lookAtCalls 191 = .ok (.putfield 300, 3) := by decide +kernel
theorem dX13_lookAtCalls_194 : decode cX13_lookAtCalls 194 = .ok (.aload_n 0, 1) := by decide +kernel
theorem dX13_lookAtCalls_195 : decode cX13_lookAtCalls 195 = .ok (.aload_n 0, 1) := by decide +kernel
theorem dX13_lookAtCalls_196 : decode cX13_lookAtCalls 196 = .ok (.getfield 253, 3) := by decide +kernel
theorem dX13_lookAtCalls_199 : decode cX13_lookAtCalls 199 = .ok (.putfield 303, 3) := by decide +kernel
theorem dX13_lookAtCalls_202 : decode cX13_lookAtCalls 202 = .ok (.iconst 0, 1) := by decide +kernel
theorem dX13_lookAtCalls_203 : decode cX13_lookAtCalls 203 = .ok (.istore_n 1, 1) := by decide +kernel
theorem dX13_lookAtCalls_204 : decode cX13_lookAtCalls 204 = .ok (.iload_n 1, 1) := by decide +kernel
theorem dX13_lookAtCalls_205 : decode cX13_lookAtCalls 205 = .ok (.aload_n 0, 1) := by decide +kernel
theorem dX13_lookAtCalls_206 : decode cX13_lookAtCalls 206 = .ok (.getfield 378, 3) := by decide +kernel
theorem dX13_lookAtCalls_209 : decode cX13_lookAtCalls 209 = .ok (.if_icmp .ge 88, 3) := by decide +kernel
theorem dX13_lookAtCalls_297 : decode cX13_lookAtCalls 297 = .ok (.return_, 1) := by decide +kernel
theorem dX13_program_0 : decode cX13_program 0 = .ok (.aload_n 0, 1) := by decide +kernel
theorem dX13_program_1 : decode cX13_program 1 = .ok (.iconst 0, 1) := by decide +kernel
theorem dX13_program_2 : decode cX13_program 2 = .ok (.putfield 1, 3) := by decide +kernel
theorem dX13_program_5 : decode cX13_program 5 = .ok (.aload_n 0, 1) := by decide +kernel
theorem dX13_program_6 : decode cX13_program 6 = .ok (.iconst 0, 1) := by decide +kernel
theorem dX13_program_7 : decode cX13_program 7 = .ok (.invokevirtual 519, 3) := by decide +kernel
theorem dX13_program_10 : decode cX13_program 10 = .ok (.aload_n 0, 1) := by decide +kernel
theorem dX13_program_11 : decode cX13_program 11 = .ok (.invokevirtual 523, 3) := by decide +kernel
theorem dX13_program_14 : decode cX13_program 14 = .ok (.aload_n 0, 1) := by decide +kernel
theorem dX13_program_15 : decode cX13_program 15 = .ok (.iconst 0, 1) := by decide +kernel
theorem dX13_program_16 : decode cX13_program 16 = .ok (.putfield 253, 3) := by decide +kernel
theorem dX13_program_19 : decode cX13_program 19 = .ok (.aload_n 0, 1) := by decide +kernel
theorem dX13_program_20 : decode cX13_program 20 = .ok (.aload_n 0, 1) := by decide +kernel
theorem dX13_program_21 : decode cX13_program 21 = .ok (.getfield 300, 3) := by decide +kernel
theorem dX13_program_24 : decode cX13_program 24 = .ok (.putfield 526, 3) := by decide +kernel
theorem dX13_program_27 : decode cX13_program 27 = .ok (.aload_n 0, 1) := by decide +kernel
theorem dX13_program_28 : decode cX13_program 28 = .ok (.getfield 300, 3) := by decide +kernel
theorem dX13_program_31 : decode cX13_program 31 = .ok (.ifCond .le 15, 3) := by decide +kernel
theorem dX13_program_34 : decode cX13_program 34 = .ok (.aload_n 0, 1) := by decide +kernel
theorem dX13_program_35 : decode cX13_program 35 = .ok (.iconst 1, 1) := by decide +kernel
theorem dX13_program_36 : decode cX13_program 36 = .ok (.invokevirtual 519, 3) := by decide +kernel
theorem dX13_program_39 : decode cX13_program 39 = .ok (.iconst (-1), 1) := by decide +kernel
theorem dX13_program_40 : decode cX13_program 40 = .ok (.aload_n 0, 1) := by decide +kernel
theorem dX13_program_41 : decode cX13_program 41 = .ok (.getfield 303, 3) := by decide +kernel
theorem dX13_program_44 : decode cX13_program 44 = .ok (.isub, 1) := by decide +kernel
theorem dX13_program_45 : decode cX13_program 45 = .ok (.ireturn, 1) := by decide +kernel
