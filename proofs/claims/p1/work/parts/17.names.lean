abbrev cX13_within : ByteArray := prog_15_method_3_code
def yX13_within : MethodName := ⟨RX13, "within", "(III)Z"⟩
abbrev cX13_end : ByteArray := prog_15_method_5_code
def yX13_end : MethodName := ⟨RX13, "end", "(I)V"⟩
abbrev cX13_fault : ByteArray := prog_15_method_69_code
def yX13_fault : MethodName := ⟨RX13, "fault", "()I"⟩
abbrev cX13_explore : ByteArray := prog_15_method_93_code
def yX13_explore : MethodName := ⟨RX13, "explore", "(I)I"⟩
abbrev cX13_count : ByteArray := prog_15_method_102_code
def yX13_count : MethodName := ⟨RX13, "count", "(I)I"⟩
abbrev cX13_isState : ByteArray := prog_15_method_103_code
def yX13_isState : MethodName := ⟨RX13, "isState", "(I)Z"⟩
abbrev cX13_state : ByteArray := prog_15_method_105_code
def yX13_state : MethodName := ⟨RX13, "state", "(II)I"⟩
abbrev cX13_value : ByteArray := prog_15_method_106_code
def yX13_value : MethodName := ⟨RX13, "value", "(III)I"⟩
abbrev cX13_next : ByteArray := prog_15_method_107_code
def yX13_next : MethodName := ⟨RX13, "next", "(III)I"⟩
abbrev cX13_ending : ByteArray := prog_15_method_108_code
def yX13_ending : MethodName := ⟨RX13, "ending", "(II)I"⟩
abbrev cX13_decide : ByteArray := prog_15_method_109_code
def yX13_decide : MethodName := ⟨RX13, "decide", "(II)I"⟩
abbrev cX13_decided : ByteArray := prog_15_method_110_code
def yX13_decided : MethodName := ⟨RX13, "decided", "(I)I"⟩
abbrev cX13_solve : ByteArray := prog_15_method_143_code
def yX13_solve : MethodName := ⟨RX13, "solve", "()I"⟩
abbrev cX13_show : ByteArray := prog_15_method_151_code
def yX13_show : MethodName := ⟨RX13, "show", "(II)I"⟩
abbrev cX13_tell : ByteArray := prog_15_method_155_code
def yX13_tell : MethodName := ⟨RX13, "tell", "(I)I"⟩
abbrev cX13_forget : ByteArray := prog_15_method_156_code
def yX13_forget : MethodName := ⟨RX13, "forget", "()I"⟩
abbrev cX13_go_ : ByteArray := prog_15_method_160_code
def yX13_go_ : MethodName := ⟨RX13, "go", "(I)I"⟩
abbrev cX13_play : ByteArray := prog_15_method_161_code
def yX13_play : MethodName := ⟨RX13, "play", "(JI)I"⟩
abbrev cX13_walk : ByteArray := prog_15_method_162_code
def yX13_walk : MethodName := ⟨RX13, "walk", "(I)I"⟩
abbrev cX13_played : ByteArray := prog_15_method_163_code
def yX13_played : MethodName := ⟨RX13, "played", "(I)J"⟩
abbrev cX13_best : ByteArray := prog_15_method_171_code
def yX13_best : MethodName := ⟨RX13, "best", "()I"⟩
abbrev cX13_independent : ByteArray := prog_15_method_180_code
def yX13_independent : MethodName := ⟨RX13, "independent", "(II)Z"⟩
abbrev cX13_given : ByteArray := prog_15_method_181_code
def yX13_given : MethodName := ⟨RX13, "given", "(III)Z"⟩
theorem dX13_within_0 : decode cX13_within 0 = .ok (.iload_n 0, 1) := by decide +kernel
theorem dX13_within_1 : decode cX13_within 1 = .ok (.iload_n 1, 1) := by decide +kernel
theorem dX13_within_2 : decode cX13_within 2 = .ok (.if_icmp .lt 12, 3) := by decide +kernel
theorem dX13_within_5 : decode cX13_within 5 = .ok (.iload_n 0, 1) := by decide +kernel
theorem dX13_within_6 : decode cX13_within 6 = .ok (.iload_n 2, 1) := by decide +kernel
theorem dX13_within_7 : decode cX13_within 7 = .ok (.if_icmp .gt 7, 3) := by decide +kernel
theorem dX13_within_10 : decode cX13_within 10 = .ok (.iconst 1, 1) := by decide +kernel
theorem dX13_within_11 : decode cX13_within 11 = .ok (.goto 4, 3) := by decide +kernel
theorem dX13_within_14 : decode cX13_within 14 = .ok (.iconst 0, 1) := by decide +kernel
theorem dX13_within_15 : decode cX13_within 15 = .ok (.ireturn, 1) := by decide +kernel
theorem dX13_end_0 : decode cX13_end 0 = .ok (.aload_n 0, 1) := by decide +kernel
theorem dX13_end_1 : decode cX13_end 1 = .ok (.iload_n 1, 1) := by decide +kernel
theorem dX13_end_2 : decode cX13_end 2 = .ok (.ifCond .lt 11, 3) := by decide +kernel
theorem dX13_end_5 : decode cX13_end 5 = .ok (.iload_n 1, 1) := by decide +kernel
theorem dX13_end_6 : decode cX13_end 6 = .ok (.aload_n 0, 1) := by decide +kernel
theorem dX13_end_7 : decode cX13_end 7 = .ok (.getfield 253, 3) := by decide +kernel
theorem dX13_end_10 : decode cX13_end 10 = .ok (.if_icmp .le 7, 3) := by decide +kernel
theorem dX13_end_13 : decode cX13_end 13 = .ok (.iconst 1, 1) := by decide +kernel
theorem dX13_end_14 : decode cX13_end 14 = .ok (.goto 4, 3) := by decide +kernel
theorem dX13_end_17 : decode cX13_end 17 = .ok (.iconst 0, 1) := by decide +kernel
theorem dX13_end_18 : decode cX13_end 18 = .ok (.putfield 1, 3) := by decide +kernel
theorem dX13_end_21 : decode cX13_end 21 = .ok (.aload_n 0, 1) := by decide +kernel
theorem dX13_end_22 : decode cX13_end 22 = .ok (.aload_n 0, 1) := by decide +kernel
theorem dX13_end_23 : decode cX13_end 23 = .ok (.getfield 1, 3) := by decide +kernel
theorem dX13_end_26 : decode cX13_end 26 = .ok (.ifCond .le 10, 3) := by decide +kernel
theorem dX13_end_29 : decode cX13_end 29 = .ok (.aload_n 0, 1) := by decide +kernel
theorem dX13_end_30 : decode cX13_end 30 = .ok (.getfield 253, 3) := by decide +kernel
theorem dX13_end_33 : decode cX13_end 33 = .ok (.goto 4, 3) := by decide +kernel
theorem dX13_end_36 : decode cX13_end 36 = .ok (.iload_n 1, 1) := by decide +kernel
theorem dX13_end_37 : decode cX13_end 37 = .ok (.putfield 253, 3) := by decide +kernel
theorem dX13_end_40 : decode cX13_end 40 = .ok (.return_, 1) := by decide +kernel
theorem dX13_fault_0 : decode cX13_fault 0 = .ok (.aload_n 0, 1) := by decide +kernel
theorem dX13_fault_1 : decode cX13_fault 1 = .ok (.iconst 0, 1) := by decide +kernel
theorem dX13_fault_2 : decode cX13_fault 2 = .ok (.putfield 1, 3) := by decide +kernel
theorem dX13_fault_5 : decode cX13_fault 5 = .ok (.aload_n 0, 1) := by decide +kernel
theorem dX13_fault_6 : decode cX13_fault 6 = .ok (.getfield 526, 3) := by decide +kernel
theorem dX13_fault_9 : decode cX13_fault 9 = .ok (.ireturn, 1) := by decide +kernel
theorem dX13_explore_0 : decode cX13_explore 0 = .ok (.aload_n 0, 1) := by decide +kernel
theorem dX13_explore_1 : decode cX13_explore 1 = .ok (.aload_n 0, 1) := by decide +kernel
theorem dX13_explore_2 : decode cX13_explore 2 = .ok (.getfield 529, 3) := by decide +kernel
theorem dX13_explore_5 : decode cX13_explore 5 = .ok (.ifCond .ne 7, 3) := by decide +kernel
theorem dX13_explore_8 : decode cX13_explore 8 = .ok (.iconst 1, 1) := by decide +kernel
theorem dX13_explore_9 : decode cX13_explore 9 = .ok (.goto 19, 3) := by decide +kernel
theorem dX13_explore_28 : decode cX13_explore 28 = .ok (.putfield 1, 3) := by decide +kernel
theorem dX13_explore_31 : decode cX13_explore 31 = .ok (.aload_n 0, 1) := by decide +kernel
theorem dX13_explore_32 : decode cX13_explore 32 = .ok (.getfield 1, 3) := by decide +kernel
theorem dX13_explore_35 : decode cX13_explore 35 = .ok (.ifCond .le 5, 3) := by decide +kernel
theorem dX13_explore_38 : decode cX13_explore 38 = .ok (.iconst 0, 1) := by decide +kernel
theorem dX13_explore_39 : decode cX13_explore 39 = .ok (.ireturn, 1) := by decide +kernel
theorem dX13_count_0 : decode cX13_count 0 = .ok (.aload_n 0, 1) := by decide +kernel
theorem dX13_count_1 : decode cX13_count 1 = .ok (.iload_n 1, 1) := by decide +kernel
theorem dX13_count_2 : decode cX13_count 2 = .ok (.iconst 0, 1) := by decide +kernel
theorem dX13_count_3 : decode cX13_count 3 = .ok (.bipush 11, 2) := by decide +kernel
theorem dX13_count_5 : decode cX13_count 5 = .ok (.invokestatic 362, 3) := by decide +kernel
theorem dX13_count_8 : decode cX13_count 8 = .ok (.ifCond .eq 7, 3) := by decide +kernel
theorem dX13_count_11 : decode cX13_count 11 = .ok (.iconst 0, 1) := by decide +kernel
theorem dX13_count_12 : decode cX13_count 12 = .ok (.goto 4, 3) := by decide +kernel
theorem dX13_count_15 : decode cX13_count 15 = .ok (.iconst 1, 1) := by decide +kernel
theorem dX13_count_16 : decode cX13_count 16 = .ok (.putfield 1, 3) := by decide +kernel
theorem dX13_count_19 : decode cX13_count 19 = .ok (.aload_n 0, 1) := by decide +kernel
theorem dX13_count_20 : decode cX13_count 20 = .ok (.getfield 1, 3) := by decide +kernel
theorem dX13_count_23 : decode cX13_count 23 = .ok (.ifCond .le 5, 3) := by decide +kernel
theorem dX13_count_26 : decode cX13_count 26 = .ok (.iconst 0, 1) := by decide +kernel
theorem dX13_count_27 : decode cX13_count 27 = .ok (.ireturn, 1) := by decide +kernel
theorem dX13_count_28 : decode cX13_count 28 = .ok (.iconst 0, 1) := by decide +kernel
theorem dX13_count_29 : decode cX13_count 29 = .ok (.istore_n 2, 1) := by decide +kernel
theorem dX13_count_30 : decode cX13_count 30 = .ok (.iconst 0, 1) := by decide +kernel
theorem dX13_count_31 : decode cX13_count 31 = .ok (.istore_n 3, 1) := by decide +kernel
theorem dX13_count_32 : decode cX13_count 32 = .ok (.iconst 0, 1) := by decide +kernel
theorem dX13_count_33 : decode cX13_count 33 = .ok (.istore 4, 2) := by decide +kernel
theorem dX13_count_35 : decode cX13_count 35 = .ok (.iload 4, 2) := by decide +kernel
theorem dX13_count_37 : decode cX13_count 37 = .ok (.aload_n 0, 1) := by decide +kernel
theorem dX13_count_38 : decode cX13_count 38 = .ok (.getfield 542, 3) := by decide +kernel
theorem dX13_count_41 : decode cX13_count 41 = .ok (.if_icmp .ge 45, 3) := by decide +kernel
theorem dX13_count_86 : decode cX13_count 86 = .ok (.aload_n 0, 1) := by decide +kernel
theorem dX13_count_87 : decode cX13_count 87 = .ok (.getfield 533, 3) := by decide +kernel
theorem dX13_count_90 : decode cX13_count 90 = .ok (.ifCond .ne 7, 3) := by decide +kernel
theorem dX13_count_93 : decode cX13_count 93 = .ok (.iconst 1, 1) := by decide +kernel
theorem dX13_count_94 : decode cX13_count 94 = .ok (.goto 4, 3) := by decide +kernel
theorem dX13_count_98 : decode cX13_count 98 = .ok (.istore 4, 2) := by decide +kernel
theorem dX13_count_100 : decode cX13_count 100 = .ok (.iload_n 1, 1) := by decide +kernel
theorem dX13_count_101 : decode cX13_count 101 = .ok (.tableswitch 170 0 10 #[59, 75, 91, 107, 123, 128, 133, 138, 152, 166, 168], 59) := by decide +kernel
theorem dX13_count_160 : decode cX13_count 160 = .ok (.aload_n 0, 1) := by decide +kernel
theorem dX13_count_161 : decode cX13_count 161 = .ok (.getfield 529, 3) := by decide +kernel
theorem dX13_count_164 : decode cX13_count 164 = .ok (.ifCond .eq 10, 3) := by decide +kernel
theorem dX13_count_174 : decode cX13_count 174 = .ok (.iconst 0, 1) := by decide +kernel
theorem dX13_count_175 : decode cX13_count 175 = .ok (.ireturn, 1) := by decide +kernel
theorem dX13_count_176 : decode cX13_count 176 = .ok (.aload_n 0, 1) := by decide +kernel
theorem dX13_count_177 : decode cX13_count 177 = .ok (.getfield 529, 3) := by decide +kernel
theorem dX13_count_180 : decode cX13_count 180 = .ok (.ifCond .eq 10, 3) := by decide +kernel
theorem dX13_count_190 : decode cX13_count 190 = .ok (.iconst 0, 1) := by decide +kernel
theorem dX13_count_191 : decode cX13_count 191 = .ok (.ireturn, 1) := by decide +kernel
theorem dX13_count_192 : decode cX13_count 192 = .ok (.aload_n 0, 1) := by decide +kernel
theorem dX13_count_193 : decode cX13_count 193 = .ok (.getfield 529, 3) := by decide +kernel
theorem dX13_count_196 : decode cX13_count 196 = .ok (.ifCond .eq 10, 3) := by decide +kernel
theorem dX13_count_206 : decode cX13_count 206 = .ok (.iconst 0, 1) := by decide +kernel
theorem dX13_count_207 : decode cX13_count 207 = .ok (.ireturn, 1) := by decide +kernel
theorem dX13_count_208 : decode cX13_count 208 = .ok (.aload_n 0, 1) := by decide +kernel
theorem dX13_count_209 : decode cX13_count 209 = .ok (.getfield 529, 3) := by decide +kernel
theorem dX13_count_212 : decode cX13_count 212 = .ok (.ifCond .eq 10, 3) := by decide +kernel
theorem dX13_count_222 : decode cX13_count 222 = .ok (.iconst 0, 1) := by decide +kernel
theorem dX13_count_223 : decode cX13_count 223 = .ok (.ireturn, 1) := by decide +kernel
theorem dX13_count_224 : decode cX13_count 224 = .ok (.aload_n 0, 1) := by decide +kernel
theorem dX13_count_225 : decode cX13_count 225 = .ok (.getfield 542, 3) := by decide +kernel
theorem dX13_count_228 : decode cX13_count 228 = .ok (.ireturn, 1) := by decide +kernel
theorem dX13_count_229 : decode cX13_count 229 = .ok (.aload_n 0, 1) := by decide +kernel
theorem dX13_count_230 : decode cX13_count 230 = .ok (.getfield 545, 3) := by decide +kernel
theorem dX13_count_233 : decode cX13_count 233 = .ok (.ireturn, 1) := by decide +kernel
theorem dX13_count_234 : decode cX13_count 234 = .ok (.aload_n 0, 1) := by decide +kernel
theorem dX13_count_235 : decode cX13_count 235 = .ok (.getfield 548, 3) := by decide +kernel
theorem dX13_count_238 : decode cX13_count 238 = .ok (.ireturn, 1) := by decide +kernel
theorem dX13_count_239 : decode cX13_count 239 = .ok (.iload 4, 2) := by decide +kernel
theorem dX13_count_241 : decode cX13_count 241 = .ok (.ifCond .eq 7, 3) := by decide +kernel
theorem dX13_count_244 : decode cX13_count 244 = .ok (.iconst 0, 1) := by decide +kernel
theorem dX13_count_245 : decode cX13_count 245 = .ok (.goto 7, 3) := by decide +kernel
theorem dX13_count_252 : decode cX13_count 252 = .ok (.ireturn, 1) := by decide +kernel
theorem dX13_count_253 : decode cX13_count 253 = .ok (.iload 4, 2) := by decide +kernel
theorem dX13_count_255 : decode cX13_count 255 = .ok (.ifCond .eq 7, 3) := by decide +kernel
theorem dX13_count_258 : decode cX13_count 258 = .ok (.iconst 0, 1) := by decide +kernel
theorem dX13_count_259 : decode cX13_count 259 = .ok (.goto 7, 3) := by decide +kernel
theorem dX13_count_266 : decode cX13_count 266 = .ok (.ireturn, 1) := by decide +kernel
theorem dX13_count_267 : decode cX13_count 267 = .ok (.iload_n 2, 1) := by decide +kernel
theorem dX13_count_268 : decode cX13_count 268 = .ok (.ireturn, 1) := by decide +kernel
theorem dX13_count_269 : decode cX13_count 269 = .ok (.iload_n 3, 1) := by decide +kernel
theorem dX13_count_270 : decode cX13_count 270 = .ok (.ireturn, 1) := by decide +kernel
theorem dX13_count_271 : decode cX13_count 271 = .ok (.aload_n 0, 1) := by decide +kernel
theorem dX13_count_272 : decode cX13_count 272 = .ok (.getfield 253, 3) := by decide +kernel
theorem dX13_count_275 : decode cX13_count 275 = .ok (.ireturn, 1) := by decide +kernel
theorem dX13_isState_0 : decode cX13_isState 0 = .ok (.aload_n 0, 1) := by decide +kernel
theorem dX13_isState_1 : decode cX13_isState 1 = .ok (.getfield 533, 3) := by decide +kernel
theorem dX13_isState_4 : decode cX13_isState 4 = .ok (.ifCond .eq 19, 3) := by decide +kernel
theorem dX13_isState_23 : decode cX13_isState 23 = .ok (.iconst 0, 1) := by decide +kernel
theorem dX13_isState_24 : decode cX13_isState 24 = .ok (.ireturn, 1) := by decide +kernel
theorem dX13_state_0 : decode cX13_state 0 = .ok (.aload_n 0, 1) := by decide +kernel
theorem dX13_state_1 : decode cX13_state 1 = .ok (.aload_n 0, 1) := by decide +kernel
theorem dX13_state_2 : decode cX13_state 2 = .ok (.iload_n 1, 1) := by decide +kernel
theorem dX13_state_3 : decode cX13_state 3 = .ok (.invokevirtual 670, 3) := by decide +kernel
theorem dX13_state_6 : decode cX13_state 6 = .ok (.ifCond .eq 12, 3) := by decide +kernel
theorem dX13_state_18 : decode cX13_state 18 = .ok (.iconst 1, 1) := by decide +kernel
theorem dX13_state_19 : decode cX13_state 19 = .ok (.goto 4, 3) := by decide +kernel
theorem dX13_state_23 : decode cX13_state 23 = .ok (.putfield 1, 3) := by decide +kernel
theorem dX13_state_26 : decode cX13_state 26 = .ok (.aload_n 0, 1) := by decide +kernel
theorem dX13_state_27 : decode cX13_state 27 = .ok (.getfield 1, 3) := by decide +kernel
theorem dX13_state_30 : decode cX13_state 30 = .ok (.ifCond .le 5, 3) := by decide +kernel
theorem dX13_state_33 : decode cX13_state 33 = .ok (.iconst 0, 1) := by decide +kernel
theorem dX13_state_34 : decode cX13_state 34 = .ok (.ireturn, 1) := by decide +kernel
theorem dX13_value_0 : decode cX13_value 0 = .ok (.aload_n 0, 1) := by decide +kernel
theorem dX13_value_1 : decode cX13_value 1 = .ok (.iload_n 1, 1) := by decide +kernel
theorem dX13_value_2 : decode cX13_value 2 = .ok (.invokevirtual 670, 3) := by decide +kernel
theorem dX13_value_5 : decode cX13_value 5 = .ok (.ifCond .eq 16, 3) := by decide +kernel
theorem dX13_value_21 : decode cX13_value 21 = .ok (.iconst 0, 1) := by decide +kernel
theorem dX13_value_22 : decode cX13_value 22 = .ok (.istore 4, 2) := by decide +kernel
theorem dX13_value_24 : decode cX13_value 24 = .ok (.iload 4, 2) := by decide +kernel
theorem dX13_value_26 : decode cX13_value 26 = .ok (.ifCond .eq 31, 3) := by decide +kernel
theorem dX13_value_57 : decode cX13_value 57 = .ok (.iload 4, 2) := by decide +kernel
theorem dX13_value_59 : decode cX13_value 59 = .ok (.ifCond .eq 56, 3) := by decide +kernel
theorem dX13_value_115 : decode cX13_value 115 = .ok (.aload_n 0, 1) := by decide +kernel
theorem dX13_value_116 : decode cX13_value 116 = .ok (.iload 4, 2) := by decide +kernel
theorem dX13_value_118 : decode cX13_value 118 = .ok (.ifCond .eq 7, 3) := by decide +kernel
theorem dX13_value_125 : decode cX13_value 125 = .ok (.iconst 1, 1) := by decide +kernel
theorem dX13_value_126 : decode cX13_value 126 = .ok (.putfield 1, 3) := by decide +kernel
theorem dX13_value_129 : decode cX13_value 129 = .ok (.aload_n 0, 1) := by decide +kernel
theorem dX13_value_130 : decode cX13_value 130 = .ok (.getfield 1, 3) := by decide +kernel
theorem dX13_value_133 : decode cX13_value 133 = .ok (.ifCond .le 5, 3) := by decide +kernel
theorem dX13_value_136 : decode cX13_value 136 = .ok (.iconst 0, 1) := by decide +kernel
theorem dX13_value_137 : decode cX13_value 137 = .ok (.ireturn, 1) := by decide +kernel
theorem dX13_next_0 : decode cX13_next 0 = .ok (.aload_n 0, 1) := by decide +kernel
theorem dX13_next_1 : decode cX13_next 1 = .ok (.aload_n 0, 1) := by decide +kernel
theorem dX13_next_2 : decode cX13_next 2 = .ok (.iload_n 1, 1) := by decide +kernel
theorem dX13_next_3 : decode cX13_next 3 = .ok (.invokevirtual 670, 3) := by decide +kernel
theorem dX13_next_6 : decode cX13_next 6 = .ok (.ifCond .eq 35, 3) := by decide +kernel
theorem dX13_next_41 : decode cX13_next 41 = .ok (.iconst 1, 1) := by decide +kernel
theorem dX13_next_42 : decode cX13_next 42 = .ok (.goto 4, 3) := by decide +kernel
theorem dX13_next_46 : decode cX13_next 46 = .ok (.putfield 1, 3) := by decide +kernel
theorem dX13_next_49 : decode cX13_next 49 = .ok (.aload_n 0, 1) := by decide +kernel
theorem dX13_next_50 : decode cX13_next 50 = .ok (.getfield 1, 3) := by decide +kernel
theorem dX13_next_53 : decode cX13_next 53 = .ok (.ifCond .le 5, 3) := by decide +kernel
theorem dX13_next_56 : decode cX13_next 56 = .ok (.iconst 0, 1) := by decide +kernel
theorem dX13_next_57 : decode cX13_next 57 = .ok (.ireturn, 1) := by decide +kernel
theorem dX13_ending_0 : decode cX13_ending 0 = .ok (.aload_n 0, 1) := by decide +kernel
theorem dX13_ending_1 : decode cX13_ending 1 = .ok (.aload_n 0, 1) := by decide +kernel
theorem dX13_ending_2 : decode cX13_ending 2 = .ok (.getfield 533, 3) := by decide +kernel
theorem dX13_ending_5 : decode cX13_ending 5 = .ok (.ifCond .eq 33, 3) := by decide +kernel
theorem dX13_ending_38 : decode cX13_ending 38 = .ok (.iconst 1, 1) := by decide +kernel
theorem dX13_ending_39 : decode cX13_ending 39 = .ok (.goto 4, 3) := by decide +kernel
theorem dX13_ending_43 : decode cX13_ending 43 = .ok (.putfield 1, 3) := by decide +kernel
theorem dX13_ending_46 : decode cX13_ending 46 = .ok (.aload_n 0, 1) := by decide +kernel
theorem dX13_ending_47 : decode cX13_ending 47 = .ok (.getfield 1, 3) := by decide +kernel
theorem dX13_ending_50 : decode cX13_ending 50 = .ok (.ifCond .le 7, 3) := by decide +kernel
theorem dX13_ending_53 : decode cX13_ending 53 = .ok (.iconst 0, 1) := by decide +kernel
theorem dX13_ending_54 : decode cX13_ending 54 = .ok (.goto 16, 3) := by decide +kernel
theorem dX13_ending_70 : decode cX13_ending 70 = .ok (.ireturn, 1) := by decide +kernel
theorem dX13_decide_0 : decode cX13_decide 0 = .ok (.aload_n 0, 1) := by decide +kernel
theorem dX13_decide_1 : decode cX13_decide 1 = .ok (.aload_n 0, 1) := by decide +kernel
theorem dX13_decide_2 : decode cX13_decide 2 = .ok (.iload_n 1, 1) := by decide +kernel
theorem dX13_decide_3 : decode cX13_decide 3 = .ok (.invokevirtual 670, 3) := by decide +kernel
theorem dX13_decide_6 : decode cX13_decide 6 = .ok (.ifCond .eq 35, 3) := by decide +kernel
theorem dX13_decide_41 : decode cX13_decide 41 = .ok (.iconst 1, 1) := by decide +kernel
theorem dX13_decide_42 : decode cX13_decide 42 = .ok (.goto 4, 3) := by decide +kernel
theorem dX13_decide_46 : decode cX13_decide 46 = .ok (.putfield 1, 3) := by decide +kernel
theorem dX13_decide_49 : decode cX13_decide 49 = .ok (.aload_n 0, 1) := by decide +kernel
theorem dX13_decide_50 : decode cX13_decide 50 = .ok (.getfield 1, 3) := by decide +kernel
theorem dX13_decide_53 : decode cX13_decide 53 = .ok (.ifCond .le 5, 3) := by decide +kernel
theorem dX13_decide_56 : decode cX13_decide 56 = .ok (.iconst 0, 1) := by decide +kernel
theorem dX13_decide_57 : decode cX13_decide 57 = .ok (.ireturn, 1) := by decide +kernel
theorem dX13_decided_0 : decode cX13_decided 0 = .ok (.aload_n 0, 1) := by decide +kernel
theorem dX13_decided_1 : decode cX13_decided 1 = .ok (.aload_n 0, 1) := by decide +kernel
theorem dX13_decided_2 : decode cX13_decided 2 = .ok (.iload_n 1, 1) := by decide +kernel
theorem dX13_decided_3 : decode cX13_decided 3 = .ok (.invokevirtual 670, 3) := by decide +kernel
theorem dX13_decided_6 : decode cX13_decided 6 = .ok (.ifCond .eq 12, 3) := by decide +kernel
theorem dX13_decided_18 : decode cX13_decided 18 = .ok (.iconst 1, 1) := by decide +kernel
theorem dX13_decided_19 : decode cX13_decided 19 = .ok (.goto 4, 3) := by decide +kernel
theorem dX13_decided_23 : decode cX13_decided 23 = .ok (.putfield 1, 3) := by decide +kernel
theorem dX13_decided_26 : decode cX13_decided 26 = .ok (.aload_n 0, 1) := by decide +kernel
theorem dX13_decided_27 : decode cX13_decided 27 = .ok (.getfield 1, 3) := by decide +kernel
theorem dX13_decided_30 : decode cX13_decided 30 = .ok (.ifCond .le 7, 3) := by decide +kernel
theorem dX13_decided_33 : decode cX13_decided 33 = .ok (.iconst 0, 1) := by decide +kernel
theorem dX13_decided_34 : decode cX13_decided 34 = .ok (.goto 9, 3) := by decide +kernel
theorem dX13_decided_43 : decode cX13_decided 43 = .ok (.ireturn, 1) := by decide +kernel
theorem dX13_solve_0 : decode cX13_solve 0 = .ok (.aload_n 0, 1) := by decide +kernel
theorem dX13_solve_1 : decode cX13_solve 1 = .ok (.aload_n 0, 1) := by decide +kernel
theorem dX13_solve_2 : decode cX13_solve 2 = .ok (.getfield 533, 3) := by decide +kernel
theorem dX13_solve_5 : decode cX13_solve 5 = .ok (.ifCond .eq 7, 3) := by decide +kernel
theorem dX13_solve_12 : decode cX13_solve 12 = .ok (.iconst 1, 1) := by decide +kernel
theorem dX13_solve_13 : decode cX13_solve 13 = .ok (.putfield 1, 3) := by decide +kernel
theorem dX13_solve_16 : decode cX13_solve 16 = .ok (.aload_n 0, 1) := by decide +kernel
theorem dX13_solve_17 : decode cX13_solve 17 = .ok (.getfield 1, 3) := by decide +kernel
theorem dX13_solve_20 : decode cX13_solve 20 = .ok (.ifCond .le 5, 3) := by decide +kernel
theorem dX13_solve_23 : decode cX13_solve 23 = .ok (.iconst 0, 1) := by decide +kernel
theorem dX13_solve_24 : decode cX13_solve 24 = .ok (.ireturn, 1) := by decide +kernel
theorem dX13_show_0 : decode cX13_show 0 = .ok (.aload_n 0, 1) := by decide +kernel
theorem dX13_show_1 : decode cX13_show 1 = .ok (.iload_n 1, 1) := by decide +kernel
theorem dX13_show_2 : decode cX13_show 2 = .ok (.iconst 0, 1) := by decide +kernel
theorem dX13_show_3 : decode cX13_show 3 = .ok (.bipush 12, 2) := by decide +kernel
theorem dX13_show_5 : decode cX13_show 5 = .ok (.invokestatic 362, 3) := by decide +kernel
theorem dX13_show_8 : decode cX13_show 8 = .ok (.ifCond .ne 7, 3) := by decide +kernel
theorem dX13_show_11 : decode cX13_show 11 = .ok (.iconst 1, 1) := by decide +kernel
theorem dX13_show_12 : decode cX13_show 12 = .ok (.goto 58, 3) := by decide +kernel
theorem dX13_show_15 : decode cX13_show 15 = .ok (.iload_n 1, 1) := by decide +kernel
theorem dX13_show_16 : decode cX13_show 16 = .ok (.bipush 11, 2) := by decide +kernel
theorem dX13_show_18 : decode cX13_show 18 = .ok (.if_icmp .ge 18, 3) := by decide +kernel
theorem dX13_show_21 : decode cX13_show 21 = .ok (.aload_n 0, 1) := by decide +kernel
theorem dX13_show_22 : decode cX13_show 22 = .ok (.getfield 536, 3) := by decide +kernel
theorem dX13_show_25 : decode cX13_show 25 = .ok (.ifCond .eq 7, 3) := by decide +kernel
theorem dX13_show_32 : decode cX13_show 32 = .ok (.iconst 2, 1) := by decide +kernel
theorem dX13_show_33 : decode cX13_show 33 = .ok (.goto 37, 3) := by decide +kernel
theorem dX13_show_36 : decode cX13_show 36 = .ok (.iload_n 1, 1) := by decide +kernel
theorem dX13_show_37 : decode cX13_show 37 = .ok (.bipush 11, 2) := by decide +kernel
theorem dX13_show_39 : decode cX13_show 39 = .ok (.if_icmp .ne 18, 3) := by decide +kernel
theorem dX13_show_42 : decode cX13_show 42 = .ok (.aload_n 0, 1) := by decide +kernel
theorem dX13_show_43 : decode cX13_show 43 = .ok (.getfield 539, 3) := by decide +kernel
theorem dX13_show_46 : decode cX13_show 46 = .ok (.ifCond .eq 7, 3) := by decide +kernel
theorem dX13_show_53 : decode cX13_show 53 = .ok (.iconst 2, 1) := by decide +kernel
theorem dX13_show_54 : decode cX13_show 54 = .ok (.goto 16, 3) := by decide +kernel
theorem dX13_show_57 : decode cX13_show 57 = .ok (.aload_n 0, 1) := by decide +kernel
theorem dX13_show_58 : decode cX13_show 58 = .ok (.getfield 220, 3) := by decide +kernel
theorem dX13_show_61 : decode cX13_show 61 = .ok (.iconst (-1), 1) := by decide +kernel
theorem dX13_show_62 : decode cX13_show 62 = .ok (.if_icmp .ne 7, 3) := by decide +kernel
theorem dX13_show_65 : decode cX13_show 65 = .ok (.iconst 2, 1) := by decide +kernel
theorem dX13_show_66 : decode cX13_show 66 = .ok (.goto 4, 3) := by decide +kernel
theorem dX13_show_70 : decode cX13_show 70 = .ok (.putfield 1, 3) := by decide +kernel
theorem dX13_show_73 : decode cX13_show 73 = .ok (.aload_n 0, 1) := by decide +kernel
theorem dX13_show_74 : decode cX13_show 74 = .ok (.getfield 1, 3) := by decide +kernel
theorem dX13_show_77 : decode cX13_show 77 = .ok (.ifCond .ne 49, 3) := by decide +kernel
theorem dX13_show_126 : decode cX13_show 126 = .ok (.aload_n 0, 1) := by decide +kernel
theorem dX13_show_127 : decode cX13_show 127 = .ok (.getfield 1, 3) := by decide +kernel
theorem dX13_show_130 : decode cX13_show 130 = .ok (.ifCond .ne 51, 3) := by decide +kernel
theorem dX13_show_181 : decode cX13_show 181 = .ok (.aload_n 0, 1) := by decide +kernel
theorem dX13_show_182 : decode cX13_show 182 = .ok (.getfield 1, 3) := by decide +kernel
theorem dX13_show_185 : decode cX13_show 185 = .ok (.ifCond .le 5, 3) := by decide +kernel
theorem dX13_show_188 : decode cX13_show 188 = .ok (.iconst 0, 1) := by decide +kernel
theorem dX13_show_189 : decode cX13_show 189 = .ok (.ireturn, 1) := by decide +kernel
theorem dX13_tell_0 : decode cX13_tell 0 = .ok (.aload_n 0, 1) := by decide +kernel
theorem dX13_tell_1 : decode cX13_tell 1 = .ok (.aload_n 0, 1) := by decide +kernel
theorem dX13_tell_2 : decode cX13_tell 2 = .ok (.getfield 827, 3) := by decide +kernel
theorem dX13_tell_5 : decode cX13_tell 5 = .ok (.sipush 200, 3) := by decide +kernel
theorem dX13_tell_8 : decode cX13_tell 8 = .ok (.if_icmp .ne 7, 3) := by decide +kernel
theorem dX13_tell_15 : decode cX13_tell 15 = .ok (.iconst 0, 1) := by decide +kernel
theorem dX13_tell_16 : decode cX13_tell 16 = .ok (.putfield 1, 3) := by decide +kernel
theorem dX13_tell_19 : decode cX13_tell 19 = .ok (.aload_n 0, 1) := by decide +kernel
theorem dX13_tell_20 : decode cX13_tell 20 = .ok (.getfield 1, 3) := by decide +kernel
theorem dX13_tell_23 : decode cX13_tell 23 = .ok (.ifCond .le 5, 3) := by decide +kernel
theorem dX13_tell_28 : decode cX13_tell 28 = .ok (.aload_n 0, 1) := by decide +kernel
theorem dX13_tell_29 : decode cX13_tell 29 = .ok (.getfield 217, 3) := by decide +kernel
theorem dX13_tell_32 : decode cX13_tell 32 = .ok (.aload_n 0, 1) := by decide +kernel
theorem dX13_tell_33 : decode cX13_tell 33 = .ok (.getfield 827, 3) := by decide +kernel
theorem dX13_tell_36 : decode cX13_tell 36 = .ok (.iload_n 1, 1) := by decide +kernel
theorem dX13_tell_37 : decode cX13_tell 37 = .ok (.iastore, 1) := by decide +kernel
theorem dX13_tell_38 : decode cX13_tell 38 = .ok (.aload_n 0, 1) := by decide +kernel
theorem dX13_tell_39 : decode cX13_tell 39 = .ok (.dup, 1) := by decide +kernel
theorem dX13_tell_40 : decode cX13_tell 40 = .ok (.getfield 827, 3) := by decide +kernel
theorem dX13_tell_43 : decode cX13_tell 43 = .ok (.iconst 1, 1) := by decide +kernel
theorem dX13_tell_44 : decode cX13_tell 44 = .ok (.iadd, 1) := by decide +kernel
theorem dX13_tell_45 : decode cX13_tell 45 = .ok (.putfield 827, 3) := by decide +kernel
theorem dX13_tell_48 : decode cX13_tell 48 = .ok (.aload_n 0, 1) := by decide +kernel
theorem dX13_tell_49 : decode cX13_tell 49 = .ok (.getfield 827, 3) := by decide +kernel
theorem dX13_tell_52 : decode cX13_tell 52 = .ok (.ireturn, 1) := by decide +kernel
theorem dX13_forget_0 : decode cX13_forget 0 = .ok (.aload_n 0, 1) := by decide +kernel
theorem dX13_forget_1 : decode cX13_forget 1 = .ok (.iconst 0, 1) := by decide +kernel
theorem dX13_forget_2 : decode cX13_forget 2 = .ok (.putfield 1, 3) := by decide +kernel
theorem dX13_forget_5 : decode cX13_forget 5 = .ok (.aload_n 0, 1) := by decide +kernel
theorem dX13_forget_6 : decode cX13_forget 6 = .ok (.getfield 827, 3) := by decide +kernel
theorem dX13_forget_9 : decode cX13_forget 9 = .ok (.istore_n 1, 1) := by decide +kernel
theorem dX13_forget_10 : decode cX13_forget 10 = .ok (.aload_n 0, 1) := by decide +kernel
theorem dX13_forget_11 : decode cX13_forget 11 = .ok (.iconst 0, 1) := by decide +kernel
theorem dX13_forget_12 : decode cX13_forget 12 = .ok (.putfield 827, 3) := by decide +kernel
theorem dX13_forget_15 : decode cX13_forget 15 = .ok (.iload_n 1, 1) := by decide +kernel
theorem dX13_forget_16 : decode cX13_forget 16 = .ok (.ireturn, 1) := by decide +kernel
theorem dX13_go__0 : decode cX13_go_ 0 = .ok (.aload_n 0, 1) := by decide +kernel
theorem dX13_go__1 : decode cX13_go_ 1 = .ok (.aload_n 0, 1) := by decide +kernel
theorem dX13_go__2 : decode cX13_go_ 2 = .ok (.getfield 529, 3) := by decide +kernel
theorem dX13_go__5 : decode cX13_go_ 5 = .ok (.ifCond .ne 7, 3) := by decide +kernel
theorem dX13_go__8 : decode cX13_go_ 8 = .ok (.iconst 1, 1) := by decide +kernel
theorem dX13_go__9 : decode cX13_go_ 9 = .ok (.goto 19, 3) := by decide +kernel
theorem dX13_go__28 : decode cX13_go_ 28 = .ok (.putfield 1, 3) := by decide +kernel
theorem dX13_go__31 : decode cX13_go_ 31 = .ok (.aload_n 0, 1) := by decide +kernel
theorem dX13_go__32 : decode cX13_go_ 32 = .ok (.getfield 1, 3) := by decide +kernel
theorem dX13_go__35 : decode cX13_go_ 35 = .ok (.ifCond .le 5, 3) := by decide +kernel
theorem dX13_go__38 : decode cX13_go_ 38 = .ok (.iconst 0, 1) := by decide +kernel
theorem dX13_go__39 : decode cX13_go_ 39 = .ok (.ireturn, 1) := by decide +kernel
theorem dX13_play_0 : decode cX13_play 0 = .ok (.aload_n 0, 1) := by decide +kernel
theorem dX13_play_1 : decode cX13_play 1 = .ok (.lload_n 1, 1) := by decide +kernel
theorem dX13_play_2 : decode cX13_play 2 = .ok (.putfield 836, 3) := by decide +kernel
theorem dX13_play_5 : decode cX13_play 5 = .ok (.aload_n 0, 1) := by decide +kernel
theorem dX13_play_6 : decode cX13_play 6 = .ok (.iconst 1, 1) := by decide +kernel
theorem dX13_play_7 : decode cX13_play 7 = .ok (.putfield 830, 3) := by decide +kernel
theorem dX13_play_10 : decode cX13_play 10 = .ok (.aload_n 0, 1) := by decide +kernel
theorem dX13_play_11 : decode cX13_play 11 = .ok (.iload_n 3, 1) := by decide +kernel
theorem dX13_play_12 : decode cX13_play 12 = .ok (.invokevirtual 862, 3) := by decide +kernel
theorem dX13_play_15 : decode cX13_play 15 = .ok (.ireturn, 1) := by decide +kernel
theorem dX13_walk_0 : decode cX13_walk 0 = .ok (.aload_n 0, 1) := by decide +kernel
theorem dX13_walk_1 : decode cX13_walk 1 = .ok (.iconst 0, 1) := by decide +kernel
theorem dX13_walk_2 : decode cX13_walk 2 = .ok (.putfield 830, 3) := by decide +kernel
theorem dX13_walk_5 : decode cX13_walk 5 = .ok (.aload_n 0, 1) := by decide +kernel
theorem dX13_walk_6 : decode cX13_walk 6 = .ok (.iload_n 1, 1) := by decide +kernel
theorem dX13_walk_7 : decode cX13_walk 7 = .ok (.invokevirtual 862, 3) := by decide +kernel
theorem dX13_walk_10 : decode cX13_walk 10 = .ok (.ireturn, 1) := by decide +kernel
theorem dX13_played_0 : decode cX13_played 0 = .ok (.aload_n 0, 1) := by decide +kernel
theorem dX13_played_1 : decode cX13_played 1 = .ok (.iload_n 1, 1) := by decide +kernel
theorem dX13_played_2 : decode cX13_played 2 = .ok (.ifCond .lt 29, 3) := by decide +kernel
theorem dX13_played_5 : decode cX13_played 5 = .ok (.iload_n 1, 1) := by decide +kernel
theorem dX13_played_6 : decode cX13_played 6 = .ok (.iconst 5, 1) := by decide +kernel
theorem dX13_played_7 : decode cX13_played 7 = .ok (.aload_n 0, 1) := by decide +kernel
theorem dX13_played_8 : decode cX13_played 8 = .ok (.getfield 529, 3) := by decide +kernel
theorem dX13_played_11 : decode cX13_played 11 = .ok (.ifCond .eq 15, 3) := by decide +kernel
theorem dX13_played_26 : decode cX13_played 26 = .ok (.iconst 0, 1) := by decide +kernel
theorem dX13_played_27 : decode cX13_played 27 = .ok (.iadd, 1) := by decide +kernel
theorem dX13_played_28 : decode cX13_played 28 = .ok (.if_icmp .lt 7, 3) := by decide +kernel
theorem dX13_played_31 : decode cX13_played 31 = .ok (.iconst 1, 1) := by decide +kernel
theorem dX13_played_32 : decode cX13_played 32 = .ok (.goto 4, 3) := by decide +kernel
theorem dX13_played_35 : decode cX13_played 35 = .ok (.iconst 0, 1) := by decide +kernel
theorem dX13_played_36 : decode cX13_played 36 = .ok (.putfield 1, 3) := by decide +kernel
theorem dX13_played_39 : decode cX13_played 39 = .ok (.aload_n 0, 1) := by decide +kernel
theorem dX13_played_40 : decode cX13_played 40 = .ok (.getfield 1, 3) := by decide +kernel
theorem dX13_played_43 : decode cX13_played 43 = .ok (.ifCond .gt 11, 3) := by decide +kernel
theorem dX13_played_46 : decode cX13_played 46 = .ok (.aload_n 0, 1) := by decide +kernel
theorem dX13_played_47 : decode cX13_played 47 = .ok (.getfield 220, 3) := by decide +kernel
theorem dX13_played_50 : decode cX13_played 50 = .ok (.iconst (-1), 1) := by decide +kernel
theorem dX13_played_51 : decode cX13_played 51 = .ok (.if_icmp .ne 5, 3) := by decide +kernel
theorem dX13_played_54 : decode cX13_played 54 = .ok (.lconst 0, 1) := by decide +kernel
theorem dX13_played_55 : decode cX13_played 55 = .ok (.lreturn, 1) := by decide +kernel
theorem dX13_best_0 : decode cX13_best 0 = .ok (.aload_n 0, 1) := by decide +kernel
theorem dX13_best_1 : decode cX13_best 1 = .ok (.aload_n 0, 1) := by decide +kernel
theorem dX13_best_2 : decode cX13_best 2 = .ok (.getfield 533, 3) := by decide +kernel
theorem dX13_best_5 : decode cX13_best 5 = .ok (.ifCond .eq 7, 3) := by decide +kernel
theorem dX13_best_12 : decode cX13_best 12 = .ok (.iconst 1, 1) := by decide +kernel
theorem dX13_best_13 : decode cX13_best 13 = .ok (.putfield 1, 3) := by decide +kernel
theorem dX13_best_16 : decode cX13_best 16 = .ok (.aload_n 0, 1) := by decide +kernel
theorem dX13_best_17 : decode cX13_best 17 = .ok (.getfield 1, 3) := by decide +kernel
theorem dX13_best_20 : decode cX13_best 20 = .ok (.ifCond .le 5, 3) := by decide +kernel
theorem dX13_best_23 : decode cX13_best 23 = .ok (.iconst 0, 1) := by decide +kernel
theorem dX13_best_24 : decode cX13_best 24 = .ok (.ireturn, 1) := by decide +kernel
theorem dX13_independent_0 : decode cX13_independent 0 = .ok (.aload_n 0, 1) := by decide +kernel
theorem dX13_independent_1 : decode cX13_independent 1 = .ok (.aload_n 0, 1) := by decide +kernel
theorem dX13_independent_2 : decode cX13_independent 2 = .ok (.getfield 536, 3) := by decide +kernel
theorem dX13_independent_5 : decode cX13_independent 5 = .ok (.ifCond .ne 7, 3) := by decide +kernel
theorem dX13_independent_8 : decode cX13_independent 8 = .ok (.iconst 1, 1) := by decide +kernel
theorem dX13_independent_9 : decode cX13_independent 9 = .ok (.goto 24, 3) := by decide +kernel
theorem dX13_independent_33 : decode cX13_independent 33 = .ok (.putfield 1, 3) := by decide +kernel
theorem dX13_independent_36 : decode cX13_independent 36 = .ok (.aload_n 0, 1) := by decide +kernel
theorem dX13_independent_37 : decode cX13_independent 37 = .ok (.getfield 1, 3) := by decide +kernel
theorem dX13_independent_40 : decode cX13_independent 40 = .ok (.ifCond .le 5, 3) := by decide +kernel
theorem dX13_independent_43 : decode cX13_independent 43 = .ok (.iconst 0, 1) := by decide +kernel
theorem dX13_independent_44 : decode cX13_independent 44 = .ok (.ireturn, 1) := by decide +kernel
theorem dX13_given_0 : decode cX13_given 0 = .ok (.aload_n 0, 1) := by decide +kernel
theorem dX13_given_1 : decode cX13_given 1 = .ok (.aload_n 0, 1) := by decide +kernel
theorem dX13_given_2 : decode cX13_given 2 = .ok (.getfield 536, 3) := by decide +kernel
theorem dX13_given_5 : decode cX13_given 5 = .ok (.ifCond .ne 7, 3) := by decide +kernel
theorem dX13_given_8 : decode cX13_given 8 = .ok (.iconst 1, 1) := by decide +kernel
theorem dX13_given_9 : decode cX13_given 9 = .ok (.goto 32, 3) := by decide +kernel
theorem dX13_given_41 : decode cX13_given 41 = .ok (.putfield 1, 3) := by decide +kernel
theorem dX13_given_44 : decode cX13_given 44 = .ok (.aload_n 0, 1) := by decide +kernel
theorem dX13_given_45 : decode cX13_given 45 = .ok (.getfield 1, 3) := by decide +kernel
theorem dX13_given_48 : decode cX13_given 48 = .ok (.ifCond .le 5, 3) := by decide +kernel
theorem dX13_given_51 : decode cX13_given 51 = .ok (.iconst 0, 1) := by decide +kernel
theorem dX13_given_52 : decode cX13_given 52 = .ok (.ireturn, 1) := by decide +kernel
