abbrev cX0_holds : ByteArray := prog_2_method_3_code
def yX0_holds : MethodName := ⟨RX0, "holds", "(I)Z"⟩
abbrev cX0_holdsEnding : ByteArray := prog_2_method_4_code
def yX0_holdsEnding : MethodName := ⟨RX0, "holdsEnding", "(I)Z"⟩
abbrev cX12_fault : ByteArray := prog_1_method_5_code
def yX12_fault : MethodName := ⟨RX12, "fault", "()I"⟩
abbrev cX12_count : ByteArray := prog_1_method_6_code
def yX12_count : MethodName := ⟨RX12, "count", "(I)I"⟩
abbrev cX12_explore : ByteArray := prog_1_method_7_code
def yX12_explore : MethodName := ⟨RX12, "explore", "(I)I"⟩
abbrev cX12_state : ByteArray := prog_1_method_8_code
def yX12_state : MethodName := ⟨RX12, "state", "(II)I"⟩
abbrev cX12_value : ByteArray := prog_1_method_9_code
def yX12_value : MethodName := ⟨RX12, "value", "(III)I"⟩
abbrev cX12_next : ByteArray := prog_1_method_10_code
def yX12_next : MethodName := ⟨RX12, "next", "(III)I"⟩
abbrev cX12_ending : ByteArray := prog_1_method_11_code
def yX12_ending : MethodName := ⟨RX12, "ending", "(II)I"⟩
abbrev cX12_decide : ByteArray := prog_1_method_12_code
def yX12_decide : MethodName := ⟨RX12, "decide", "(II)I"⟩
abbrev cX12_decided : ByteArray := prog_1_method_13_code
def yX12_decided : MethodName := ⟨RX12, "decided", "(I)I"⟩
abbrev cX12_best : ByteArray := prog_1_method_14_code
def yX12_best : MethodName := ⟨RX12, "best", "()I"⟩
abbrev cX12_solve : ByteArray := prog_1_method_15_code
def yX12_solve : MethodName := ⟨RX12, "solve", "()I"⟩
abbrev cX12_show : ByteArray := prog_1_method_16_code
def yX12_show : MethodName := ⟨RX12, "show", "(II)I"⟩
abbrev cX12_tell : ByteArray := prog_1_method_19_code
def yX12_tell : MethodName := ⟨RX12, "tell", "(I)I"⟩
abbrev cX12_forget : ByteArray := prog_1_method_20_code
def yX12_forget : MethodName := ⟨RX12, "forget", "()I"⟩
abbrev cX12_play : ByteArray := prog_1_method_21_code
def yX12_play : MethodName := ⟨RX12, "play", "(JI)I"⟩
abbrev cX12_walk : ByteArray := prog_1_method_22_code
def yX12_walk : MethodName := ⟨RX12, "walk", "(I)I"⟩
abbrev cX12_played : ByteArray := prog_1_method_23_code
def yX12_played : MethodName := ⟨RX12, "played", "(I)J"⟩
abbrev cX12_independent : ByteArray := prog_1_method_24_code
def yX12_independent : MethodName := ⟨RX12, "independent", "(II)Z"⟩
abbrev cX12_given : ByteArray := prog_1_method_25_code
def yX12_given : MethodName := ⟨RX12, "given", "(III)Z"⟩
abbrev cX12_showsNow : ByteArray := prog_1_method_26_code
def yX12_showsNow : MethodName := ⟨RX12, "showsNow", "(I)Z"⟩
theorem dX0_holds_0 : decode cX0_holds 0 = .ok (.aload_n 0, 1) := by decide +kernel
theorem dX0_holds_1 : decode cX0_holds 1 = .ok (.getfield 88, 3) := by decide +kernel
theorem dX0_holds_4 : decode cX0_holds 4 = .ok (.ifCond .eq 22, 3) := by decide +kernel
theorem dX0_holds_26 : decode cX0_holds 26 = .ok (.iconst 0, 1) := by decide +kernel
theorem dX0_holds_27 : decode cX0_holds 27 = .ok (.ireturn, 1) := by decide +kernel
theorem dX0_holdsEnding_0 : decode cX0_holdsEnding 0 = .ok (.aload_n 0, 1) := by decide +kernel
theorem dX0_holdsEnding_1 : decode cX0_holdsEnding 1 = .ok (.getfield 88, 3) := by decide +kernel
theorem dX0_holdsEnding_4 : decode cX0_holdsEnding 4 = .ok (.ifCond .eq 22, 3) := by decide +kernel
theorem dX0_holdsEnding_26 : decode cX0_holdsEnding 26 = .ok (.iconst 0, 1) := by decide +kernel
theorem dX0_holdsEnding_27 : decode cX0_holdsEnding 27 = .ok (.ireturn, 1) := by decide +kernel
theorem dX12_fault_0 : decode cX12_fault 0 = .ok (.aload_n 0, 1) := by decide +kernel
theorem dX12_fault_1 : decode cX12_fault 1 = .ok (.getfield 131, 3) := by decide +kernel
theorem dX12_fault_4 : decode cX12_fault 4 = .ok (.ireturn, 1) := by decide +kernel
theorem dX12_count_0 : decode cX12_count 0 = .ok (.iload_n 1, 1) := by decide +kernel
theorem dX12_count_1 : decode cX12_count 1 = .ok (.ifCond .lt 9, 3) := by decide +kernel
theorem dX12_count_4 : decode cX12_count 4 = .ok (.iload_n 1, 1) := by decide +kernel
theorem dX12_count_5 : decode cX12_count 5 = .ok (.bipush 11, 2) := by decide +kernel
theorem dX12_count_7 : decode cX12_count 7 = .ok (.if_icmp .le 13, 3) := by decide +kernel
theorem dX12_count_10 : decode cX12_count 10 = .ok (.new 154, 3) := by decide +kernel
theorem dX12_count_13 : decode cX12_count 13 = .ok (.dup, 1) := by decide +kernel
theorem dX12_count_14 : decode cX12_count 14 = .ok (.ldc 156, 2) := by decide +kernel
theorem dX12_count_16 : decode cX12_count 16 = .ok (.invokespecial 158, 3) := by decide +kernel
theorem dX12_count_19 : decode cX12_count 19 = .ok (.athrow, 1) := by decide +kernel
theorem dX12_count_20 : decode cX12_count 20 = .ok (.iload_n 1, 1) := by decide +kernel
theorem dX12_count_21 : decode cX12_count 21 = .ok (.bipush 11, 2) := by decide +kernel
theorem dX12_count_23 : decode cX12_count 23 = .ok (.if_icmp .ne 11, 3) := by decide +kernel
theorem dX12_count_26 : decode cX12_count 26 = .ok (.aload_n 0, 1) := by decide +kernel
theorem dX12_count_27 : decode cX12_count 27 = .ok (.getfield 12, 3) := by decide +kernel
theorem dX12_count_30 : decode cX12_count 30 = .ok (.getfield 100, 3) := by decide +kernel
theorem dX12_count_33 : decode cX12_count 33 = .ok (.ireturn, 1) := by decide +kernel
theorem dX12_count_34 : decode cX12_count 34 = .ok (.iload_n 1, 1) := by decide +kernel
theorem dX12_count_35 : decode cX12_count 35 = .ok (.iconst 4, 1) := by decide +kernel
theorem dX12_count_36 : decode cX12_count 36 = .ok (.if_icmp .ge 23, 3) := by decide +kernel
theorem dX12_count_39 : decode cX12_count 39 = .ok (.aload_n 0, 1) := by decide +kernel
theorem dX12_count_40 : decode cX12_count 40 = .ok (.getfield 135, 3) := by decide +kernel
theorem dX12_count_43 : decode cX12_count 43 = .ok (.ifCond .eq 14, 3) := by decide +kernel
theorem dX12_count_57 : decode cX12_count 57 = .ok (.iconst 0, 1) := by decide +kernel
theorem dX12_count_58 : decode cX12_count 58 = .ok (.ireturn, 1) := by decide +kernel
theorem dX12_count_59 : decode cX12_count 59 = .ok (.aload_n 0, 1) := by decide +kernel
theorem dX12_count_60 : decode cX12_count 60 = .ok (.getfield 49, 3) := by decide +kernel
theorem dX12_count_63 : decode cX12_count 63 = .ok (.getfield 139, 3) := by decide +kernel
theorem dX12_count_66 : decode cX12_count 66 = .ok (.ifCond .eq 14, 3) := by decide +kernel
theorem dX12_count_80 : decode cX12_count 80 = .ok (.iconst 0, 1) := by decide +kernel
theorem dX12_count_81 : decode cX12_count 81 = .ok (.ireturn, 1) := by decide +kernel
theorem dX12_explore_0 : decode cX12_explore 0 = .ok (.aload_n 0, 1) := by decide +kernel
theorem dX12_explore_1 : decode cX12_explore 1 = .ok (.getfield 135, 3) := by decide +kernel
theorem dX12_explore_4 : decode cX12_explore 4 = .ok (.ifCond .ne 13, 3) := by decide +kernel
theorem dX12_explore_7 : decode cX12_explore 7 = .ok (.new 126, 3) := by decide +kernel
theorem dX12_explore_10 : decode cX12_explore 10 = .ok (.dup, 1) := by decide +kernel
theorem dX12_explore_11 : decode cX12_explore 11 = .ok (.ldc 164, 2) := by decide +kernel
theorem dX12_explore_13 : decode cX12_explore 13 = .ok (.invokespecial 166, 3) := by decide +kernel
theorem dX12_explore_16 : decode cX12_explore 16 = .ok (.athrow, 1) := by decide +kernel
theorem dX12_state_0 : decode cX12_state 0 = .ok (.aload_n 0, 1) := by decide +kernel
theorem dX12_state_1 : decode cX12_state 1 = .ok (.getfield 49, 3) := by decide +kernel
theorem dX12_state_4 : decode cX12_state 4 = .ok (.iload_n 1, 1) := by decide +kernel
theorem dX12_state_5 : decode cX12_state 5 = .ok (.invokevirtual 173, 3) := by decide +kernel
theorem dX12_state_8 : decode cX12_state 8 = .ok (.ifCond .eq 12, 3) := by decide +kernel
theorem dX12_state_20 : decode cX12_state 20 = .ok (.new 154, 3) := by decide +kernel
theorem dX12_state_23 : decode cX12_state 23 = .ok (.dup, 1) := by decide +kernel
theorem dX12_state_24 : decode cX12_state 24 = .ok (.ldc 177, 2) := by decide +kernel
theorem dX12_state_26 : decode cX12_state 26 = .ok (.invokespecial 158, 3) := by decide +kernel
theorem dX12_state_29 : decode cX12_state 29 = .ok (.athrow, 1) := by decide +kernel
theorem dX12_value_0 : decode cX12_value 0 = .ok (.aload_n 0, 1) := by decide +kernel
theorem dX12_value_1 : decode cX12_value 1 = .ok (.getfield 49, 3) := by decide +kernel
theorem dX12_value_4 : decode cX12_value 4 = .ok (.iload_n 1, 1) := by decide +kernel
theorem dX12_value_5 : decode cX12_value 5 = .ok (.invokevirtual 173, 3) := by decide +kernel
theorem dX12_value_8 : decode cX12_value 8 = .ok (.ifCond .eq 16, 3) := by decide +kernel
theorem dX12_value_24 : decode cX12_value 24 = .ok (.new 154, 3) := by decide +kernel
theorem dX12_value_27 : decode cX12_value 27 = .ok (.dup, 1) := by decide +kernel
theorem dX12_value_28 : decode cX12_value 28 = .ok (.ldc 203, 2) := by decide +kernel
theorem dX12_value_30 : decode cX12_value 30 = .ok (.invokespecial 158, 3) := by decide +kernel
theorem dX12_value_33 : decode cX12_value 33 = .ok (.athrow, 1) := by decide +kernel
theorem dX12_next_0 : decode cX12_next 0 = .ok (.aload_n 0, 1) := by decide +kernel
theorem dX12_next_1 : decode cX12_next 1 = .ok (.getfield 49, 3) := by decide +kernel
theorem dX12_next_4 : decode cX12_next 4 = .ok (.iload_n 1, 1) := by decide +kernel
theorem dX12_next_5 : decode cX12_next 5 = .ok (.invokevirtual 173, 3) := by decide +kernel
theorem dX12_next_8 : decode cX12_next 8 = .ok (.ifCond .eq 28, 3) := by decide +kernel
theorem dX12_next_36 : decode cX12_next 36 = .ok (.new 154, 3) := by decide +kernel
theorem dX12_next_39 : decode cX12_next 39 = .ok (.dup, 1) := by decide +kernel
theorem dX12_next_40 : decode cX12_next 40 = .ok (.ldc 209, 2) := by decide +kernel
theorem dX12_next_42 : decode cX12_next 42 = .ok (.invokespecial 158, 3) := by decide +kernel
theorem dX12_next_45 : decode cX12_next 45 = .ok (.athrow, 1) := by decide +kernel
theorem dX12_ending_0 : decode cX12_ending 0 = .ok (.aload_n 0, 1) := by decide +kernel
theorem dX12_ending_1 : decode cX12_ending 1 = .ok (.getfield 49, 3) := by decide +kernel
theorem dX12_ending_4 : decode cX12_ending 4 = .ok (.iload_n 1, 1) := by decide +kernel
theorem dX12_ending_5 : decode cX12_ending 5 = .ok (.invokevirtual 223, 3) := by decide +kernel
theorem dX12_ending_8 : decode cX12_ending 8 = .ok (.ifCond .eq 19, 3) := by decide +kernel
theorem dX12_ending_27 : decode cX12_ending 27 = .ok (.new 154, 3) := by decide +kernel
theorem dX12_ending_30 : decode cX12_ending 30 = .ok (.dup, 1) := by decide +kernel
theorem dX12_ending_31 : decode cX12_ending 31 = .ok (.ldc 230, 2) := by decide +kernel
theorem dX12_ending_33 : decode cX12_ending 33 = .ok (.invokespecial 158, 3) := by decide +kernel
theorem dX12_ending_36 : decode cX12_ending 36 = .ok (.athrow, 1) := by decide +kernel
theorem dX12_decide_0 : decode cX12_decide 0 = .ok (.aload_n 0, 1) := by decide +kernel
theorem dX12_decide_1 : decode cX12_decide 1 = .ok (.getfield 49, 3) := by decide +kernel
theorem dX12_decide_4 : decode cX12_decide 4 = .ok (.iload_n 1, 1) := by decide +kernel
theorem dX12_decide_5 : decode cX12_decide 5 = .ok (.invokevirtual 173, 3) := by decide +kernel
theorem dX12_decide_8 : decode cX12_decide 8 = .ok (.ifCond .eq 31, 3) := by decide +kernel
theorem dX12_decide_39 : decode cX12_decide 39 = .ok (.new 154, 3) := by decide +kernel
theorem dX12_decide_42 : decode cX12_decide 42 = .ok (.dup, 1) := by decide +kernel
theorem dX12_decide_43 : decode cX12_decide 43 = .ok (.ldc 241, 2) := by decide +kernel
theorem dX12_decide_45 : decode cX12_decide 45 = .ok (.invokespecial 158, 3) := by decide +kernel
theorem dX12_decide_48 : decode cX12_decide 48 = .ok (.athrow, 1) := by decide +kernel
theorem dX12_decided_0 : decode cX12_decided 0 = .ok (.aload_n 0, 1) := by decide +kernel
theorem dX12_decided_1 : decode cX12_decided 1 = .ok (.getfield 49, 3) := by decide +kernel
theorem dX12_decided_4 : decode cX12_decided 4 = .ok (.iload_n 1, 1) := by decide +kernel
theorem dX12_decided_5 : decode cX12_decided 5 = .ok (.invokevirtual 173, 3) := by decide +kernel
theorem dX12_decided_8 : decode cX12_decided 8 = .ok (.ifCond .eq 15, 3) := by decide +kernel
theorem dX12_decided_23 : decode cX12_decided 23 = .ok (.new 154, 3) := by decide +kernel
theorem dX12_decided_26 : decode cX12_decided 26 = .ok (.dup, 1) := by decide +kernel
theorem dX12_decided_27 : decode cX12_decided 27 = .ok (.ldc 246, 2) := by decide +kernel
theorem dX12_decided_29 : decode cX12_decided 29 = .ok (.invokespecial 158, 3) := by decide +kernel
theorem dX12_decided_32 : decode cX12_decided 32 = .ok (.athrow, 1) := by decide +kernel
theorem dX12_best_0 : decode cX12_best 0 = .ok (.aload_n 0, 1) := by decide +kernel
theorem dX12_best_1 : decode cX12_best 1 = .ok (.getfield 49, 3) := by decide +kernel
theorem dX12_best_4 : decode cX12_best 4 = .ok (.getfield 139, 3) := by decide +kernel
theorem dX12_best_7 : decode cX12_best 7 = .ok (.ifCond .ne 13, 3) := by decide +kernel
theorem dX12_best_10 : decode cX12_best 10 = .ok (.new 126, 3) := by decide +kernel
theorem dX12_best_13 : decode cX12_best 13 = .ok (.dup, 1) := by decide +kernel
theorem dX12_best_14 : decode cX12_best 14 = .ok (.ldc 248, 2) := by decide +kernel
theorem dX12_best_16 : decode cX12_best 16 = .ok (.invokespecial 166, 3) := by decide +kernel
theorem dX12_best_19 : decode cX12_best 19 = .ok (.athrow, 1) := by decide +kernel
theorem dX12_solve_0 : decode cX12_solve 0 = .ok (.aload_n 0, 1) := by decide +kernel
theorem dX12_solve_1 : decode cX12_solve 1 = .ok (.getfield 49, 3) := by decide +kernel
theorem dX12_solve_4 : decode cX12_solve 4 = .ok (.getfield 139, 3) := by decide +kernel
theorem dX12_solve_7 : decode cX12_solve 7 = .ok (.ifCond .ne 13, 3) := by decide +kernel
theorem dX12_solve_10 : decode cX12_solve 10 = .ok (.new 126, 3) := by decide +kernel
theorem dX12_solve_13 : decode cX12_solve 13 = .ok (.dup, 1) := by decide +kernel
theorem dX12_solve_14 : decode cX12_solve 14 = .ok (.ldc 248, 2) := by decide +kernel
theorem dX12_solve_16 : decode cX12_solve 16 = .ok (.invokespecial 166, 3) := by decide +kernel
theorem dX12_solve_19 : decode cX12_solve 19 = .ok (.athrow, 1) := by decide +kernel
theorem dX12_show_0 : decode cX12_show 0 = .ok (.iload_n 1, 1) := by decide +kernel
theorem dX12_show_1 : decode cX12_show 1 = .ok (.ifCond .lt 9, 3) := by decide +kernel
theorem dX12_show_4 : decode cX12_show 4 = .ok (.iload_n 1, 1) := by decide +kernel
theorem dX12_show_5 : decode cX12_show 5 = .ok (.bipush 12, 2) := by decide +kernel
theorem dX12_show_7 : decode cX12_show 7 = .ok (.if_icmp .le 14, 3) := by decide +kernel
theorem dX12_show_10 : decode cX12_show 10 = .ok (.new 118, 3) := by decide +kernel
theorem dX12_show_13 : decode cX12_show 13 = .ok (.dup, 1) := by decide +kernel
theorem dX12_show_14 : decode cX12_show 14 = .ok (.ldc_w 256, 3) := by decide +kernel
theorem dX12_show_17 : decode cX12_show 17 = .ok (.invokespecial 122, 3) := by decide +kernel
theorem dX12_show_20 : decode cX12_show 20 = .ok (.athrow, 1) := by decide +kernel
theorem dX12_show_21 : decode cX12_show 21 = .ok (.aload_n 0, 1) := by decide +kernel
theorem dX12_show_22 : decode cX12_show 22 = .ok (.iload_n 1, 1) := by decide +kernel
theorem dX12_show_23 : decode cX12_show 23 = .ok (.invokevirtual 258, 3) := by decide +kernel
theorem dX12_show_26 : decode cX12_show 26 = .ok (.ifCond .ne 14, 3) := by decide +kernel
theorem dX12_show_29 : decode cX12_show 29 = .ok (.new 126, 3) := by decide +kernel
theorem dX12_show_32 : decode cX12_show 32 = .ok (.dup, 1) := by decide +kernel
theorem dX12_show_33 : decode cX12_show 33 = .ok (.ldc_w 261, 3) := by decide +kernel
theorem dX12_show_36 : decode cX12_show 36 = .ok (.invokespecial 166, 3) := by decide +kernel
theorem dX12_show_39 : decode cX12_show 39 = .ok (.athrow, 1) := by decide +kernel
theorem dX12_tell_0 : decode cX12_tell 0 = .ok (.aload_n 0, 1) := by decide +kernel
theorem dX12_tell_1 : decode cX12_tell 1 = .ok (.getfield 305, 3) := by decide +kernel
theorem dX12_tell_4 : decode cX12_tell 4 = .ok (.sipush 200, 3) := by decide +kernel
theorem dX12_tell_7 : decode cX12_tell 7 = .ok (.if_icmp .lt 14, 3) := by decide +kernel
theorem dX12_tell_21 : decode cX12_tell 21 = .ok (.aload_n 0, 1) := by decide +kernel
theorem dX12_tell_22 : decode cX12_tell 22 = .ok (.getfield 83, 3) := by decide +kernel
theorem dX12_tell_25 : decode cX12_tell 25 = .ok (.aload_n 0, 1) := by decide +kernel
theorem dX12_tell_26 : decode cX12_tell 26 = .ok (.getfield 305, 3) := by decide +kernel
theorem dX12_tell_29 : decode cX12_tell 29 = .ok (.iload_n 1, 1) := by decide +kernel
theorem dX12_tell_30 : decode cX12_tell 30 = .ok (.iastore, 1) := by decide +kernel
theorem dX12_tell_31 : decode cX12_tell 31 = .ok (.aload_n 0, 1) := by decide +kernel
theorem dX12_tell_32 : decode cX12_tell 32 = .ok (.dup, 1) := by decide +kernel
theorem dX12_tell_33 : decode cX12_tell 33 = .ok (.getfield 305, 3) := by decide +kernel
theorem dX12_tell_36 : decode cX12_tell 36 = .ok (.iconst 1, 1) := by decide +kernel
theorem dX12_tell_37 : decode cX12_tell 37 = .ok (.iadd, 1) := by decide +kernel
theorem dX12_tell_38 : decode cX12_tell 38 = .ok (.putfield 305, 3) := by decide +kernel
theorem dX12_tell_41 : decode cX12_tell 41 = .ok (.aload_n 0, 1) := by decide +kernel
theorem dX12_tell_42 : decode cX12_tell 42 = .ok (.getfield 305, 3) := by decide +kernel
theorem dX12_tell_45 : decode cX12_tell 45 = .ok (.ireturn, 1) := by decide +kernel
theorem dX12_forget_0 : decode cX12_forget 0 = .ok (.aload_n 0, 1) := by decide +kernel
theorem dX12_forget_1 : decode cX12_forget 1 = .ok (.getfield 305, 3) := by decide +kernel
theorem dX12_forget_4 : decode cX12_forget 4 = .ok (.istore_n 1, 1) := by decide +kernel
theorem dX12_forget_5 : decode cX12_forget 5 = .ok (.aload_n 0, 1) := by decide +kernel
theorem dX12_forget_6 : decode cX12_forget 6 = .ok (.iconst 0, 1) := by decide +kernel
theorem dX12_forget_7 : decode cX12_forget 7 = .ok (.putfield 305, 3) := by decide +kernel
theorem dX12_forget_10 : decode cX12_forget 10 = .ok (.iload_n 1, 1) := by decide +kernel
theorem dX12_forget_11 : decode cX12_forget 11 = .ok (.ireturn, 1) := by decide +kernel
theorem dX12_play_0 : decode cX12_play 0 = .ok (.aload_n 0, 1) := by decide +kernel
theorem dX12_play_1 : decode cX12_play 1 = .ok (.getfield 135, 3) := by decide +kernel
theorem dX12_play_4 : decode cX12_play 4 = .ok (.ifCond .ne 13, 3) := by decide +kernel
theorem dX12_play_7 : decode cX12_play 7 = .ok (.new 126, 3) := by decide +kernel
theorem dX12_play_10 : decode cX12_play 10 = .ok (.dup, 1) := by decide +kernel
theorem dX12_play_11 : decode cX12_play 11 = .ok (.ldc 164, 2) := by decide +kernel
theorem dX12_play_13 : decode cX12_play 13 = .ok (.invokespecial 166, 3) := by decide +kernel
theorem dX12_play_16 : decode cX12_play 16 = .ok (.athrow, 1) := by decide +kernel
theorem dX12_walk_0 : decode cX12_walk 0 = .ok (.aload_n 0, 1) := by decide +kernel
theorem dX12_walk_1 : decode cX12_walk 1 = .ok (.getfield 135, 3) := by decide +kernel
theorem dX12_walk_4 : decode cX12_walk 4 = .ok (.ifCond .ne 13, 3) := by decide +kernel
theorem dX12_walk_7 : decode cX12_walk 7 = .ok (.new 126, 3) := by decide +kernel
theorem dX12_walk_10 : decode cX12_walk 10 = .ok (.dup, 1) := by decide +kernel
theorem dX12_walk_11 : decode cX12_walk 11 = .ok (.ldc 164, 2) := by decide +kernel
theorem dX12_walk_13 : decode cX12_walk 13 = .ok (.invokespecial 166, 3) := by decide +kernel
theorem dX12_walk_16 : decode cX12_walk 16 = .ok (.athrow, 1) := by decide +kernel
theorem dX12_played_0 : decode cX12_played 0 = .ok (.aload_n 0, 1) := by decide +kernel
theorem dX12_played_1 : decode cX12_played 1 = .ok (.getfield 135, 3) := by decide +kernel
theorem dX12_played_4 : decode cX12_played 4 = .ok (.ifCond .eq 13, 3) := by decide +kernel
theorem dX12_played_17 : decode cX12_played 17 = .ok (.iconst 0, 1) := by decide +kernel
theorem dX12_played_18 : decode cX12_played 18 = .ok (.istore_n 2, 1) := by decide +kernel
theorem dX12_played_19 : decode cX12_played 19 = .ok (.iload_n 1, 1) := by decide +kernel
theorem dX12_played_20 : decode cX12_played 20 = .ok (.ifCond .lt 10, 3) := by decide +kernel
theorem dX12_played_23 : decode cX12_played 23 = .ok (.iload_n 1, 1) := by decide +kernel
theorem dX12_played_24 : decode cX12_played 24 = .ok (.iconst 5, 1) := by decide +kernel
theorem dX12_played_25 : decode cX12_played 25 = .ok (.iload_n 2, 1) := by decide +kernel
theorem dX12_played_26 : decode cX12_played 26 = .ok (.iadd, 1) := by decide +kernel
theorem dX12_played_27 : decode cX12_played 27 = .ok (.if_icmp .lt 14, 3) := by decide +kernel
theorem dX12_played_30 : decode cX12_played 30 = .ok (.new 154, 3) := by decide +kernel
theorem dX12_played_33 : decode cX12_played 33 = .ok (.dup, 1) := by decide +kernel
theorem dX12_played_34 : decode cX12_played 34 = .ok (.ldc_w 316, 3) := by decide +kernel
theorem dX12_played_37 : decode cX12_played 37 = .ok (.invokespecial 158, 3) := by decide +kernel
theorem dX12_played_40 : decode cX12_played 40 = .ok (.athrow, 1) := by decide +kernel
theorem dX12_played_41 : decode cX12_played 41 = .ok (.aload_n 0, 1) := by decide +kernel
theorem dX12_played_42 : decode cX12_played 42 = .ok (.getfield 148, 3) := by decide +kernel
theorem dX12_played_45 : decode cX12_played 45 = .ok (.ifCond .ne 5, 3) := by decide +kernel
theorem dX12_played_48 : decode cX12_played 48 = .ok (.lconst 0, 1) := by decide +kernel
theorem dX12_played_49 : decode cX12_played 49 = .ok (.lreturn, 1) := by decide +kernel
theorem dX12_independent_0 : decode cX12_independent 0 = .ok (.aload_n 0, 1) := by decide +kernel
theorem dX12_independent_1 : decode cX12_independent 1 = .ok (.getfield 61, 3) := by decide +kernel
theorem dX12_independent_4 : decode cX12_independent 4 = .ok (.getfield 142, 3) := by decide +kernel
theorem dX12_independent_7 : decode cX12_independent 7 = .ok (.ifCond .ne 14, 3) := by decide +kernel
theorem dX12_independent_10 : decode cX12_independent 10 = .ok (.new 126, 3) := by decide +kernel
theorem dX12_independent_13 : decode cX12_independent 13 = .ok (.dup, 1) := by decide +kernel
theorem dX12_independent_14 : decode cX12_independent 14 = .ok (.ldc_w 318, 3) := by decide +kernel
theorem dX12_independent_17 : decode cX12_independent 17 = .ok (.invokespecial 166, 3) := by decide +kernel
theorem dX12_independent_20 : decode cX12_independent 20 = .ok (.athrow, 1) := by decide +kernel
theorem dX12_given_0 : decode cX12_given 0 = .ok (.aload_n 0, 1) := by decide +kernel
theorem dX12_given_1 : decode cX12_given 1 = .ok (.getfield 61, 3) := by decide +kernel
theorem dX12_given_4 : decode cX12_given 4 = .ok (.getfield 142, 3) := by decide +kernel
theorem dX12_given_7 : decode cX12_given 7 = .ok (.ifCond .ne 14, 3) := by decide +kernel
theorem dX12_given_10 : decode cX12_given 10 = .ok (.new 126, 3) := by decide +kernel
theorem dX12_given_13 : decode cX12_given 13 = .ok (.dup, 1) := by decide +kernel
theorem dX12_given_14 : decode cX12_given 14 = .ok (.ldc_w 318, 3) := by decide +kernel
theorem dX12_given_17 : decode cX12_given 17 = .ok (.invokespecial 166, 3) := by decide +kernel
theorem dX12_given_20 : decode cX12_given 20 = .ok (.athrow, 1) := by decide +kernel
theorem dX12_showsNow_0 : decode cX12_showsNow 0 = .ok (.iload_n 1, 1) := by decide +kernel
theorem dX12_showsNow_1 : decode cX12_showsNow 1 = .ok (.bipush 12, 2) := by decide +kernel
theorem dX12_showsNow_3 : decode cX12_showsNow 3 = .ok (.if_icmp .ne 8, 3) := by decide +kernel
theorem dX12_showsNow_6 : decode cX12_showsNow 6 = .ok (.aload_n 0, 1) := by decide +kernel
theorem dX12_showsNow_7 : decode cX12_showsNow 7 = .ok (.getfield 148, 3) := by decide +kernel
theorem dX12_showsNow_10 : decode cX12_showsNow 10 = .ok (.ireturn, 1) := by decide +kernel
theorem dX12_showsNow_11 : decode cX12_showsNow 11 = .ok (.iload_n 1, 1) := by decide +kernel
theorem dX12_showsNow_12 : decode cX12_showsNow 12 = .ok (.bipush 11, 2) := by decide +kernel
theorem dX12_showsNow_14 : decode cX12_showsNow 14 = .ok (.if_icmp .ne 11, 3) := by decide +kernel
theorem dX12_showsNow_17 : decode cX12_showsNow 17 = .ok (.aload_n 0, 1) := by decide +kernel
theorem dX12_showsNow_18 : decode cX12_showsNow 18 = .ok (.getfield 61, 3) := by decide +kernel
theorem dX12_showsNow_21 : decode cX12_showsNow 21 = .ok (.getfield 145, 3) := by decide +kernel
theorem dX12_showsNow_24 : decode cX12_showsNow 24 = .ok (.ireturn, 1) := by decide +kernel
theorem dX12_showsNow_25 : decode cX12_showsNow 25 = .ok (.aload_n 0, 1) := by decide +kernel
theorem dX12_showsNow_26 : decode cX12_showsNow 26 = .ok (.getfield 61, 3) := by decide +kernel
theorem dX12_showsNow_29 : decode cX12_showsNow 29 = .ok (.getfield 142, 3) := by decide +kernel
theorem dX12_showsNow_32 : decode cX12_showsNow 32 = .ok (.ifCond .ne 5, 3) := by decide +kernel
theorem dX12_showsNow_35 : decode cX12_showsNow 35 = .ok (.iconst 0, 1) := by decide +kernel
theorem dX12_showsNow_36 : decode cX12_showsNow 36 = .ok (.ireturn, 1) := by decide +kernel
