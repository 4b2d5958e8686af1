abbrev cX12_end : ByteArray := prog_1_method_3_code
def yX12_end : MethodName := ⟨RX12, "end", "(I)V"⟩
def RL : String := "ChanceWorksLaw"
abbrev cL_end : ByteArray := method_4_code
def yL_end : MethodName := ⟨RL, "end", "(LChanceWorks;I)I"⟩
def wsX12_end : List Cond := .code yX12_end cX12_end 2 none :: ([.classLink RX12 117 "java/lang/IllegalArgumentException", .initialized "java/lang/IllegalArgumentException", .fieldLink RX12 12 "ChanceWorks" "tape" "LChanceWorks$Tape;", .fieldLink RX12 98 "ChanceWorks$Tape" "length" "I"] ++ wsX120 ++ wsX100 ++ (vx_atS RX12 121 "java/lang/IllegalArgumentException" ["java/lang/RuntimeException", "java/lang/Exception"]).filter goodWord)
def wsL_end : List Cond := .codeWith yL_end cL_end 3 (some .int) [(0, 5, 8, 19)] :: ([.classLink RL 19 "java/lang/IllegalArgumentException", .methodLink RL 15 yX12_end, .instanceMethod yX12_end, .selects RX12 yX12_end yX12_end, .initialized RX12, .code yX12_end cX12_end 2 none, .classLink RX12 117 "java/lang/IllegalArgumentException", .initialized "java/lang/IllegalArgumentException", .fieldLink RX12 12 "ChanceWorks" "tape" "LChanceWorks$Tape;", .fieldLink RX12 98 "ChanceWorks$Tape" "length" "I"] ++ wsX120 ++ wsX100 ++ (vx_atS RX12 121 "java/lang/IllegalArgumentException" ["java/lang/RuntimeException", "java/lang/Exception"]).filter goodWord)
theorem dX12_end_0 : decode cX12_end 0 = .ok (.iload_n 1, 1) := by decide +kernel
theorem dX12_end_1 : decode cX12_end 1 = .ok (.ifCond .lt 14, 3) := by decide +kernel
theorem dX12_end_4 : decode cX12_end 4 = .ok (.iload_n 1, 1) := by decide +kernel
theorem dX12_end_5 : decode cX12_end 5 = .ok (.aload_n 0, 1) := by decide +kernel
theorem dX12_end_6 : decode cX12_end 6 = .ok (.getfield 12, 3) := by decide +kernel
theorem dX12_end_9 : decode cX12_end 9 = .ok (.getfield 98, 3) := by decide +kernel
theorem dX12_end_12 : decode cX12_end 12 = .ok (.if_icmp .le 13, 3) := by decide +kernel
theorem dX12_end_15 : decode cX12_end 15 = .ok (.new 117, 3) := by decide +kernel
theorem dX12_end_18 : decode cX12_end 18 = .ok (.dup, 1) := by decide +kernel
theorem dX12_end_19 : decode cX12_end 19 = .ok (.ldc 119, 2) := by decide +kernel
theorem dX12_end_21 : decode cX12_end 21 = .ok (.invokespecial 121, 3) := by decide +kernel
theorem dX12_end_24 : decode cX12_end 24 = .ok (.athrow, 1) := by decide +kernel
theorem dX12_end_25 : decode cX12_end 25 = .ok (.aload_n 0, 1) := by decide +kernel
theorem dX12_end_26 : decode cX12_end 26 = .ok (.getfield 12, 3) := by decide +kernel
theorem dX12_end_29 : decode cX12_end 29 = .ok (.iload_n 1, 1) := by decide +kernel
theorem dX12_end_30 : decode cX12_end 30 = .ok (.putfield 98, 3) := by decide +kernel
theorem dX12_end_33 : decode cX12_end 33 = .ok (.return_, 1) := by decide +kernel
set_option maxRecDepth 20000 in
theorem ggL_end_X12_end : GoodIn wsL_end wsX12_end := goodIn_ca (goodIn_r _ [6, 7, 8, 9, 10, 11, 12, 13, 14, 15, 16, 17, 18, 19, 20, 21, 22, 23, 24, 25, 26, 27, 28, 29, 30, 31, 32, 33, 34] (by decide +kernel) (by decide +kernel)) (goodIn_sub (fun _ h => List.mem_cons_of_mem _ (List.mem_append_right _ h)) (by decide +kernel))
set_option maxRecDepth 20000 in
theorem gL_end_X12_end : GoodIn wsL_end (wsV RL 15 RX12 yX12_end wsX12_end) := goodIn_app (goodIn_of _ (by decide +kernel)) ggL_end_X12_end
theorem dL_end_0 : decode cL_end 0 = .ok (.aload_n 0, 1) := by decide +kernel
theorem dL_end_1 : decode cL_end 1 = .ok (.iload_n 1, 1) := by decide +kernel
theorem dL_end_2 : decode cL_end 2 = .ok (.invokevirtual 15, 3) := by decide +kernel
theorem dL_end_5 : decode cL_end 5 = .ok (.goto 6, 3) := by decide +kernel
theorem dL_end_8 : decode cL_end 8 = .ok (.astore_n 2, 1) := by decide +kernel
theorem dL_end_9 : decode cL_end 9 = .ok (.iconst 1, 1) := by decide +kernel
theorem dL_end_10 : decode cL_end 10 = .ok (.ireturn, 1) := by decide +kernel
theorem dL_end_11 : decode cL_end 11 = .ok (.iconst 0, 1) := by decide +kernel
theorem dL_end_12 : decode cL_end 12 = .ok (.ireturn, 1) := by decide +kernel
