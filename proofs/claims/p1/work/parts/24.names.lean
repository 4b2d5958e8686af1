abbrev cX13_swing : ByteArray := prog_15_method_62_code
def yX13_swing : MethodName := ⟨RX13, "swing", "([IIZ)V"⟩
theorem dX13_swing_0 : decode cX13_swing 0 = .ok (.iconst 0, 1) := by decide +kernel
theorem dX13_swing_1 : decode cX13_swing 1 = .ok (.istore 4, 2) := by decide +kernel
theorem dX13_swing_3 : decode cX13_swing 3 = .ok (.iload 4, 2) := by decide +kernel
theorem dX13_swing_5 : decode cX13_swing 5 = .ok (.iload_n 2, 1) := by decide +kernel
theorem dX13_swing_6 : decode cX13_swing 6 = .ok (.if_icmp .ge 52, 3) := by decide +kernel
theorem dX13_swing_9 : decode cX13_swing 9 = .ok (.iload_n 3, 1) := by decide +kernel
theorem dX13_swing_10 : decode cX13_swing 10 = .ok (.ifCond .eq 19, 3) := by decide +kernel
theorem dX13_swing_13 : decode cX13_swing 13 = .ok (.aload_n 1, 1) := by decide +kernel
theorem dX13_swing_14 : decode cX13_swing 14 = .ok (.iload 4, 2) := by decide +kernel
theorem dX13_swing_16 : decode cX13_swing 16 = .ok (.aload_n 0, 1) := by decide +kernel
theorem dX13_swing_17 : decode cX13_swing 17 = .ok (.getfield 116, 3) := by decide +kernel
theorem dX13_swing_20 : decode cX13_swing 20 = .ok (.aload_n 0, 1) := by decide +kernel
theorem dX13_swing_21 : decode cX13_swing 21 = .ok (.getfield 484, 3) := by decide +kernel
theorem dX13_swing_24 : decode cX13_swing 24 = .ok (.iaload, 1) := by decide +kernel
theorem dX13_swing_25 : decode cX13_swing 25 = .ok (.iastore, 1) := by decide +kernel
theorem dX13_swing_26 : decode cX13_swing 26 = .ok (.goto 16, 3) := by decide +kernel
theorem dX13_swing_29 : decode cX13_swing 29 = .ok (.aload_n 0, 1) := by decide +kernel
theorem dX13_swing_30 : decode cX13_swing 30 = .ok (.getfield 116, 3) := by decide +kernel
theorem dX13_swing_33 : decode cX13_swing 33 = .ok (.aload_n 0, 1) := by decide +kernel
theorem dX13_swing_34 : decode cX13_swing 34 = .ok (.getfield 484, 3) := by decide +kernel
theorem dX13_swing_37 : decode cX13_swing 37 = .ok (.aload_n 1, 1) := by decide +kernel
theorem dX13_swing_38 : decode cX13_swing 38 = .ok (.iload 4, 2) := by decide +kernel
theorem dX13_swing_40 : decode cX13_swing 40 = .ok (.iaload, 1) := by decide +kernel
theorem dX13_swing_41 : decode cX13_swing 41 = .ok (.iastore, 1) := by decide +kernel
theorem dX13_swing_42 : decode cX13_swing 42 = .ok (.aload_n 0, 1) := by decide +kernel
theorem dX13_swing_43 : decode cX13_swing 43 = .ok (.dup, 1) := by decide +kernel
theorem dX13_swing_44 : decode cX13_swing 44 = .ok (.getfield 484, 3) := by decide +kernel
theorem dX13_swing_47 : decode cX13_swing 47 = .ok (.iconst 1, 1) := by decide +kernel
theorem dX13_swing_48 : decode cX13_swing 48 = .ok (.iadd, 1) := by decide +kernel
theorem dX13_swing_49 : decode cX13_swing 49 = .ok (.putfield 484, 3) := by decide +kernel
theorem dX13_swing_52 : decode cX13_swing 52 = .ok (.iinc 4 1, 3) := by decide +kernel
theorem dX13_swing_55 : decode cX13_swing 55 = .ok (.goto (-52), 3) := by decide +kernel
theorem dX13_swing_58 : decode cX13_swing 58 = .ok (.return_, 1) := by decide +kernel
