set_option maxRecDepth 100000 in
set_option maxHeartbeats 4000000 in
theorem it8_L : ∀ q ∈ KLL, (fun q => ∀ r, KMs[q.2]? = some r → Cond.methodLink (nO 100) q.1 r.1.1 ∈ lw_tbl : Nat × Nat → Prop) q := (fa_9 (P := (fun q => ∀ r, KMs[q.2]? = some r → Cond.methodLink (nO 100) q.1 r.1.1 ∈ lw_tbl : Nat × Nat → Prop)) (fun r hr => (by cases (Option.some.inj hr); exact (tm6 (List.mem_of_getElem? (i := 232) rfl)))) (fa_9 (P := (fun q => ∀ r, KMs[q.2]? = some r → Cond.methodLink (nO 100) q.1 r.1.1 ∈ lw_tbl : Nat × Nat → Prop)) (fun r hr => (by cases (Option.some.inj hr); exact (tm7 (List.mem_of_getElem? (i := 26) rfl)))) (fa_9 (P := (fun q => ∀ r, KMs[q.2]? = some r → Cond.methodLink (nO 100) q.1 r.1.1 ∈ lw_tbl : Nat × Nat → Prop)) (fun r hr => (by cases (Option.some.inj hr); exact (tm4 (List.mem_of_getElem? (i := 48) rfl)))) (fa_9 (P := (fun q => ∀ r, KMs[q.2]? = some r → Cond.methodLink (nO 100) q.1 r.1.1 ∈ lw_tbl : Nat × Nat → Prop)) (fun r hr => (by cases (Option.some.inj hr); exact (tm7 (List.mem_of_getElem? (i := 37) rfl)))) (fa_9 (P := (fun q => ∀ r, KMs[q.2]? = some r → Cond.methodLink (nO 100) q.1 r.1.1 ∈ lw_tbl : Nat × Nat → Prop)) (fun r hr => (by cases (Option.some.inj hr); exact (tm7 (List.mem_of_getElem? (i := 70) rfl)))) (fa_9 (P := (fun q => ∀ r, KMs[q.2]? = some r → Cond.methodLink (nO 100) q.1 r.1.1 ∈ lw_tbl : Nat × Nat → Prop)) (fun r hr => (by cases (Option.some.inj hr); exact (tm8 (List.mem_of_getElem? (i := 33) rfl)))) (fa_9 (P := (fun q => ∀ r, KMs[q.2]? = some r → Cond.methodLink (nO 100) q.1 r.1.1 ∈ lw_tbl : Nat × Nat → Prop)) (fun r hr => (by cases (Option.some.inj hr); exact (tm8 (List.mem_of_getElem? (i := 63) rfl)))) (fa_9 (P := (fun q => ∀ r, KMs[q.2]? = some r → Cond.methodLink (nO 100) q.1 r.1.1 ∈ lw_tbl : Nat × Nat → Prop)) (fun r hr => (by cases (Option.some.inj hr); exact (tm8 (List.mem_of_getElem? (i := 86) rfl)))) (fa_9 (P := (fun q => ∀ r, KMs[q.2]? = some r → Cond.methodLink (nO 100) q.1 r.1.1 ∈ lw_tbl : Nat × Nat → Prop)) (fun r hr => (by cases (Option.some.inj hr); exact (tm8 (List.mem_of_getElem? (i := 94) rfl)))) (fa_9 (P := (fun q => ∀ r, KMs[q.2]? = some r → Cond.methodLink (nO 100) q.1 r.1.1 ∈ lw_tbl : Nat × Nat → Prop)) (fun r hr => (by cases (Option.some.inj hr); exact (tm8 (List.mem_of_getElem? (i := 108) rfl)))) (fa_9 (P := (fun q => ∀ r, KMs[q.2]? = some r → Cond.methodLink (nO 100) q.1 r.1.1 ∈ lw_tbl : Nat × Nat → Prop)) (fun r hr => (by cases (Option.some.inj hr); exact (tm8 (List.mem_of_getElem? (i := 116) rfl)))) (fa_9 (P := (fun q => ∀ r, KMs[q.2]? = some r → Cond.methodLink (nO 100) q.1 r.1.1 ∈ lw_tbl : Nat × Nat → Prop)) (fun r hr => (by cases (Option.some.inj hr); exact (tm8 (List.mem_of_getElem? (i := 124) rfl)))) (fa_9 (P := (fun q => ∀ r, KMs[q.2]? = some r → Cond.methodLink (nO 100) q.1 r.1.1 ∈ lw_tbl : Nat × Nat → Prop)) (fun r hr => (by cases (Option.some.inj hr); exact (tm9 (List.mem_of_getElem? (i := 72) rfl)))) (fa_9 (P := (fun q => ∀ r, KMs[q.2]? = some r → Cond.methodLink (nO 100) q.1 r.1.1 ∈ lw_tbl : Nat × Nat → Prop)) (fun r hr => (by cases (Option.some.inj hr); exact (tm9 (List.mem_of_getElem? (i := 158) rfl)))) (fa_9 (P := (fun q => ∀ r, KMs[q.2]? = some r → Cond.methodLink (nO 100) q.1 r.1.1 ∈ lw_tbl : Nat × Nat → Prop)) (fun r hr => (by cases (Option.some.inj hr); exact (tm9 (List.mem_of_getElem? (i := 217) rfl)))) (fa_9 (P := (fun q => ∀ r, KMs[q.2]? = some r → Cond.methodLink (nO 100) q.1 r.1.1 ∈ lw_tbl : Nat × Nat → Prop)) (fun r hr => (by cases (Option.some.inj hr); exact (tm9 (List.mem_of_getElem? (i := 230) rfl)))) (fa_9 (P := (fun q => ∀ r, KMs[q.2]? = some r → Cond.methodLink (nO 100) q.1 r.1.1 ∈ lw_tbl : Nat × Nat → Prop)) (fun r hr => (by cases (Option.some.inj hr); exact (tm10 (List.mem_of_getElem? (i := 2) rfl)))) (fa_9 (P := (fun q => ∀ r, KMs[q.2]? = some r → Cond.methodLink (nO 100) q.1 r.1.1 ∈ lw_tbl : Nat × Nat → Prop)) (fun r hr => (by cases (Option.some.inj hr); exact (tm10 (List.mem_of_getElem? (i := 10) rfl)))) (fa_9 (P := (fun q => ∀ r, KMs[q.2]? = some r → Cond.methodLink (nO 100) q.1 r.1.1 ∈ lw_tbl : Nat × Nat → Prop)) (fun r hr => (by cases (Option.some.inj hr); exact (tm10 (List.mem_of_getElem? (i := 51) rfl)))) (fa_9 (P := (fun q => ∀ r, KMs[q.2]? = some r → Cond.methodLink (nO 100) q.1 r.1.1 ∈ lw_tbl : Nat × Nat → Prop)) (fun r hr => (by cases (Option.some.inj hr); exact (tm10 (List.mem_of_getElem? (i := 58) rfl)))) (fa_9 (P := (fun q => ∀ r, KMs[q.2]? = some r → Cond.methodLink (nO 100) q.1 r.1.1 ∈ lw_tbl : Nat × Nat → Prop)) (fun r hr => (by cases (Option.some.inj hr); exact (tm10 (List.mem_of_getElem? (i := 66) rfl)))) (fa_9 (P := (fun q => ∀ r, KMs[q.2]? = some r → Cond.methodLink (nO 100) q.1 r.1.1 ∈ lw_tbl : Nat × Nat → Prop)) (fun r hr => (by cases (Option.some.inj hr); exact (tm10 (List.mem_of_getElem? (i := 135) rfl)))) f0_9))))))))))))))))))))))
set_option maxRecDepth 100000 in
set_option maxHeartbeats 4000000 in
theorem it8 : ∀ o ∈ osA, ∀ q ∈ tKL o, ∀ r, KMs[q.2]? = some r → Cond.methodLink (nO o) q.1 r.1.1 ∈ lw_tbl := by
  intro o ho
  simp only [osA, List.mem_cons, List.mem_nil_iff, or_false] at ho
  rcases ho with rfl | rfl | rfl | rfl | rfl | rfl | rfl | rfl | rfl | rfl | rfl | rfl | rfl | rfl | rfl | rfl | rfl | rfl | rfl
  · exact fun q hq => nomatch hq
  · exact fun q hq => nomatch hq
  · exact fun q hq => nomatch hq
  · exact fun q hq => nomatch hq
  · exact fun q hq => nomatch hq
  · exact fun q hq => nomatch hq
  · exact fun q hq => nomatch hq
  · exact fun q hq => nomatch hq
  · exact fun q hq => nomatch hq
  · exact fun q hq => nomatch hq
  · exact fun q hq => nomatch hq
  · exact fun q hq => nomatch hq
  · exact fun q hq => nomatch hq
  · exact fun q hq => nomatch hq
  · exact fun q hq => nomatch hq
  · exact fun q hq => nomatch hq
  · exact fun q hq => nomatch hq
  · exact fun q hq => nomatch hq
  · exact it8_L
set_option maxRecDepth 100000 in
set_option maxHeartbeats 4000000 in
theorem it9_X1 : ∀ q ∈ CNX1, (fun q => Cond.constant (nO 4) q.1 q.2 ∈ lw_tbl : (Nat × Int32) → Prop) q := (fa_9 (P := (fun q => Cond.constant (nO 4) q.1 q.2 ∈ lw_tbl : (Nat × Int32) → Prop)) (tm9 (List.mem_of_getElem? (i := 24) rfl)) f0_9)
set_option maxRecDepth 100000 in
set_option maxHeartbeats 4000000 in
theorem it9_X3 : ∀ q ∈ CNX3, (fun q => Cond.constant (nO 6) q.1 q.2 ∈ lw_tbl : (Nat × Int32) → Prop) q := (fa_9 (P := (fun q => Cond.constant (nO 6) q.1 q.2 ∈ lw_tbl : (Nat × Int32) → Prop)) (tm7 (List.mem_of_getElem? (i := 131) rfl)) f0_9)
set_option maxRecDepth 100000 in
set_option maxHeartbeats 4000000 in
theorem it9_X4 : ∀ q ∈ CNX4, (fun q => Cond.constant (nO 7) q.1 q.2 ∈ lw_tbl : (Nat × Int32) → Prop) q := (fa_9 (P := (fun q => Cond.constant (nO 7) q.1 q.2 ∈ lw_tbl : (Nat × Int32) → Prop)) (tm7 (List.mem_of_getElem? (i := 192) rfl)) f0_9)
set_option maxRecDepth 100000 in
set_option maxHeartbeats 4000000 in
theorem it9_X5 : ∀ q ∈ CNX5, (fun q => Cond.constant (nO 8) q.1 q.2 ∈ lw_tbl : (Nat × Int32) → Prop) q := (fa_9 (P := (fun q => Cond.constant (nO 8) q.1 q.2 ∈ lw_tbl : (Nat × Int32) → Prop)) (tm8 (List.mem_of_getElem? (i := 202) rfl)) f0_9)
set_option maxRecDepth 100000 in
set_option maxHeartbeats 4000000 in
theorem it9_X12 : ∀ q ∈ CNX12, (fun q => Cond.constant (nO 15) q.1 q.2 ∈ lw_tbl : (Nat × Int32) → Prop) q := (fa_9 (P := (fun q => Cond.constant (nO 15) q.1 q.2 ∈ lw_tbl : (Nat × Int32) → Prop)) (tm7 (List.mem_of_getElem? (i := 0) rfl)) f0_9)
set_option maxRecDepth 100000 in
set_option maxHeartbeats 4000000 in
theorem it9_X13 : ∀ q ∈ CNX13, (fun q => Cond.constant (nO 16) q.1 q.2 ∈ lw_tbl : (Nat × Int32) → Prop) q := (fa_9 (P := (fun q => Cond.constant (nO 16) q.1 q.2 ∈ lw_tbl : (Nat × Int32) → Prop)) (tm10 (List.mem_of_getElem? (i := 152) rfl)) (fa_9 (P := (fun q => Cond.constant (nO 16) q.1 q.2 ∈ lw_tbl : (Nat × Int32) → Prop)) (tm10 (List.mem_of_getElem? (i := 153) rfl)) (fa_9 (P := (fun q => Cond.constant (nO 16) q.1 q.2 ∈ lw_tbl : (Nat × Int32) → Prop)) (tm10 (List.mem_of_getElem? (i := 154) rfl)) (fa_9 (P := (fun q => Cond.constant (nO 16) q.1 q.2 ∈ lw_tbl : (Nat × Int32) → Prop)) (tm10 (List.mem_of_getElem? (i := 155) rfl)) (fa_9 (P := (fun q => Cond.constant (nO 16) q.1 q.2 ∈ lw_tbl : (Nat × Int32) → Prop)) (tm10 (List.mem_of_getElem? (i := 156) rfl)) (fa_9 (P := (fun q => Cond.constant (nO 16) q.1 q.2 ∈ lw_tbl : (Nat × Int32) → Prop)) (tm10 (List.mem_of_getElem? (i := 157) rfl)) (fa_9 (P := (fun q => Cond.constant (nO 16) q.1 q.2 ∈ lw_tbl : (Nat × Int32) → Prop)) (tm10 (List.mem_of_getElem? (i := 158) rfl)) (fa_9 (P := (fun q => Cond.constant (nO 16) q.1 q.2 ∈ lw_tbl : (Nat × Int32) → Prop)) (tm10 (List.mem_of_getElem? (i := 159) rfl)) (fa_9 (P := (fun q => Cond.constant (nO 16) q.1 q.2 ∈ lw_tbl : (Nat × Int32) → Prop)) (tm12 (List.mem_of_getElem? (i := 83) rfl)) (fa_9 (P := (fun q => Cond.constant (nO 16) q.1 q.2 ∈ lw_tbl : (Nat × Int32) → Prop)) (tm13 (List.mem_of_getElem? (i := 161) rfl)) (fa_9 (P := (fun q => Cond.constant (nO 16) q.1 q.2 ∈ lw_tbl : (Nat × Int32) → Prop)) (tm14 (List.mem_of_getElem? (i := 14) rfl)) (fa_9 (P := (fun q => Cond.constant (nO 16) q.1 q.2 ∈ lw_tbl : (Nat × Int32) → Prop)) (tm14 (List.mem_of_getElem? (i := 67) rfl)) (fa_9 (P := (fun q => Cond.constant (nO 16) q.1 q.2 ∈ lw_tbl : (Nat × Int32) → Prop)) (tm14 (List.mem_of_getElem? (i := 62) rfl)) (fa_9 (P := (fun q => Cond.constant (nO 16) q.1 q.2 ∈ lw_tbl : (Nat × Int32) → Prop)) (tm14 (List.mem_of_getElem? (i := 20) rfl)) (fa_9 (P := (fun q => Cond.constant (nO 16) q.1 q.2 ∈ lw_tbl : (Nat × Int32) → Prop)) (tm14 (List.mem_of_getElem? (i := 21) rfl)) (fa_9 (P := (fun q => Cond.constant (nO 16) q.1 q.2 ∈ lw_tbl : (Nat × Int32) → Prop)) (tm14 (List.mem_of_getElem? (i := 128) rfl)) (fa_9 (P := (fun q => Cond.constant (nO 16) q.1 q.2 ∈ lw_tbl : (Nat × Int32) → Prop)) (tm14 (List.mem_of_getElem? (i := 129) rfl)) f0_9)))))))))))))))))
set_option maxRecDepth 100000 in
set_option maxHeartbeats 4000000 in
theorem it9 : ∀ o ∈ osA, ∀ q ∈ tCN o, Cond.constant (nO o) q.1 q.2 ∈ lw_tbl := by
  intro o ho
  simp only [osA, List.mem_cons, List.mem_nil_iff, or_false] at ho
  rcases ho with rfl | rfl | rfl | rfl | rfl | rfl | rfl | rfl | rfl | rfl | rfl | rfl | rfl | rfl | rfl | rfl | rfl | rfl | rfl
  · exact fun q hq => nomatch hq
  · exact it9_X1
  · exact fun q hq => nomatch hq
  · exact it9_X3
  · exact it9_X4
  · exact it9_X5
  · exact fun q hq => nomatch hq
  · exact fun q hq => nomatch hq
  · exact fun q hq => nomatch hq
  · exact fun q hq => nomatch hq
  · exact fun q hq => nomatch hq
  · exact fun q hq => nomatch hq
  · exact it9_X12
  · exact it9_X13
  · exact fun q hq => nomatch hq
  · exact fun q hq => nomatch hq
  · exact fun q hq => nomatch hq
  · exact fun q hq => nomatch hq
  · exact fun q hq => nomatch hq
set_option maxRecDepth 100000 in
set_option maxHeartbeats 4000000 in
theorem it10_X1 : ∀ q ∈ CLX1, (fun q => Cond.constantLong (nO 4) q.1 q.2 ∈ lw_tbl : (Nat × Int64) → Prop) q := (fa_9 (P := (fun q => Cond.constantLong (nO 4) q.1 q.2 ∈ lw_tbl : (Nat × Int64) → Prop)) (tm9 (List.mem_of_getElem? (i := 7) rfl)) (fa_9 (P := (fun q => Cond.constantLong (nO 4) q.1 q.2 ∈ lw_tbl : (Nat × Int64) → Prop)) (tm9 (List.mem_of_getElem? (i := 34) rfl)) f0_9))
set_option maxRecDepth 100000 in
set_option maxHeartbeats 4000000 in
theorem it10_X5 : ∀ q ∈ CLX5, (fun q => Cond.constantLong (nO 8) q.1 q.2 ∈ lw_tbl : (Nat × Int64) → Prop) q := (fa_9 (P := (fun q => Cond.constantLong (nO 8) q.1 q.2 ∈ lw_tbl : (Nat × Int64) → Prop)) (tm3 (List.mem_of_getElem? (i := 97) rfl)) f0_9)
set_option maxRecDepth 100000 in
set_option maxHeartbeats 4000000 in
theorem it10_X11 : ∀ q ∈ CLX11, (fun q => Cond.constantLong (nO 14) q.1 q.2 ∈ lw_tbl : (Nat × Int64) → Prop) q := (fa_9 (P := (fun q => Cond.constantLong (nO 14) q.1 q.2 ∈ lw_tbl : (Nat × Int64) → Prop)) (tm8 (List.mem_of_getElem? (i := 18) rfl)) f0_9)
set_option maxRecDepth 100000 in
set_option maxHeartbeats 4000000 in
theorem it10_X12 : ∀ q ∈ CLX12, (fun q => Cond.constantLong (nO 15) q.1 q.2 ∈ lw_tbl : (Nat × Int64) → Prop) q := (fa_9 (P := (fun q => Cond.constantLong (nO 15) q.1 q.2 ∈ lw_tbl : (Nat × Int64) → Prop)) (tm10 (List.mem_of_getElem? (i := 33) rfl)) (fa_9 (P := (fun q => Cond.constantLong (nO 15) q.1 q.2 ∈ lw_tbl : (Nat × Int64) → Prop)) (tm10 (List.mem_of_getElem? (i := 34) rfl)) f0_9))
set_option maxRecDepth 100000 in
set_option maxHeartbeats 4000000 in
theorem it10_X13 : ∀ q ∈ CLX13, (fun q => Cond.constantLong (nO 16) q.1 q.2 ∈ lw_tbl : (Nat × Int64) → Prop) q := (fa_9 (P := (fun q => Cond.constantLong (nO 16) q.1 q.2 ∈ lw_tbl : (Nat × Int64) → Prop)) (tm14 (List.mem_of_getElem? (i := 15) rfl)) (fa_9 (P := (fun q => Cond.constantLong (nO 16) q.1 q.2 ∈ lw_tbl : (Nat × Int64) → Prop)) (tm14 (List.mem_of_getElem? (i := 213) rfl)) (fa_9 (P := (fun q => Cond.constantLong (nO 16) q.1 q.2 ∈ lw_tbl : (Nat × Int64) → Prop)) (tm14 (List.mem_of_getElem? (i := 214) rfl)) f0_9)))
set_option maxRecDepth 100000 in
set_option maxHeartbeats 4000000 in
theorem it10_L : ∀ q ∈ CLL, (fun q => Cond.constantLong (nO 100) q.1 q.2 ∈ lw_tbl : (Nat × Int64) → Prop) q := (fa_9 (P := (fun q => Cond.constantLong (nO 100) q.1 q.2 ∈ lw_tbl : (Nat × Int64) → Prop)) (tm15 (List.mem_of_getElem? (i := 55) rfl)) f0_9)
set_option maxRecDepth 100000 in
set_option maxHeartbeats 4000000 in
theorem it10 : ∀ o ∈ osA, ∀ q ∈ tCL o, Cond.constantLong (nO o) q.1 q.2 ∈ lw_tbl := by
  intro o ho
  simp only [osA, List.mem_cons, List.mem_nil_iff, or_false] at ho
  rcases ho with rfl | rfl | rfl | rfl | rfl | rfl | rfl | rfl | rfl | rfl | rfl | rfl | rfl | rfl | rfl | rfl | rfl | rfl | rfl
  · exact fun q hq => nomatch hq
  · exact it10_X1
  · exact fun q hq => nomatch hq
  · exact fun q hq => nomatch hq
  · exact fun q hq => nomatch hq
  · exact it10_X5
  · exact fun q hq => nomatch hq
  · exact fun q hq => nomatch hq
  · exact fun q hq => nomatch hq
  · exact fun q hq => nomatch hq
  · exact fun q hq => nomatch hq
  · exact it10_X11
  · exact it10_X12
  · exact it10_X13
  · exact fun q hq => nomatch hq
  · exact fun q hq => nomatch hq
  · exact fun q hq => nomatch hq
  · exact fun q hq => nomatch hq
  · exact it10_L
set_option maxRecDepth 100000 in
set_option maxHeartbeats 4000000 in
theorem it13_X0 : ∀ q ∈ NWX0, (fun q => Cond.classLink (nO 3) q.1 (nO q.2) ∈ lw_tbl : (Nat × Nat) → Prop) q := (fa_9 (P := (fun q => Cond.classLink (nO 3) q.1 (nO q.2) ∈ lw_tbl : (Nat × Nat) → Prop)) (tm2 (List.mem_of_getElem? (i := 71) rfl)) (fa_9 (P := (fun q => Cond.classLink (nO 3) q.1 (nO q.2) ∈ lw_tbl : (Nat × Nat) → Prop)) (tm2 (List.mem_of_getElem? (i := 146) rfl)) f0_9))
set_option maxRecDepth 100000 in
set_option maxHeartbeats 4000000 in
theorem it13_X1 : ∀ q ∈ NWX1, (fun q => Cond.classLink (nO 4) q.1 (nO q.2) ∈ lw_tbl : (Nat × Nat) → Prop) q := (fa_9 (P := (fun q => Cond.classLink (nO 4) q.1 (nO q.2) ∈ lw_tbl : (Nat × Nat) → Prop)) (tm3 (List.mem_of_getElem? (i := 33) rfl)) f0_9)
set_option maxRecDepth 100000 in
set_option maxHeartbeats 4000000 in
theorem it13_X6 : ∀ q ∈ NWX6, (fun q => Cond.classLink (nO 9) q.1 (nO q.2) ∈ lw_tbl : (Nat × Nat) → Prop) q := (fa_9 (P := (fun q => Cond.classLink (nO 9) q.1 (nO q.2) ∈ lw_tbl : (Nat × Nat) → Prop)) (tm3 (List.mem_of_getElem? (i := 184) rfl)) (fa_9 (P := (fun q => Cond.classLink (nO 9) q.1 (nO q.2) ∈ lw_tbl : (Nat × Nat) → Prop)) (tm3 (List.mem_of_getElem? (i := 186) rfl)) f0_9))
set_option maxRecDepth 100000 in
set_option maxHeartbeats 4000000 in
theorem it13_X8 : ∀ q ∈ NWX8, (fun q => Cond.classLink (nO 11) q.1 (nO q.2) ∈ lw_tbl : (Nat × Nat) → Prop) q := (fa_9 (P := (fun q => Cond.classLink (nO 11) q.1 (nO q.2) ∈ lw_tbl : (Nat × Nat) → Prop)) (tm3 (List.mem_of_getElem? (i := 91) rfl)) f0_9)
set_option maxRecDepth 100000 in
set_option maxHeartbeats 4000000 in
theorem it13_X9 : ∀ q ∈ NWX9, (fun q => Cond.classLink (nO 12) q.1 (nO q.2) ∈ lw_tbl : (Nat × Nat) → Prop) q := (fa_9 (P := (fun q => Cond.classLink (nO 12) q.1 (nO q.2) ∈ lw_tbl : (Nat × Nat) → Prop)) (tm3 (List.mem_of_getElem? (i := 82) rfl)) (fa_9 (P := (fun q => Cond.classLink (nO 12) q.1 (nO q.2) ∈ lw_tbl : (Nat × Nat) → Prop)) (tm3 (List.mem_of_getElem? (i := 84) rfl)) f0_9))
set_option maxRecDepth 100000 in
set_option maxHeartbeats 4000000 in
theorem it13_X12 : ∀ q ∈ NWX12, (fun q => Cond.classLink (nO 15) q.1 (nO q.2) ∈ lw_tbl : (Nat × Nat) → Prop) q := (fa_9 (P := (fun q => Cond.classLink (nO 15) q.1 (nO q.2) ∈ lw_tbl : (Nat × Nat) → Prop)) (tm1 (List.mem_of_getElem? (i := 43) rfl)) (fa_9 (P := (fun q => Cond.classLink (nO 15) q.1 (nO q.2) ∈ lw_tbl : (Nat × Nat) → Prop)) (tm1 (List.mem_of_getElem? (i := 75) rfl)) (fa_9 (P := (fun q => Cond.classLink (nO 15) q.1 (nO q.2) ∈ lw_tbl : (Nat × Nat) → Prop)) (tm1 (List.mem_of_getElem? (i := 152) rfl)) (fa_9 (P := (fun q => Cond.classLink (nO 15) q.1 (nO q.2) ∈ lw_tbl : (Nat × Nat) → Prop)) (tm1 (List.mem_of_getElem? (i := 219) rfl)) (fa_9 (P := (fun q => Cond.classLink (nO 15) q.1 (nO q.2) ∈ lw_tbl : (Nat × Nat) → Prop)) (tm2 (List.mem_of_getElem? (i := 65) rfl)) (fa_9 (P := (fun q => Cond.classLink (nO 15) q.1 (nO q.2) ∈ lw_tbl : (Nat × Nat) → Prop)) (tm3 (List.mem_of_getElem? (i := 27) rfl)) (fa_9 (P := (fun q => Cond.classLink (nO 15) q.1 (nO q.2) ∈ lw_tbl : (Nat × Nat) → Prop)) (tm3 (List.mem_of_getElem? (i := 76) rfl)) (fa_9 (P := (fun q => Cond.classLink (nO 15) q.1 (nO q.2) ∈ lw_tbl : (Nat × Nat) → Prop)) (tm3 (List.mem_of_getElem? (i := 178) rfl)) (fa_9 (P := (fun q => Cond.classLink (nO 15) q.1 (nO q.2) ∈ lw_tbl : (Nat × Nat) → Prop)) (tm3 (List.mem_of_getElem? (i := 231) rfl)) f0_9)))))))))
set_option maxRecDepth 100000 in
set_option maxHeartbeats 4000000 in
theorem it13_L : ∀ q ∈ NWL, (fun q => Cond.classLink (nO 100) q.1 (nO q.2) ∈ lw_tbl : (Nat × Nat) → Prop) q := (fa_9 (P := (fun q => Cond.classLink (nO 100) q.1 (nO q.2) ∈ lw_tbl : (Nat × Nat) → Prop)) (tm1 (List.mem_of_getElem? (i := 35) rfl)) (fa_9 (P := (fun q => Cond.classLink (nO 100) q.1 (nO q.2) ∈ lw_tbl : (Nat × Nat) → Prop)) (tm10 (List.mem_of_getElem? (i := 146) rfl)) f0_9))
set_option maxRecDepth 100000 in
set_option maxHeartbeats 4000000 in
theorem it13 : ∀ o ∈ osA, ∀ q ∈ tNW o, Cond.classLink (nO o) q.1 (nO q.2) ∈ lw_tbl := by
  intro o ho
  simp only [osA, List.mem_cons, List.mem_nil_iff, or_false] at ho
  rcases ho with rfl | rfl | rfl | rfl | rfl | rfl | rfl | rfl | rfl | rfl | rfl | rfl | rfl | rfl | rfl | rfl | rfl | rfl | rfl
  · exact it13_X0
  · exact it13_X1
  · exact fun q hq => nomatch hq
  · exact fun q hq => nomatch hq
  · exact fun q hq => nomatch hq
  · exact fun q hq => nomatch hq
  · exact it13_X6
  · exact fun q hq => nomatch hq
  · exact it13_X8
  · exact it13_X9
  · exact fun q hq => nomatch hq
  · exact fun q hq => nomatch hq
  · exact it13_X12
  · exact fun q hq => nomatch hq
  · exact fun q hq => nomatch hq
  · exact fun q hq => nomatch hq
  · exact fun q hq => nomatch hq
  · exact fun q hq => nomatch hq
  · exact it13_L
set_option maxRecDepth 100000 in
set_option maxHeartbeats 4000000 in
theorem it14_X0 : ∀ q ∈ NWX0, (fun q => Cond.instantiable (nO q.2) (nN q.2) ∈ lw_tbl : (Nat × Nat) → Prop) q := (fa_9 (P := (fun q => Cond.instantiable (nO q.2) (nN q.2) ∈ lw_tbl : (Nat × Nat) → Prop)) (tm2 (List.mem_of_getElem? (i := 72) rfl)) (fa_9 (P := (fun q => Cond.instantiable (nO q.2) (nN q.2) ∈ lw_tbl : (Nat × Nat) → Prop)) (tm2 (List.mem_of_getElem? (i := 147) rfl)) f0_9))
set_option maxRecDepth 100000 in
set_option maxHeartbeats 4000000 in
theorem it14_X1 : ∀ q ∈ NWX1, (fun q => Cond.instantiable (nO q.2) (nN q.2) ∈ lw_tbl : (Nat × Nat) → Prop) q := (fa_9 (P := (fun q => Cond.instantiable (nO q.2) (nN q.2) ∈ lw_tbl : (Nat × Nat) → Prop)) (tm3 (List.mem_of_getElem? (i := 34) rfl)) f0_9)
set_option maxRecDepth 100000 in
set_option maxHeartbeats 4000000 in
theorem it14_X6 : ∀ q ∈ NWX6, (fun q => Cond.instantiable (nO q.2) (nN q.2) ∈ lw_tbl : (Nat × Nat) → Prop) q := (fa_9 (P := (fun q => Cond.instantiable (nO q.2) (nN q.2) ∈ lw_tbl : (Nat × Nat) → Prop)) (tm3 (List.mem_of_getElem? (i := 34) rfl)) (fa_9 (P := (fun q => Cond.instantiable (nO q.2) (nN q.2) ∈ lw_tbl : (Nat × Nat) → Prop)) (tm2 (List.mem_of_getElem? (i := 147) rfl)) f0_9))
set_option maxRecDepth 100000 in
set_option maxHeartbeats 4000000 in
theorem it14_X8 : ∀ q ∈ NWX8, (fun q => Cond.instantiable (nO q.2) (nN q.2) ∈ lw_tbl : (Nat × Nat) → Prop) q := (fa_9 (P := (fun q => Cond.instantiable (nO q.2) (nN q.2) ∈ lw_tbl : (Nat × Nat) → Prop)) (tm3 (List.mem_of_getElem? (i := 34) rfl)) f0_9)
set_option maxRecDepth 100000 in
set_option maxHeartbeats 4000000 in
theorem it14_X9 : ∀ q ∈ NWX9, (fun q => Cond.instantiable (nO q.2) (nN q.2) ∈ lw_tbl : (Nat × Nat) → Prop) q := (fa_9 (P := (fun q => Cond.instantiable (nO q.2) (nN q.2) ∈ lw_tbl : (Nat × Nat) → Prop)) (tm3 (List.mem_of_getElem? (i := 86) rfl)) (fa_9 (P := (fun q => Cond.instantiable (nO q.2) (nN q.2) ∈ lw_tbl : (Nat × Nat) → Prop)) (tm3 (List.mem_of_getElem? (i := 34) rfl)) f0_9))
set_option maxRecDepth 100000 in
set_option maxHeartbeats 4000000 in
theorem it14_X12 : ∀ q ∈ NWX12, (fun q => Cond.instantiable (nO q.2) (nN q.2) ∈ lw_tbl : (Nat × Nat) → Prop) q := (fa_9 (P := (fun q => Cond.instantiable (nO q.2) (nN q.2) ∈ lw_tbl : (Nat × Nat) → Prop)) (tm1 (List.mem_of_getElem? (i := 44) rfl)) (fa_9 (P := (fun q => Cond.instantiable (nO q.2) (nN q.2) ∈ lw_tbl : (Nat × Nat) → Prop)) (tm1 (List.mem_of_getElem? (i := 76) rfl)) (fa_9 (P := (fun q => Cond.instantiable (nO q.2) (nN q.2) ∈ lw_tbl : (Nat × Nat) → Prop)) (tm1 (List.mem_of_getElem? (i := 153) rfl)) (fa_9 (P := (fun q => Cond.instantiable (nO q.2) (nN q.2) ∈ lw_tbl : (Nat × Nat) → Prop)) (tm1 (List.mem_of_getElem? (i := 220) rfl)) (fa_9 (P := (fun q => Cond.instantiable (nO q.2) (nN q.2) ∈ lw_tbl : (Nat × Nat) → Prop)) (tm2 (List.mem_of_getElem? (i := 66) rfl)) (fa_9 (P := (fun q => Cond.instantiable (nO q.2) (nN q.2) ∈ lw_tbl : (Nat × Nat) → Prop)) (tm3 (List.mem_of_getElem? (i := 28) rfl)) (fa_9 (P := (fun q => Cond.instantiable (nO q.2) (nN q.2) ∈ lw_tbl : (Nat × Nat) → Prop)) (tm3 (List.mem_of_getElem? (i := 77) rfl)) (fa_9 (P := (fun q => Cond.instantiable (nO q.2) (nN q.2) ∈ lw_tbl : (Nat × Nat) → Prop)) (tm3 (List.mem_of_getElem? (i := 179) rfl)) (fa_9 (P := (fun q => Cond.instantiable (nO q.2) (nN q.2) ∈ lw_tbl : (Nat × Nat) → Prop)) (tm3 (List.mem_of_getElem? (i := 86) rfl)) f0_9)))))))))
set_option maxRecDepth 100000 in
set_option maxHeartbeats 4000000 in
theorem it14_L : ∀ q ∈ NWL, (fun q => Cond.instantiable (nO q.2) (nN q.2) ∈ lw_tbl : (Nat × Nat) → Prop) q := (fa_9 (P := (fun q => Cond.instantiable (nO q.2) (nN q.2) ∈ lw_tbl : (Nat × Nat) → Prop)) (tm1 (List.mem_of_getElem? (i := 36) rfl)) (fa_9 (P := (fun q => Cond.instantiable (nO q.2) (nN q.2) ∈ lw_tbl : (Nat × Nat) → Prop)) (tm10 (List.mem_of_getElem? (i := 147) rfl)) f0_9))
set_option maxRecDepth 100000 in
set_option maxHeartbeats 4000000 in
theorem it14 : ∀ o ∈ osA, ∀ q ∈ tNW o, Cond.instantiable (nO q.2) (nN q.2) ∈ lw_tbl := by
  intro o ho
  simp only [osA, List.mem_cons, List.mem_nil_iff, or_false] at ho
  rcases ho with rfl | rfl | rfl | rfl | rfl | rfl | rfl | rfl | rfl | rfl | rfl | rfl | rfl | rfl | rfl | rfl | rfl | rfl | rfl
  · exact it14_X0
  · exact it14_X1
  · exact fun q hq => nomatch hq
  · exact fun q hq => nomatch hq
  · exact fun q hq => nomatch hq
  · exact fun q hq => nomatch hq
  · exact it14_X6
  · exact fun q hq => nomatch hq
  · exact it14_X8
  · exact it14_X9
  · exact fun q hq => nomatch hq
  · exact fun q hq => nomatch hq
  · exact it14_X12
  · exact fun q hq => nomatch hq
  · exact fun q hq => nomatch hq
  · exact fun q hq => nomatch hq
  · exact fun q hq => nomatch hq
  · exact fun q hq => nomatch hq
  · exact it14_L
set_option maxRecDepth 100000 in
set_option maxHeartbeats 4000000 in
theorem it15_X6 : ∀ q ∈ ANX6, (fun q => Cond.classLink (nO 9) q.1 (if q.2 = 4 then "ChanceWorks$Num" else "ChanceWorks$Ratio") ∈ lw_tbl : (Nat × Nat) → Prop) q := (fa_9 (P := (fun q => Cond.classLink (nO 9) q.1 (if q.2 = 4 then "ChanceWorks$Num" else "ChanceWorks$Ratio") ∈ lw_tbl : (Nat × Nat) → Prop)) (tm3 (List.mem_of_getElem? (i := 184) rfl)) f0_9)
set_option maxRecDepth 100000 in
set_option maxHeartbeats 4000000 in
theorem it15_X9 : ∀ q ∈ ANX9, (fun q => Cond.classLink (nO 12) q.1 (if q.2 = 4 then "ChanceWorks$Num" else "ChanceWorks$Ratio") ∈ lw_tbl : (Nat × Nat) → Prop) q := (fa_9 (P := (fun q => Cond.classLink (nO 12) q.1 (if q.2 = 4 then "ChanceWorks$Num" else "ChanceWorks$Ratio") ∈ lw_tbl : (Nat × Nat) → Prop)) (tm3 (List.mem_of_getElem? (i := 82) rfl)) (fa_9 (P := (fun q => Cond.classLink (nO 12) q.1 (if q.2 = 4 then "ChanceWorks$Num" else "ChanceWorks$Ratio") ∈ lw_tbl : (Nat × Nat) → Prop)) (tm3 (List.mem_of_getElem? (i := 84) rfl)) f0_9))
set_option maxRecDepth 100000 in
set_option maxHeartbeats 4000000 in
theorem it15 : ∀ o ∈ osA, ∀ q ∈ tAN o, Cond.classLink (nO o) q.1 (if q.2 = 4 then "ChanceWorks$Num" else "ChanceWorks$Ratio") ∈ lw_tbl := by
  intro o ho
  simp only [osA, List.mem_cons, List.mem_nil_iff, or_false] at ho
  rcases ho with rfl | rfl | rfl | rfl | rfl | rfl | rfl | rfl | rfl | rfl | rfl | rfl | rfl | rfl | rfl | rfl | rfl | rfl | rfl
  · exact fun q hq => nomatch hq
  · exact fun q hq => nomatch hq
  · exact fun q hq => nomatch hq
  · exact fun q hq => nomatch hq
  · exact fun q hq => nomatch hq
  · exact fun q hq => nomatch hq
  · exact it15_X6
  · exact fun q hq => nomatch hq
  · exact fun q hq => nomatch hq
  · exact it15_X9
  · exact fun q hq => nomatch hq
  · exact fun q hq => nomatch hq
  · exact fun q hq => nomatch hq
  · exact fun q hq => nomatch hq
  · exact fun q hq => nomatch hq
  · exact fun q hq => nomatch hq
  · exact fun q hq => nomatch hq
  · exact fun q hq => nomatch hq
  · exact fun q hq => nomatch hq
set_option maxRecDepth 100000 in
set_option maxHeartbeats 4000000 in
theorem it16_X0 : ∀ q ∈ BIX0, (fun q => ∀ w ∈ dBW (nO 3) q.1 q.2, w ∈ lw_tbl : Nat × Nat → Prop) q := (fa_9 (P := (fun q => ∀ w ∈ dBW (nO 3) q.1 q.2, w ∈ lw_tbl : Nat × Nat → Prop)) (fa_9 (P := (fun w : Cond => w ∈ lw_tbl)) (tm2 (List.mem_of_getElem? (i := 70) rfl)) (fa_9 (P := (fun w : Cond => w ∈ lw_tbl)) (tm1 (List.mem_of_getElem? (i := 41) rfl)) (fa_9 (P := (fun w : Cond => w ∈ lw_tbl)) (tm1 (List.mem_of_getElem? (i := 42) rfl)) f0_9))) (fa_9 (P := (fun q => ∀ w ∈ dBW (nO 3) q.1 q.2, w ∈ lw_tbl : Nat × Nat → Prop)) (fa_9 (P := (fun w : Cond => w ∈ lw_tbl)) (tm7 (List.mem_of_getElem? (i := 214) rfl)) (fa_9 (P := (fun w : Cond => w ∈ lw_tbl)) (tm4 (List.mem_of_getElem? (i := 158) rfl)) (fa_9 (P := (fun w : Cond => w ∈ lw_tbl)) (tm1 (List.mem_of_getElem? (i := 11) rfl)) (fa_9 (P := (fun w : Cond => w ∈ lw_tbl)) (tm4 (List.mem_of_getElem? (i := 159) rfl)) f0_9)))) (fa_9 (P := (fun q => ∀ w ∈ dBW (nO 3) q.1 q.2, w ∈ lw_tbl : Nat × Nat → Prop)) (fa_9 (P := (fun w : Cond => w ∈ lw_tbl)) (tm8 (List.mem_of_getElem? (i := 32) rfl)) (fa_9 (P := (fun w : Cond => w ∈ lw_tbl)) (tm3 (List.mem_of_getElem? (i := 40) rfl)) (fa_9 (P := (fun w : Cond => w ∈ lw_tbl)) (tm1 (List.mem_of_getElem? (i := 11) rfl)) (fa_9 (P := (fun w : Cond => w ∈ lw_tbl)) (tm3 (List.mem_of_getElem? (i := 41) rfl)) f0_9)))) f0_9)))
set_option maxRecDepth 100000 in
set_option maxHeartbeats 4000000 in
theorem it16_X1 : ∀ q ∈ BIX1, (fun q => ∀ w ∈ dBW (nO 4) q.1 q.2, w ∈ lw_tbl : Nat × Nat → Prop) q := (fa_9 (P := (fun q => ∀ w ∈ dBW (nO 4) q.1 q.2, w ∈ lw_tbl : Nat × Nat → Prop)) (fa_9 (P := (fun w : Cond => w ∈ lw_tbl)) (tm3 (List.mem_of_getElem? (i := 32) rfl)) (fa_9 (P := (fun w : Cond => w ∈ lw_tbl)) (tm1 (List.mem_of_getElem? (i := 41) rfl)) (fa_9 (P := (fun w : Cond => w ∈ lw_tbl)) (tm1 (List.mem_of_getElem? (i := 42) rfl)) f0_9))) (fa_9 (P := (fun q => ∀ w ∈ dBW (nO 4) q.1 q.2, w ∈ lw_tbl : Nat × Nat → Prop)) (fa_9 (P := (fun w : Cond => w ∈ lw_tbl)) (tm9 (List.mem_of_getElem? (i := 6) rfl)) (fa_9 (P := (fun w : Cond => w ∈ lw_tbl)) (tm3 (List.mem_of_getElem? (i := 40) rfl)) (fa_9 (P := (fun w : Cond => w ∈ lw_tbl)) (tm1 (List.mem_of_getElem? (i := 11) rfl)) (fa_9 (P := (fun w : Cond => w ∈ lw_tbl)) (tm3 (List.mem_of_getElem? (i := 41) rfl)) f0_9)))) (fa_9 (P := (fun q => ∀ w ∈ dBW (nO 4) q.1 q.2, w ∈ lw_tbl : Nat × Nat → Prop)) (fa_9 (P := (fun w : Cond => w ∈ lw_tbl)) (tm9 (List.mem_of_getElem? (i := 8) rfl)) (fa_9 (P := (fun w : Cond => w ∈ lw_tbl)) (tm9 (List.mem_of_getElem? (i := 9) rfl)) (fa_9 (P := (fun w : Cond => w ∈ lw_tbl)) (tm1 (List.mem_of_getElem? (i := 11) rfl)) (fa_9 (P := (fun w : Cond => w ∈ lw_tbl)) (tm9 (List.mem_of_getElem? (i := 10) rfl)) f0_9)))) f0_9)))
set_option maxRecDepth 100000 in
set_option maxHeartbeats 4000000 in
theorem it16_X2 : ∀ q ∈ BIX2, (fun q => ∀ w ∈ dBW (nO 5) q.1 q.2, w ∈ lw_tbl : Nat × Nat → Prop) q := (fa_9 (P := (fun q => ∀ w ∈ dBW (nO 5) q.1 q.2, w ∈ lw_tbl : Nat × Nat → Prop)) (fa_9 (P := (fun w : Cond => w ∈ lw_tbl)) (tm1 (List.mem_of_getElem? (i := 80) rfl)) (fa_9 (P := (fun w : Cond => w ∈ lw_tbl)) (tm1 (List.mem_of_getElem? (i := 41) rfl)) (fa_9 (P := (fun w : Cond => w ∈ lw_tbl)) (tm1 (List.mem_of_getElem? (i := 42) rfl)) f0_9))) f0_9)
set_option maxRecDepth 100000 in
set_option maxHeartbeats 4000000 in
theorem it16_X3 : ∀ q ∈ BIX3, (fun q => ∀ w ∈ dBW (nO 6) q.1 q.2, w ∈ lw_tbl : Nat × Nat → Prop) q := (fa_9 (P := (fun q => ∀ w ∈ dBW (nO 6) q.1 q.2, w ∈ lw_tbl : Nat × Nat → Prop)) (fa_9 (P := (fun w : Cond => w ∈ lw_tbl)) (tm2 (List.mem_of_getElem? (i := 151) rfl)) (fa_9 (P := (fun w : Cond => w ∈ lw_tbl)) (tm1 (List.mem_of_getElem? (i := 41) rfl)) (fa_9 (P := (fun w : Cond => w ∈ lw_tbl)) (tm1 (List.mem_of_getElem? (i := 42) rfl)) f0_9))) (fa_9 (P := (fun q => ∀ w ∈ dBW (nO 6) q.1 q.2, w ∈ lw_tbl : Nat × Nat → Prop)) (fa_9 (P := (fun w : Cond => w ∈ lw_tbl)) (tm7 (List.mem_of_getElem? (i := 136) rfl)) (fa_9 (P := (fun w : Cond => w ∈ lw_tbl)) (tm4 (List.mem_of_getElem? (i := 158) rfl)) (fa_9 (P := (fun w : Cond => w ∈ lw_tbl)) (tm1 (List.mem_of_getElem? (i := 11) rfl)) (fa_9 (P := (fun w : Cond => w ∈ lw_tbl)) (tm4 (List.mem_of_getElem? (i := 159) rfl)) f0_9)))) (fa_9 (P := (fun q => ∀ w ∈ dBW (nO 6) q.1 q.2, w ∈ lw_tbl : Nat × Nat → Prop)) (fa_9 (P := (fun w : Cond => w ∈ lw_tbl)) (tm7 (List.mem_of_getElem? (i := 138) rfl)) (fa_9 (P := (fun w : Cond => w ∈ lw_tbl)) (tm4 (List.mem_of_getElem? (i := 215) rfl)) (fa_9 (P := (fun w : Cond => w ∈ lw_tbl)) (tm4 (List.mem_of_getElem? (i := 214) rfl)) (fa_9 (P := (fun w : Cond => w ∈ lw_tbl)) (tm1 (List.mem_of_getElem? (i := 21) rfl)) f0_9)))) f0_9)))
set_option maxRecDepth 100000 in
set_option maxHeartbeats 4000000 in
theorem it16_X4 : ∀ q ∈ BIX4, (fun q => ∀ w ∈ dBW (nO 7) q.1 q.2, w ∈ lw_tbl : Nat × Nat → Prop) q := (fa_9 (P := (fun q => ∀ w ∈ dBW (nO 7) q.1 q.2, w ∈ lw_tbl : Nat × Nat → Prop)) (fa_9 (P := (fun w : Cond => w ∈ lw_tbl)) (tm1 (List.mem_of_getElem? (i := 224) rfl)) (fa_9 (P := (fun w : Cond => w ∈ lw_tbl)) (tm1 (List.mem_of_getElem? (i := 41) rfl)) (fa_9 (P := (fun w : Cond => w ∈ lw_tbl)) (tm1 (List.mem_of_getElem? (i := 42) rfl)) f0_9))) (fa_9 (P := (fun q => ∀ w ∈ dBW (nO 7) q.1 q.2, w ∈ lw_tbl : Nat × Nat → Prop)) (fa_9 (P := (fun w : Cond => w ∈ lw_tbl)) (tm7 (List.mem_of_getElem? (i := 103) rfl)) (fa_9 (P := (fun w : Cond => w ∈ lw_tbl)) (tm4 (List.mem_of_getElem? (i := 158) rfl)) (fa_9 (P := (fun w : Cond => w ∈ lw_tbl)) (tm1 (List.mem_of_getElem? (i := 11) rfl)) (fa_9 (P := (fun w : Cond => w ∈ lw_tbl)) (tm4 (List.mem_of_getElem? (i := 159) rfl)) f0_9)))) (fa_9 (P := (fun q => ∀ w ∈ dBW (nO 7) q.1 q.2, w ∈ lw_tbl : Nat × Nat → Prop)) (fa_9 (P := (fun w : Cond => w ∈ lw_tbl)) (tm7 (List.mem_of_getElem? (i := 105) rfl)) (fa_9 (P := (fun w : Cond => w ∈ lw_tbl)) (tm4 (List.mem_of_getElem? (i := 215) rfl)) (fa_9 (P := (fun w : Cond => w ∈ lw_tbl)) (tm4 (List.mem_of_getElem? (i := 214) rfl)) (fa_9 (P := (fun w : Cond => w ∈ lw_tbl)) (tm1 (List.mem_of_getElem? (i := 21) rfl)) f0_9)))) (fa_9 (P := (fun q => ∀ w ∈ dBW (nO 7) q.1 q.2, w ∈ lw_tbl : Nat × Nat → Prop)) (fa_9 (P := (fun w : Cond => w ∈ lw_tbl)) (tm7 (List.mem_of_getElem? (i := 160) rfl)) (fa_9 (P := (fun w : Cond => w ∈ lw_tbl)) (tm3 (List.mem_of_getElem? (i := 40) rfl)) (fa_9 (P := (fun w : Cond => w ∈ lw_tbl)) (tm1 (List.mem_of_getElem? (i := 11) rfl)) (fa_9 (P := (fun w : Cond => w ∈ lw_tbl)) (tm3 (List.mem_of_getElem? (i := 41) rfl)) f0_9)))) f0_9))))
set_option maxRecDepth 100000 in
set_option maxHeartbeats 4000000 in
theorem it16_X5 : ∀ q ∈ BIX5, (fun q => ∀ w ∈ dBW (nO 8) q.1 q.2, w ∈ lw_tbl : Nat × Nat → Prop) q := (fa_9 (P := (fun q => ∀ w ∈ dBW (nO 8) q.1 q.2, w ∈ lw_tbl : Nat × Nat → Prop)) (fa_9 (P := (fun w : Cond => w ∈ lw_tbl)) (tm3 (List.mem_of_getElem? (i := 38) rfl)) (fa_9 (P := (fun w : Cond => w ∈ lw_tbl)) (tm1 (List.mem_of_getElem? (i := 41) rfl)) (fa_9 (P := (fun w : Cond => w ∈ lw_tbl)) (tm1 (List.mem_of_getElem? (i := 42) rfl)) f0_9))) (fa_9 (P := (fun q => ∀ w ∈ dBW (nO 8) q.1 q.2, w ∈ lw_tbl : Nat × Nat → Prop)) (fa_9 (P := (fun w : Cond => w ∈ lw_tbl)) (tm3 (List.mem_of_getElem? (i := 39) rfl)) (fa_9 (P := (fun w : Cond => w ∈ lw_tbl)) (tm3 (List.mem_of_getElem? (i := 40) rfl)) (fa_9 (P := (fun w : Cond => w ∈ lw_tbl)) (tm1 (List.mem_of_getElem? (i := 11) rfl)) (fa_9 (P := (fun w : Cond => w ∈ lw_tbl)) (tm3 (List.mem_of_getElem? (i := 41) rfl)) f0_9)))) (fa_9 (P := (fun q => ∀ w ∈ dBW (nO 8) q.1 q.2, w ∈ lw_tbl : Nat × Nat → Prop)) (fa_9 (P := (fun w : Cond => w ∈ lw_tbl)) (tm8 (List.mem_of_getElem? (i := 185) rfl)) (fa_9 (P := (fun w : Cond => w ∈ lw_tbl)) (tm4 (List.mem_of_getElem? (i := 215) rfl)) (fa_9 (P := (fun w : Cond => w ∈ lw_tbl)) (tm4 (List.mem_of_getElem? (i := 214) rfl)) (fa_9 (P := (fun w : Cond => w ∈ lw_tbl)) (tm1 (List.mem_of_getElem? (i := 21) rfl)) f0_9)))) (fa_9 (P := (fun q => ∀ w ∈ dBW (nO 8) q.1 q.2, w ∈ lw_tbl : Nat × Nat → Prop)) (fa_9 (P := (fun w : Cond => w ∈ lw_tbl)) (tm9 (List.mem_of_getElem? (i := 19) rfl)) (fa_9 (P := (fun w : Cond => w ∈ lw_tbl)) (tm4 (List.mem_of_getElem? (i := 158) rfl)) (fa_9 (P := (fun w : Cond => w ∈ lw_tbl)) (tm1 (List.mem_of_getElem? (i := 11) rfl)) (fa_9 (P := (fun w : Cond => w ∈ lw_tbl)) (tm4 (List.mem_of_getElem? (i := 159) rfl)) f0_9)))) f0_9))))
set_option maxRecDepth 100000 in
set_option maxHeartbeats 4000000 in
theorem it16_X6 : ∀ q ∈ BIX6, (fun q => ∀ w ∈ dBW (nO 9) q.1 q.2, w ∈ lw_tbl : Nat × Nat → Prop) q := (fa_9 (P := (fun q => ∀ w ∈ dBW (nO 9) q.1 q.2, w ∈ lw_tbl : Nat × Nat → Prop)) (fa_9 (P := (fun w : Cond => w ∈ lw_tbl)) (tm3 (List.mem_of_getElem? (i := 183) rfl)) (fa_9 (P := (fun w : Cond => w ∈ lw_tbl)) (tm1 (List.mem_of_getElem? (i := 41) rfl)) (fa_9 (P := (fun w : Cond => w ∈ lw_tbl)) (tm1 (List.mem_of_getElem? (i := 42) rfl)) f0_9))) (fa_9 (P := (fun q => ∀ w ∈ dBW (nO 9) q.1 q.2, w ∈ lw_tbl : Nat × Nat → Prop)) (fa_9 (P := (fun w : Cond => w ∈ lw_tbl)) (tm10 (List.mem_of_getElem? (i := 84) rfl)) (fa_9 (P := (fun w : Cond => w ∈ lw_tbl)) (tm4 (List.mem_of_getElem? (i := 158) rfl)) (fa_9 (P := (fun w : Cond => w ∈ lw_tbl)) (tm1 (List.mem_of_getElem? (i := 11) rfl)) (fa_9 (P := (fun w : Cond => w ∈ lw_tbl)) (tm4 (List.mem_of_getElem? (i := 159) rfl)) f0_9)))) (fa_9 (P := (fun q => ∀ w ∈ dBW (nO 9) q.1 q.2, w ∈ lw_tbl : Nat × Nat → Prop)) (fa_9 (P := (fun w : Cond => w ∈ lw_tbl)) (tm10 (List.mem_of_getElem? (i := 104) rfl)) (fa_9 (P := (fun w : Cond => w ∈ lw_tbl)) (tm3 (List.mem_of_getElem? (i := 40) rfl)) (fa_9 (P := (fun w : Cond => w ∈ lw_tbl)) (tm1 (List.mem_of_getElem? (i := 11) rfl)) (fa_9 (P := (fun w : Cond => w ∈ lw_tbl)) (tm3 (List.mem_of_getElem? (i := 41) rfl)) f0_9)))) f0_9)))
set_option maxRecDepth 100000 in
set_option maxHeartbeats 4000000 in
theorem it16_X7 : ∀ q ∈ BIX7, (fun q => ∀ w ∈ dBW (nO 10) q.1 q.2, w ∈ lw_tbl : Nat × Nat → Prop) q := (fa_9 (P := (fun q => ∀ w ∈ dBW (nO 10) q.1 q.2, w ∈ lw_tbl : Nat × Nat → Prop)) (fa_9 (P := (fun w : Cond => w ∈ lw_tbl)) (tm1 (List.mem_of_getElem? (i := 157) rfl)) (fa_9 (P := (fun w : Cond => w ∈ lw_tbl)) (tm1 (List.mem_of_getElem? (i := 41) rfl)) (fa_9 (P := (fun w : Cond => w ∈ lw_tbl)) (tm1 (List.mem_of_getElem? (i := 42) rfl)) f0_9))) f0_9)
set_option maxRecDepth 100000 in
set_option maxHeartbeats 4000000 in
theorem it16_X8 : ∀ q ∈ BIX8, (fun q => ∀ w ∈ dBW (nO 11) q.1 q.2, w ∈ lw_tbl : Nat × Nat → Prop) q := (fa_9 (P := (fun q => ∀ w ∈ dBW (nO 11) q.1 q.2, w ∈ lw_tbl : Nat × Nat → Prop)) (fa_9 (P := (fun w : Cond => w ∈ lw_tbl)) (tm3 (List.mem_of_getElem? (i := 90) rfl)) (fa_9 (P := (fun w : Cond => w ∈ lw_tbl)) (tm1 (List.mem_of_getElem? (i := 41) rfl)) (fa_9 (P := (fun w : Cond => w ∈ lw_tbl)) (tm1 (List.mem_of_getElem? (i := 42) rfl)) f0_9))) (fa_9 (P := (fun q => ∀ w ∈ dBW (nO 11) q.1 q.2, w ∈ lw_tbl : Nat × Nat → Prop)) (fa_9 (P := (fun w : Cond => w ∈ lw_tbl)) (tm8 (List.mem_of_getElem? (i := 190) rfl)) (fa_9 (P := (fun w : Cond => w ∈ lw_tbl)) (tm8 (List.mem_of_getElem? (i := 191) rfl)) (fa_9 (P := (fun w : Cond => w ∈ lw_tbl)) (tm1 (List.mem_of_getElem? (i := 11) rfl)) (fa_9 (P := (fun w : Cond => w ∈ lw_tbl)) (tm8 (List.mem_of_getElem? (i := 192) rfl)) f0_9)))) f0_9))
set_option maxRecDepth 100000 in
set_option maxHeartbeats 4000000 in
theorem it16_X9 : ∀ q ∈ BIX9, (fun q => ∀ w ∈ dBW (nO 12) q.1 q.2, w ∈ lw_tbl : Nat × Nat → Prop) q := (fa_9 (P := (fun q => ∀ w ∈ dBW (nO 12) q.1 q.2, w ∈ lw_tbl : Nat × Nat → Prop)) (fa_9 (P := (fun w : Cond => w ∈ lw_tbl)) (tm3 (List.mem_of_getElem? (i := 81) rfl)) (fa_9 (P := (fun w : Cond => w ∈ lw_tbl)) (tm1 (List.mem_of_getElem? (i := 41) rfl)) (fa_9 (P := (fun w : Cond => w ∈ lw_tbl)) (tm1 (List.mem_of_getElem? (i := 42) rfl)) f0_9))) (fa_9 (P := (fun q => ∀ w ∈ dBW (nO 12) q.1 q.2, w ∈ lw_tbl : Nat × Nat → Prop)) (fa_9 (P := (fun w : Cond => w ∈ lw_tbl)) (tm8 (List.mem_of_getElem? (i := 141) rfl)) (fa_9 (P := (fun w : Cond => w ∈ lw_tbl)) (tm4 (List.mem_of_getElem? (i := 158) rfl)) (fa_9 (P := (fun w : Cond => w ∈ lw_tbl)) (tm1 (List.mem_of_getElem? (i := 11) rfl)) (fa_9 (P := (fun w : Cond => w ∈ lw_tbl)) (tm4 (List.mem_of_getElem? (i := 159) rfl)) f0_9)))) (fa_9 (P := (fun q => ∀ w ∈ dBW (nO 12) q.1 q.2, w ∈ lw_tbl : Nat × Nat → Prop)) (fa_9 (P := (fun w : Cond => w ∈ lw_tbl)) (tm9 (List.mem_of_getElem? (i := 49) rfl)) (fa_9 (P := (fun w : Cond => w ∈ lw_tbl)) (tm8 (List.mem_of_getElem? (i := 191) rfl)) (fa_9 (P := (fun w : Cond => w ∈ lw_tbl)) (tm1 (List.mem_of_getElem? (i := 11) rfl)) (fa_9 (P := (fun w : Cond => w ∈ lw_tbl)) (tm8 (List.mem_of_getElem? (i := 192) rfl)) f0_9)))) (fa_9 (P := (fun q => ∀ w ∈ dBW (nO 12) q.1 q.2, w ∈ lw_tbl : Nat × Nat → Prop)) (fa_9 (P := (fun w : Cond => w ∈ lw_tbl)) (tm9 (List.mem_of_getElem? (i := 71) rfl)) (fa_9 (P := (fun w : Cond => w ∈ lw_tbl)) (tm4 (List.mem_of_getElem? (i := 215) rfl)) (fa_9 (P := (fun w : Cond => w ∈ lw_tbl)) (tm4 (List.mem_of_getElem? (i := 214) rfl)) (fa_9 (P := (fun w : Cond => w ∈ lw_tbl)) (tm1 (List.mem_of_getElem? (i := 21) rfl)) f0_9)))) f0_9))))
set_option maxRecDepth 100000 in
set_option maxHeartbeats 4000000 in
theorem it16_X10 : ∀ q ∈ BIX10, (fun q => ∀ w ∈ dBW (nO 13) q.1 q.2, w ∈ lw_tbl : Nat × Nat → Prop) q := (fa_9 (P := (fun q => ∀ w ∈ dBW (nO 13) q.1 q.2, w ∈ lw_tbl : Nat × Nat → Prop)) (fa_9 (P := (fun w : Cond => w ∈ lw_tbl)) (tm1 (List.mem_of_getElem? (i := 48) rfl)) (fa_9 (P := (fun w : Cond => w ∈ lw_tbl)) (tm1 (List.mem_of_getElem? (i := 41) rfl)) (fa_9 (P := (fun w : Cond => w ∈ lw_tbl)) (tm1 (List.mem_of_getElem? (i := 42) rfl)) f0_9))) f0_9)
set_option maxRecDepth 100000 in
set_option maxHeartbeats 4000000 in
theorem it16_X11 : ∀ q ∈ BIX11, (fun q => ∀ w ∈ dBW (nO 14) q.1 q.2, w ∈ lw_tbl : Nat × Nat → Prop) q := (fa_9 (P := (fun q => ∀ w ∈ dBW (nO 14) q.1 q.2, w ∈ lw_tbl : Nat × Nat → Prop)) (fa_9 (P := (fun w : Cond => w ∈ lw_tbl)) (tm2 (List.mem_of_getElem? (i := 76) rfl)) (fa_9 (P := (fun w : Cond => w ∈ lw_tbl)) (tm1 (List.mem_of_getElem? (i := 41) rfl)) (fa_9 (P := (fun w : Cond => w ∈ lw_tbl)) (tm1 (List.mem_of_getElem? (i := 42) rfl)) f0_9))) (fa_9 (P := (fun q => ∀ w ∈ dBW (nO 14) q.1 q.2, w ∈ lw_tbl : Nat × Nat → Prop)) (fa_9 (P := (fun w : Cond => w ∈ lw_tbl)) (tm7 (List.mem_of_getElem? (i := 232) rfl)) (fa_9 (P := (fun w : Cond => w ∈ lw_tbl)) (tm4 (List.mem_of_getElem? (i := 158) rfl)) (fa_9 (P := (fun w : Cond => w ∈ lw_tbl)) (tm1 (List.mem_of_getElem? (i := 11) rfl)) (fa_9 (P := (fun w : Cond => w ∈ lw_tbl)) (tm4 (List.mem_of_getElem? (i := 159) rfl)) f0_9)))) f0_9))
set_option maxRecDepth 100000 in
set_option maxHeartbeats 4000000 in
theorem it16_X12 : ∀ q ∈ BIX12, (fun q => ∀ w ∈ dBW (nO 15) q.1 q.2, w ∈ lw_tbl : Nat × Nat → Prop) q := (fa_9 (P := (fun q => ∀ w ∈ dBW (nO 15) q.1 q.2, w ∈ lw_tbl : Nat × Nat → Prop)) (fa_9 (P := (fun w : Cond => w ∈ lw_tbl)) (tm1 (List.mem_of_getElem? (i := 40) rfl)) (fa_9 (P := (fun w : Cond => w ∈ lw_tbl)) (tm1 (List.mem_of_getElem? (i := 41) rfl)) (fa_9 (P := (fun w : Cond => w ∈ lw_tbl)) (tm1 (List.mem_of_getElem? (i := 42) rfl)) f0_9))) (fa_9 (P := (fun q => ∀ w ∈ dBW (nO 15) q.1 q.2, w ∈ lw_tbl : Nat × Nat → Prop)) (fa_9 (P := (fun w : Cond => w ∈ lw_tbl)) (tm10 (List.mem_of_getElem? (i := 49) rfl)) (fa_9 (P := (fun w : Cond => w ∈ lw_tbl)) (tm4 (List.mem_of_getElem? (i := 158) rfl)) (fa_9 (P := (fun w : Cond => w ∈ lw_tbl)) (tm1 (List.mem_of_getElem? (i := 11) rfl)) (fa_9 (P := (fun w : Cond => w ∈ lw_tbl)) (tm4 (List.mem_of_getElem? (i := 159) rfl)) f0_9)))) (fa_9 (P := (fun q => ∀ w ∈ dBW (nO 15) q.1 q.2, w ∈ lw_tbl : Nat × Nat → Prop)) (fa_9 (P := (fun w : Cond => w ∈ lw_tbl)) (tm10 (List.mem_of_getElem? (i := 50) rfl)) (fa_9 (P := (fun w : Cond => w ∈ lw_tbl)) (tm4 (List.mem_of_getElem? (i := 215) rfl)) (fa_9 (P := (fun w : Cond => w ∈ lw_tbl)) (tm4 (List.mem_of_getElem? (i := 214) rfl)) (fa_9 (P := (fun w : Cond => w ∈ lw_tbl)) (tm1 (List.mem_of_getElem? (i := 21) rfl)) f0_9)))) (fa_9 (P := (fun q => ∀ w ∈ dBW (nO 15) q.1 q.2, w ∈ lw_tbl : Nat × Nat → Prop)) (fa_9 (P := (fun w : Cond => w ∈ lw_tbl)) (tm9 (List.mem_of_getElem? (i := 112) rfl)) (fa_9 (P := (fun w : Cond => w ∈ lw_tbl)) (tm3 (List.mem_of_getElem? (i := 40) rfl)) (fa_9 (P := (fun w : Cond => w ∈ lw_tbl)) (tm1 (List.mem_of_getElem? (i := 11) rfl)) (fa_9 (P := (fun w : Cond => w ∈ lw_tbl)) (tm3 (List.mem_of_getElem? (i := 41) rfl)) f0_9)))) f0_9))))
set_option maxRecDepth 100000 in
set_option maxHeartbeats 4000000 in
theorem it16_X13 : ∀ q ∈ BIX13, (fun q => ∀ w ∈ dBW (nO 16) q.1 q.2, w ∈ lw_tbl : Nat × Nat → Prop) q := (fa_9 (P := (fun q => ∀ w ∈ dBW (nO 16) q.1 q.2, w ∈ lw_tbl : Nat × Nat → Prop)) (fa_9 (P := (fun w : Cond => w ∈ lw_tbl)) (tm10 (List.mem_of_getElem? (i := 151) rfl)) (fa_9 (P := (fun w : Cond => w ∈ lw_tbl)) (tm1 (List.mem_of_getElem? (i := 41) rfl)) (fa_9 (P := (fun w : Cond => w ∈ lw_tbl)) (tm1 (List.mem_of_getElem? (i := 42) rfl)) f0_9))) f0_9)
set_option maxRecDepth 100000 in
set_option maxHeartbeats 4000000 in
theorem it16_J1 : ∀ q ∈ BIJ1, (fun q => ∀ w ∈ dBW (nO 101) q.1 q.2, w ∈ lw_tbl : Nat × Nat → Prop) q := (fa_9 (P := (fun q => ∀ w ∈ dBW (nO 101) q.1 q.2, w ∈ lw_tbl : Nat × Nat → Prop)) (fa_9 (P := (fun w : Cond => w ∈ lw_tbl)) (tm4 (List.mem_of_getElem? (i := 157) rfl)) (fa_9 (P := (fun w : Cond => w ∈ lw_tbl)) (tm4 (List.mem_of_getElem? (i := 158) rfl)) (fa_9 (P := (fun w : Cond => w ∈ lw_tbl)) (tm1 (List.mem_of_getElem? (i := 11) rfl)) (fa_9 (P := (fun w : Cond => w ∈ lw_tbl)) (tm4 (List.mem_of_getElem? (i := 159) rfl)) f0_9)))) (fa_9 (P := (fun q => ∀ w ∈ dBW (nO 101) q.1 q.2, w ∈ lw_tbl : Nat × Nat → Prop)) (fa_9 (P := (fun w : Cond => w ∈ lw_tbl)) (tm4 (List.mem_of_getElem? (i := 156) rfl)) (fa_9 (P := (fun w : Cond => w ∈ lw_tbl)) (tm3 (List.mem_of_getElem? (i := 40) rfl)) (fa_9 (P := (fun w : Cond => w ∈ lw_tbl)) (tm1 (List.mem_of_getElem? (i := 11) rfl)) (fa_9 (P := (fun w : Cond => w ∈ lw_tbl)) (tm3 (List.mem_of_getElem? (i := 41) rfl)) f0_9)))) f0_9))
set_option maxRecDepth 100000 in
set_option maxHeartbeats 4000000 in
theorem it16_J7 : ∀ q ∈ BIJ7, (fun q => ∀ w ∈ dBW (nO 107) q.1 q.2, w ∈ lw_tbl : Nat × Nat → Prop) q := (fa_9 (P := (fun q => ∀ w ∈ dBW (nO 107) q.1 q.2, w ∈ lw_tbl : Nat × Nat → Prop)) (fa_9 (P := (fun w : Cond => w ∈ lw_tbl)) (tm4 (List.mem_of_getElem? (i := 213) rfl)) (fa_9 (P := (fun w : Cond => w ∈ lw_tbl)) (tm4 (List.mem_of_getElem? (i := 215) rfl)) (fa_9 (P := (fun w : Cond => w ∈ lw_tbl)) (tm4 (List.mem_of_getElem? (i := 214) rfl)) (fa_9 (P := (fun w : Cond => w ∈ lw_tbl)) (tm1 (List.mem_of_getElem? (i := 21) rfl)) f0_9)))) (fa_9 (P := (fun q => ∀ w ∈ dBW (nO 107) q.1 q.2, w ∈ lw_tbl : Nat × Nat → Prop)) (fa_9 (P := (fun w : Cond => w ∈ lw_tbl)) (tm4 (List.mem_of_getElem? (i := 212) rfl)) (fa_9 (P := (fun w : Cond => w ∈ lw_tbl)) (tm4 (List.mem_of_getElem? (i := 158) rfl)) (fa_9 (P := (fun w : Cond => w ∈ lw_tbl)) (tm1 (List.mem_of_getElem? (i := 11) rfl)) (fa_9 (P := (fun w : Cond => w ∈ lw_tbl)) (tm4 (List.mem_of_getElem? (i := 159) rfl)) f0_9)))) f0_9))
set_option maxRecDepth 100000 in
set_option maxHeartbeats 4000000 in
theorem it16 : ∀ o ∈ osA, ∀ q ∈ tBI o, ∀ w ∈ dBW (nO o) q.1 q.2, w ∈ lw_tbl := by
  intro o ho
  simp only [osA, List.mem_cons, List.mem_nil_iff, or_false] at ho
  rcases ho with rfl | rfl | rfl | rfl | rfl | rfl | rfl | rfl | rfl | rfl | rfl | rfl | rfl | rfl | rfl | rfl | rfl | rfl | rfl
  · exact it16_X0
  · exact it16_X1
  · exact it16_X2
  · exact it16_X3
  · exact it16_X4
  · exact it16_X5
  · exact it16_X6
  · exact it16_X7
  · exact it16_X8
  · exact it16_X9
  · exact it16_X10
  · exact it16_X11
  · exact it16_X12
  · exact it16_X13
  · exact fun q hq => nomatch hq
  · exact it16_J1
  · exact it16_J7
  · exact fun q hq => nomatch hq
  · exact fun q hq => nomatch hq
set_option maxRecDepth 100000 in
set_option maxHeartbeats 4000000 in
theorem it17_J0 : ∀ q ∈ GSJ0, (fun q => Cond.fieldLink (nO 0) q.1 "java/lang/String" "COMPACT_STRINGS" "Z" ∈ lw_tbl : (Nat × Int32) → Prop) q := (fa_9 (P := (fun q => Cond.fieldLink (nO 0) q.1 "java/lang/String" "COMPACT_STRINGS" "Z" ∈ lw_tbl : (Nat × Int32) → Prop)) (tm4 (List.mem_of_getElem? (i := 96) rfl)) f0_9)
set_option maxRecDepth 100000 in
set_option maxHeartbeats 4000000 in
theorem it17 : ∀ o ∈ osA, ∀ q ∈ tGS o, Cond.fieldLink (nO o) q.1 "java/lang/String" "COMPACT_STRINGS" "Z" ∈ lw_tbl := by
  intro o ho
  simp only [osA, List.mem_cons, List.mem_nil_iff, or_false] at ho
  rcases ho with rfl | rfl | rfl | rfl | rfl | rfl | rfl | rfl | rfl | rfl | rfl | rfl | rfl | rfl | rfl | rfl | rfl | rfl | rfl
  · exact fun q hq => nomatch hq
  · exact fun q hq => nomatch hq
  · exact fun q hq => nomatch hq
  · exact fun q hq => nomatch hq
  · exact fun q hq => nomatch hq
  · exact fun q hq => nomatch hq
  · exact fun q hq => nomatch hq
  · exact fun q hq => nomatch hq
  · exact fun q hq => nomatch hq
  · exact fun q hq => nomatch hq
  · exact fun q hq => nomatch hq
  · exact fun q hq => nomatch hq
  · exact fun q hq => nomatch hq
  · exact fun q hq => nomatch hq
  · exact it17_J0
  · exact fun q hq => nomatch hq
  · exact fun q hq => nomatch hq
  · exact fun q hq => nomatch hq
  · exact fun q hq => nomatch hq
set_option maxRecDepth 100000 in
set_option maxHeartbeats 4000000 in
theorem it18_X7 : ∀ q ∈ X1X7, (fun q => Cond.classLink (nO 10) q.1 q.2 ∈ lw_tbl : (Nat × String) → Prop) q := (fa_9 (P := (fun q => Cond.classLink (nO 10) q.1 q.2 ∈ lw_tbl : (Nat × String) → Prop)) (tm4 (List.mem_of_getElem? (i := 235) rfl)) f0_9)
set_option maxRecDepth 100000 in
set_option maxHeartbeats 4000000 in
theorem it18_X12 : ∀ q ∈ X1X12, (fun q => Cond.classLink (nO 15) q.1 q.2 ∈ lw_tbl : (Nat × String) → Prop) q := (fa_9 (P := (fun q => Cond.classLink (nO 15) q.1 q.2 ∈ lw_tbl : (Nat × String) → Prop)) (tm7 (List.mem_of_getElem? (i := 1) rfl)) (fa_9 (P := (fun q => Cond.classLink (nO 15) q.1 q.2 ∈ lw_tbl : (Nat × String) → Prop)) (tm7 (List.mem_of_getElem? (i := 34) rfl)) (fa_9 (P := (fun q => Cond.classLink (nO 15) q.1 q.2 ∈ lw_tbl : (Nat × String) → Prop)) (tm4 (List.mem_of_getElem? (i := 52) rfl)) (fa_9 (P := (fun q => Cond.classLink (nO 15) q.1 q.2 ∈ lw_tbl : (Nat × String) → Prop)) (tm7 (List.mem_of_getElem? (i := 45) rfl)) f0_9))))
set_option maxRecDepth 100000 in
set_option maxHeartbeats 4000000 in
theorem it18 : ∀ o ∈ osA, ∀ q ∈ tX1 o, Cond.classLink (nO o) q.1 q.2 ∈ lw_tbl := by
  intro o ho
  simp only [osA, List.mem_cons, List.mem_nil_iff, or_false] at ho
  rcases ho with rfl | rfl | rfl | rfl | rfl | rfl | rfl | rfl | rfl | rfl | rfl | rfl | rfl | rfl | rfl | rfl | rfl | rfl | rfl
  · exact fun q hq => nomatch hq
  · exact fun q hq => nomatch hq
  · exact fun q hq => nomatch hq
  · exact fun q hq => nomatch hq
  · exact fun q hq => nomatch hq
  · exact fun q hq => nomatch hq
  · exact fun q hq => nomatch hq
  · exact it18_X7
  · exact fun q hq => nomatch hq
  · exact fun q hq => nomatch hq
  · exact fun q hq => nomatch hq
  · exact fun q hq => nomatch hq
  · exact it18_X12
  · exact fun q hq => nomatch hq
  · exact fun q hq => nomatch hq
  · exact fun q hq => nomatch hq
  · exact fun q hq => nomatch hq
  · exact fun q hq => nomatch hq
  · exact fun q hq => nomatch hq
set_option maxRecDepth 100000 in
set_option maxHeartbeats 4000000 in
theorem it19_X12 : ∀ q ∈ XHX12, (fun q => Cond.classLink (nO 15) q.1 q.2 ∈ lw_tbl : (Nat × String) → Prop) q := (fa_9 (P := (fun q => Cond.classLink (nO 15) q.1 q.2 ∈ lw_tbl : (Nat × String) → Prop)) (tm7 (List.mem_of_getElem? (i := 1) rfl)) (fa_9 (P := (fun q => Cond.classLink (nO 15) q.1 q.2 ∈ lw_tbl : (Nat × String) → Prop)) (tm7 (List.mem_of_getElem? (i := 34) rfl)) (fa_9 (P := (fun q => Cond.classLink (nO 15) q.1 q.2 ∈ lw_tbl : (Nat × String) → Prop)) (tm4 (List.mem_of_getElem? (i := 52) rfl)) (fa_9 (P := (fun q => Cond.classLink (nO 15) q.1 q.2 ∈ lw_tbl : (Nat × String) → Prop)) (tm7 (List.mem_of_getElem? (i := 45) rfl)) f0_9))))
set_option maxRecDepth 100000 in
set_option maxHeartbeats 4000000 in
theorem it19_L : ∀ q ∈ XHL, (fun q => Cond.classLink (nO 100) q.1 q.2 ∈ lw_tbl : (Nat × String) → Prop) q := (fa_9 (P := (fun q => Cond.classLink (nO 100) q.1 q.2 ∈ lw_tbl : (Nat × String) → Prop)) (tm6 (List.mem_of_getElem? (i := 235) rfl)) (fa_9 (P := (fun q => Cond.classLink (nO 100) q.1 q.2 ∈ lw_tbl : (Nat × String) → Prop)) (tm7 (List.mem_of_getElem? (i := 29) rfl)) (fa_9 (P := (fun q => Cond.classLink (nO 100) q.1 q.2 ∈ lw_tbl : (Nat × String) → Prop)) (tm7 (List.mem_of_getElem? (i := 40) rfl)) (fa_9 (P := (fun q => Cond.classLink (nO 100) q.1 q.2 ∈ lw_tbl : (Nat × String) → Prop)) (tm7 (List.mem_of_getElem? (i := 73) rfl)) f0_9))))
set_option maxRecDepth 100000 in
set_option maxHeartbeats 4000000 in
theorem it19 : ∀ o ∈ osA, ∀ q ∈ tXH o, Cond.classLink (nO o) q.1 q.2 ∈ lw_tbl := by
  intro o ho
  simp only [osA, List.mem_cons, List.mem_nil_iff, or_false] at ho
  rcases ho with rfl | rfl | rfl | rfl | rfl | rfl | rfl | rfl | rfl | rfl | rfl | rfl | rfl | rfl | rfl | rfl | rfl | rfl | rfl
  · exact fun q hq => nomatch hq
  · exact fun q hq => nomatch hq
  · exact fun q hq => nomatch hq
  · exact fun q hq => nomatch hq
  · exact fun q hq => nomatch hq
  · exact fun q hq => nomatch hq
  · exact fun q hq => nomatch hq
  · exact fun q hq => nomatch hq
  · exact fun q hq => nomatch hq
  · exact fun q hq => nomatch hq
  · exact fun q hq => nomatch hq
  · exact fun q hq => nomatch hq
  · exact it19_X12
  · exact fun q hq => nomatch hq
  · exact fun q hq => nomatch hq
  · exact fun q hq => nomatch hq
  · exact fun q hq => nomatch hq
  · exact fun q hq => nomatch hq
  · exact it19_L
set_option maxRecDepth 100000 in
set_option maxHeartbeats 4000000 in
theorem it22_J0 : ∀ q ∈ SFJ0, (fun q => (if q.2 = true then Cond.fieldLink (nO 0) q.1 "java/lang/String" "value" "[B" else Cond.fieldLink (nO 0) q.1 "java/lang/String" "coder" "B") ∈ lw_tbl : (Nat × Bool) → Prop) q := (fa_9 (P := (fun q => (if q.2 = true then Cond.fieldLink (nO 0) q.1 "java/lang/String" "value" "[B" else Cond.fieldLink (nO 0) q.1 "java/lang/String" "coder" "B") ∈ lw_tbl : (Nat × Bool) → Prop)) (tm6 (List.mem_of_getElem? (i := 97) rfl)) (fa_9 (P := (fun q => (if q.2 = true then Cond.fieldLink (nO 0) q.1 "java/lang/String" "value" "[B" else Cond.fieldLink (nO 0) q.1 "java/lang/String" "coder" "B") ∈ lw_tbl : (Nat × Bool) → Prop)) (tm6 (List.mem_of_getElem? (i := 98) rfl)) f0_9))
set_option maxRecDepth 100000 in
set_option maxHeartbeats 4000000 in
theorem it22 : ∀ o ∈ osA, ∀ q ∈ tSF o, (if q.2 = true then Cond.fieldLink (nO o) q.1 "java/lang/String" "value" "[B" else Cond.fieldLink (nO o) q.1 "java/lang/String" "coder" "B") ∈ lw_tbl := by
  intro o ho
  simp only [osA, List.mem_cons, List.mem_nil_iff, or_false] at ho
  rcases ho with rfl | rfl | rfl | rfl | rfl | rfl | rfl | rfl | rfl | rfl | rfl | rfl | rfl | rfl | rfl | rfl | rfl | rfl | rfl
  · exact fun q hq => nomatch hq
  · exact fun q hq => nomatch hq
  · exact fun q hq => nomatch hq
  · exact fun q hq => nomatch hq
  · exact fun q hq => nomatch hq
  · exact fun q hq => nomatch hq
  · exact fun q hq => nomatch hq
  · exact fun q hq => nomatch hq
  · exact fun q hq => nomatch hq
  · exact fun q hq => nomatch hq
  · exact fun q hq => nomatch hq
  · exact fun q hq => nomatch hq
  · exact fun q hq => nomatch hq
  · exact fun q hq => nomatch hq
  · exact it22_J0
  · exact fun q hq => nomatch hq
  · exact fun q hq => nomatch hq
  · exact fun q hq => nomatch hq
  · exact fun q hq => nomatch hq
set_option maxRecDepth 100000 in
theorem it21_X7_120 : ∀ w ∈ (vx_atS RX7 120 "java/lang/IllegalStateException" xnm).filter goodWord, w ∈ lw_tbl := by decide +kernel
set_option maxRecDepth 100000 in
theorem it21_X12_109 : ∀ w ∈ (vx_atS RX12 109 "java/lang/UnsupportedOperationException" xnm).filter goodWord, w ∈ lw_tbl := by decide +kernel
set_option maxRecDepth 100000 in
theorem it21_X12_122 : ∀ w ∈ (vx_atS RX12 122 "java/lang/IllegalArgumentException" xnm).filter goodWord, w ∈ lw_tbl := by decide +kernel
set_option maxRecDepth 100000 in
theorem it21_X12_158 : ∀ w ∈ (vx_atS RX12 158 "java/lang/IndexOutOfBoundsException" xnm).filter goodWord, w ∈ lw_tbl := by decide +kernel
set_option maxRecDepth 100000 in
theorem it21_X12_166 : ∀ w ∈ (vx_atS RX12 166 "java/lang/IllegalStateException" xnm).filter goodWord, w ∈ lw_tbl := by decide +kernel
set_option maxRecDepth 100000 in
set_option maxHeartbeats 4000000 in
theorem it21 : ∀ o ∈ osA, ∀ q ∈ tX2 o, ∀ w ∈ (vx_atS (nO o) q.1 q.2 xnm).filter goodWord, w ∈ lw_tbl := by
  intro o ho
  simp only [osA, List.mem_cons, List.mem_nil_iff, or_false] at ho
  rcases ho with rfl | rfl | rfl | rfl | rfl | rfl | rfl | rfl | rfl | rfl | rfl | rfl | rfl | rfl | rfl | rfl | rfl | rfl | rfl
  · exact fun q hq => nomatch hq
  · exact fun q hq => nomatch hq
  · exact fun q hq => nomatch hq
  · exact fun q hq => nomatch hq
  · exact fun q hq => nomatch hq
  · exact fun q hq => nomatch hq
  · exact fun q hq => nomatch hq
  · exact (fa_9 (P := (fun q : Nat × String => ∀ w ∈ (vx_atS (nO 10) q.1 q.2 xnm).filter goodWord, w ∈ lw_tbl)) it21_X7_120 f0_9)
  · exact fun q hq => nomatch hq
  · exact fun q hq => nomatch hq
  · exact fun q hq => nomatch hq
  · exact fun q hq => nomatch hq
  · exact (fa_9 (P := (fun q : Nat × String => ∀ w ∈ (vx_atS (nO 15) q.1 q.2 xnm).filter goodWord, w ∈ lw_tbl)) it21_X12_109 (fa_9 (P := (fun q : Nat × String => ∀ w ∈ (vx_atS (nO 15) q.1 q.2 xnm).filter goodWord, w ∈ lw_tbl)) it21_X12_122 (fa_9 (P := (fun q : Nat × String => ∀ w ∈ (vx_atS (nO 15) q.1 q.2 xnm).filter goodWord, w ∈ lw_tbl)) it21_X12_158 (fa_9 (P := (fun q : Nat × String => ∀ w ∈ (vx_atS (nO 15) q.1 q.2 xnm).filter goodWord, w ∈ lw_tbl)) it21_X12_166 f0_9))))
  · exact fun q hq => nomatch hq
  · exact fun q hq => nomatch hq
  · exact fun q hq => nomatch hq
  · exact fun q hq => nomatch hq
  · exact fun q hq => nomatch hq
  · exact fun q hq => nomatch hq
set_option maxRecDepth 100000 in
set_option maxHeartbeats 4000000 in
theorem it2 : ∀ o ∈ osA, Cond.initialized (nO o) ∈ lw_tbl := (fa_9 (P := (fun o : Nat => Cond.initialized (nO o) ∈ lw_tbl)) (tm1 (List.mem_of_getElem? (i := 6) rfl)) (fa_9 (P := (fun o : Nat => Cond.initialized (nO o) ∈ lw_tbl)) (tm1 (List.mem_of_getElem? (i := 9) rfl)) (fa_9 (P := (fun o : Nat => Cond.initialized (nO o) ∈ lw_tbl)) (tm1 (List.mem_of_getElem? (i := 3) rfl)) (fa_9 (P := (fun o : Nat => Cond.initialized (nO o) ∈ lw_tbl)) (tm1 (List.mem_of_getElem? (i := 8) rfl)) (fa_9 (P := (fun o : Nat => Cond.initialized (nO o) ∈ lw_tbl)) (tm1 (List.mem_of_getElem? (i := 5) rfl)) (fa_9 (P := (fun o : Nat => Cond.initialized (nO o) ∈ lw_tbl)) (tm1 (List.mem_of_getElem? (i := 10) rfl)) (fa_9 (P := (fun o : Nat => Cond.initialized (nO o) ∈ lw_tbl)) (tm1 (List.mem_of_getElem? (i := 14) rfl)) (fa_9 (P := (fun o : Nat => Cond.initialized (nO o) ∈ lw_tbl)) (tm1 (List.mem_of_getElem? (i := 4) rfl)) (fa_9 (P := (fun o : Nat => Cond.initialized (nO o) ∈ lw_tbl)) (tm1 (List.mem_of_getElem? (i := 13) rfl)) (fa_9 (P := (fun o : Nat => Cond.initialized (nO o) ∈ lw_tbl)) (tm1 (List.mem_of_getElem? (i := 12) rfl)) (fa_9 (P := (fun o : Nat => Cond.initialized (nO o) ∈ lw_tbl)) (tm1 (List.mem_of_getElem? (i := 2) rfl)) (fa_9 (P := (fun o : Nat => Cond.initialized (nO o) ∈ lw_tbl)) (tm1 (List.mem_of_getElem? (i := 7) rfl)) (fa_9 (P := (fun o : Nat => Cond.initialized (nO o) ∈ lw_tbl)) (tm1 (List.mem_of_getElem? (i := 1) rfl)) (fa_9 (P := (fun o : Nat => Cond.initialized (nO o) ∈ lw_tbl)) (tm1 (List.mem_of_getElem? (i := 15) rfl)) (fa_9 (P := (fun o : Nat => Cond.initialized (nO o) ∈ lw_tbl)) (tm1 (List.mem_of_getElem? (i := 23) rfl)) (fa_9 (P := (fun o : Nat => Cond.initialized (nO o) ∈ lw_tbl)) (tm1 (List.mem_of_getElem? (i := 24) rfl)) (fa_9 (P := (fun o : Nat => Cond.initialized (nO o) ∈ lw_tbl)) (tm1 (List.mem_of_getElem? (i := 20) rfl)) (fa_9 (P := (fun o : Nat => Cond.initialized (nO o) ∈ lw_tbl)) (tm1 (List.mem_of_getElem? (i := 25) rfl)) (fa_9 (P := (fun o : Nat => Cond.initialized (nO o) ∈ lw_tbl)) (tm1 (List.mem_of_getElem? (i := 0) rfl)) f0_9)))))))))))))))))))
set_option maxRecDepth 100000 in
set_option maxHeartbeats 4000000 in
theorem it20 : ∀ c ∈ exs, Cond.initialized c ∈ lw_tbl := (fa_9 (P := (fun c : String => Cond.initialized c ∈ lw_tbl)) (tm1 (List.mem_of_getElem? (i := 22) rfl)) (fa_9 (P := (fun c : String => Cond.initialized c ∈ lw_tbl)) (tm1 (List.mem_of_getElem? (i := 28) rfl)) (fa_9 (P := (fun c : String => Cond.initialized c ∈ lw_tbl)) (tm1 (List.mem_of_getElem? (i := 33) rfl)) (fa_9 (P := (fun c : String => Cond.initialized c ∈ lw_tbl)) (tm1 (List.mem_of_getElem? (i := 19) rfl)) f0_9))))
set_option maxRecDepth 100000 in
set_option maxHeartbeats 4000000 in
theorem it23 : ∀ w ∈ GS23, w ∈ lw_tbl := (fa_9 (P := (fun w : Cond => w ∈ lw_tbl)) (tm4 (List.mem_of_getElem? (i := 112) rfl)) f0_9)
set_option maxRecDepth 100000 in
set_option maxHeartbeats 4000000 in
theorem it12 : ∀ w ∈ GS12, w ∈ lw_tbl := (fa_9 (P := (fun w : Cond => w ∈ lw_tbl)) (tm1 (List.mem_of_getElem? (i := 74) rfl)) (fa_9 (P := (fun w : Cond => w ∈ lw_tbl)) (tm1 (List.mem_of_getElem? (i := 73) rfl)) (fa_9 (P := (fun w : Cond => w ∈ lw_tbl)) (tm3 (List.mem_of_getElem? (i := 52) rfl)) (fa_9 (P := (fun w : Cond => w ∈ lw_tbl)) (tm1 (List.mem_of_getElem? (i := 218) rfl)) f0_9))))
set_option maxRecDepth 100000 in
set_option maxHeartbeats 4000000 in
theorem ux_X0 : ∀ w ∈ u_ws RX0 TX0 18, w ∈ lw_tbl := (fa_9 (P := (fun w : Cond => w ∈ lw_tbl)) (tm2 (List.mem_of_getElem? (i := 230) rfl)) (fa_9 (P := (fun w : Cond => w ∈ lw_tbl)) (tm2 (List.mem_of_getElem? (i := 232) rfl)) (fa_9 (P := (fun w : Cond => w ∈ lw_tbl)) (tm2 (List.mem_of_getElem? (i := 234) rfl)) (fa_9 (P := (fun w : Cond => w ∈ lw_tbl)) (tm2 (List.mem_of_getElem? (i := 236) rfl)) (fa_9 (P := (fun w : Cond => w ∈ lw_tbl)) (tm2 (List.mem_of_getElem? (i := 238) rfl)) (fa_9 (P := (fun w : Cond => w ∈ lw_tbl)) (tm3 (List.mem_of_getElem? (i := 0) rfl)) (fa_9 (P := (fun w : Cond => w ∈ lw_tbl)) (tm3 (List.mem_of_getElem? (i := 2) rfl)) (fa_9 (P := (fun w : Cond => w ∈ lw_tbl)) (tm3 (List.mem_of_getElem? (i := 4) rfl)) (fa_9 (P := (fun w : Cond => w ∈ lw_tbl)) (tm3 (List.mem_of_getElem? (i := 6) rfl)) (fa_9 (P := (fun w : Cond => w ∈ lw_tbl)) (tm3 (List.mem_of_getElem? (i := 8) rfl)) (fa_9 (P := (fun w : Cond => w ∈ lw_tbl)) (tm3 (List.mem_of_getElem? (i := 10) rfl)) (fa_9 (P := (fun w : Cond => w ∈ lw_tbl)) (tm3 (List.mem_of_getElem? (i := 12) rfl)) (fa_9 (P := (fun w : Cond => w ∈ lw_tbl)) (tm3 (List.mem_of_getElem? (i := 14) rfl)) (fa_9 (P := (fun w : Cond => w ∈ lw_tbl)) (tm3 (List.mem_of_getElem? (i := 16) rfl)) (fa_9 (P := (fun w : Cond => w ∈ lw_tbl)) (tm3 (List.mem_of_getElem? (i := 18) rfl)) (fa_9 (P := (fun w : Cond => w ∈ lw_tbl)) (tm3 (List.mem_of_getElem? (i := 20) rfl)) (fa_9 (P := (fun w : Cond => w ∈ lw_tbl)) (tm3 (List.mem_of_getElem? (i := 22) rfl)) (fa_9 (P := (fun w : Cond => w ∈ lw_tbl)) (tm3 (List.mem_of_getElem? (i := 24) rfl)) f0_9))))))))))))))))))
set_option maxRecDepth 100000 in
set_option maxHeartbeats 4000000 in
theorem ux_X1 : ∀ w ∈ u_ws RX1 TX1 7, w ∈ lw_tbl := (fa_9 (P := (fun w : Cond => w ∈ lw_tbl)) (tm3 (List.mem_of_getElem? (i := 61) rfl)) (fa_9 (P := (fun w : Cond => w ∈ lw_tbl)) (tm3 (List.mem_of_getElem? (i := 63) rfl)) (fa_9 (P := (fun w : Cond => w ∈ lw_tbl)) (tm3 (List.mem_of_getElem? (i := 65) rfl)) (fa_9 (P := (fun w : Cond => w ∈ lw_tbl)) (tm3 (List.mem_of_getElem? (i := 67) rfl)) (fa_9 (P := (fun w : Cond => w ∈ lw_tbl)) (tm3 (List.mem_of_getElem? (i := 69) rfl)) (fa_9 (P := (fun w : Cond => w ∈ lw_tbl)) (tm3 (List.mem_of_getElem? (i := 71) rfl)) (fa_9 (P := (fun w : Cond => w ∈ lw_tbl)) (tm3 (List.mem_of_getElem? (i := 73) rfl)) f0_9)))))))
set_option maxRecDepth 100000 in
set_option maxHeartbeats 4000000 in
theorem ux_X2 : ∀ w ∈ u_ws RX2 TX2 16, w ∈ lw_tbl := (fa_9 (P := (fun w : Cond => w ∈ lw_tbl)) (tm1 (List.mem_of_getElem? (i := 119) rfl)) (fa_9 (P := (fun w : Cond => w ∈ lw_tbl)) (tm1 (List.mem_of_getElem? (i := 121) rfl)) (fa_9 (P := (fun w : Cond => w ∈ lw_tbl)) (tm1 (List.mem_of_getElem? (i := 123) rfl)) (fa_9 (P := (fun w : Cond => w ∈ lw_tbl)) (tm1 (List.mem_of_getElem? (i := 125) rfl)) (fa_9 (P := (fun w : Cond => w ∈ lw_tbl)) (tm1 (List.mem_of_getElem? (i := 127) rfl)) (fa_9 (P := (fun w : Cond => w ∈ lw_tbl)) (tm1 (List.mem_of_getElem? (i := 129) rfl)) (fa_9 (P := (fun w : Cond => w ∈ lw_tbl)) (tm1 (List.mem_of_getElem? (i := 131) rfl)) (fa_9 (P := (fun w : Cond => w ∈ lw_tbl)) (tm1 (List.mem_of_getElem? (i := 133) rfl)) (fa_9 (P := (fun w : Cond => w ∈ lw_tbl)) (tm1 (List.mem_of_getElem? (i := 135) rfl)) (fa_9 (P := (fun w : Cond => w ∈ lw_tbl)) (tm1 (List.mem_of_getElem? (i := 137) rfl)) (fa_9 (P := (fun w : Cond => w ∈ lw_tbl)) (tm1 (List.mem_of_getElem? (i := 139) rfl)) (fa_9 (P := (fun w : Cond => w ∈ lw_tbl)) (tm1 (List.mem_of_getElem? (i := 141) rfl)) (fa_9 (P := (fun w : Cond => w ∈ lw_tbl)) (tm1 (List.mem_of_getElem? (i := 143) rfl)) (fa_9 (P := (fun w : Cond => w ∈ lw_tbl)) (tm1 (List.mem_of_getElem? (i := 145) rfl)) (fa_9 (P := (fun w : Cond => w ∈ lw_tbl)) (tm1 (List.mem_of_getElem? (i := 147) rfl)) (fa_9 (P := (fun w : Cond => w ∈ lw_tbl)) (tm1 (List.mem_of_getElem? (i := 149) rfl)) f0_9))))))))))))))))
set_option maxRecDepth 100000 in
set_option maxHeartbeats 4000000 in
theorem ux_X3 : ∀ w ∈ u_ws RX3 TX3 7, w ∈ lw_tbl := (fa_9 (P := (fun w : Cond => w ∈ lw_tbl)) (tm2 (List.mem_of_getElem? (i := 163) rfl)) (fa_9 (P := (fun w : Cond => w ∈ lw_tbl)) (tm2 (List.mem_of_getElem? (i := 165) rfl)) (fa_9 (P := (fun w : Cond => w ∈ lw_tbl)) (tm2 (List.mem_of_getElem? (i := 167) rfl)) (fa_9 (P := (fun w : Cond => w ∈ lw_tbl)) (tm2 (List.mem_of_getElem? (i := 169) rfl)) (fa_9 (P := (fun w : Cond => w ∈ lw_tbl)) (tm2 (List.mem_of_getElem? (i := 171) rfl)) (fa_9 (P := (fun w : Cond => w ∈ lw_tbl)) (tm2 (List.mem_of_getElem? (i := 173) rfl)) (fa_9 (P := (fun w : Cond => w ∈ lw_tbl)) (tm2 (List.mem_of_getElem? (i := 175) rfl)) f0_9)))))))
set_option maxRecDepth 100000 in
set_option maxHeartbeats 4000000 in
theorem ux_X4 : ∀ w ∈ u_ws RX4 TX4 20, w ∈ lw_tbl := (fa_9 (P := (fun w : Cond => w ∈ lw_tbl)) (tm2 (List.mem_of_getElem? (i := 24) rfl)) (fa_9 (P := (fun w : Cond => w ∈ lw_tbl)) (tm2 (List.mem_of_getElem? (i := 26) rfl)) (fa_9 (P := (fun w : Cond => w ∈ lw_tbl)) (tm2 (List.mem_of_getElem? (i := 28) rfl)) (fa_9 (P := (fun w : Cond => w ∈ lw_tbl)) (tm2 (List.mem_of_getElem? (i := 30) rfl)) (fa_9 (P := (fun w : Cond => w ∈ lw_tbl)) (tm2 (List.mem_of_getElem? (i := 32) rfl)) (fa_9 (P := (fun w : Cond => w ∈ lw_tbl)) (tm2 (List.mem_of_getElem? (i := 34) rfl)) (fa_9 (P := (fun w : Cond => w ∈ lw_tbl)) (tm2 (List.mem_of_getElem? (i := 36) rfl)) (fa_9 (P := (fun w : Cond => w ∈ lw_tbl)) (tm2 (List.mem_of_getElem? (i := 38) rfl)) (fa_9 (P := (fun w : Cond => w ∈ lw_tbl)) (tm2 (List.mem_of_getElem? (i := 40) rfl)) (fa_9 (P := (fun w : Cond => w ∈ lw_tbl)) (tm2 (List.mem_of_getElem? (i := 42) rfl)) (fa_9 (P := (fun w : Cond => w ∈ lw_tbl)) (tm2 (List.mem_of_getElem? (i := 44) rfl)) (fa_9 (P := (fun w : Cond => w ∈ lw_tbl)) (tm2 (List.mem_of_getElem? (i := 46) rfl)) (fa_9 (P := (fun w : Cond => w ∈ lw_tbl)) (tm2 (List.mem_of_getElem? (i := 48) rfl)) (fa_9 (P := (fun w : Cond => w ∈ lw_tbl)) (tm2 (List.mem_of_getElem? (i := 50) rfl)) (fa_9 (P := (fun w : Cond => w ∈ lw_tbl)) (tm2 (List.mem_of_getElem? (i := 52) rfl)) (fa_9 (P := (fun w : Cond => w ∈ lw_tbl)) (tm2 (List.mem_of_getElem? (i := 54) rfl)) (fa_9 (P := (fun w : Cond => w ∈ lw_tbl)) (tm2 (List.mem_of_getElem? (i := 56) rfl)) (fa_9 (P := (fun w : Cond => w ∈ lw_tbl)) (tm2 (List.mem_of_getElem? (i := 58) rfl)) (fa_9 (P := (fun w : Cond => w ∈ lw_tbl)) (tm2 (List.mem_of_getElem? (i := 60) rfl)) (fa_9 (P := (fun w : Cond => w ∈ lw_tbl)) (tm2 (List.mem_of_getElem? (i := 62) rfl)) f0_9))))))))))))))))))))
set_option maxRecDepth 100000 in
set_option maxHeartbeats 4000000 in
theorem ux_X5 : ∀ w ∈ u_ws RX5 TX5 2, w ∈ lw_tbl := (fa_9 (P := (fun w : Cond => w ∈ lw_tbl)) (tm3 (List.mem_of_getElem? (i := 47) rfl)) (fa_9 (P := (fun w : Cond => w ∈ lw_tbl)) (tm3 (List.mem_of_getElem? (i := 49) rfl)) f0_9))
set_option maxRecDepth 100000 in
set_option maxHeartbeats 4000000 in
theorem ux_X6 : ∀ w ∈ u_ws RX6 TX6 14, w ∈ lw_tbl := (fa_9 (P := (fun w : Cond => w ∈ lw_tbl)) (tm3 (List.mem_of_getElem? (i := 202) rfl)) (fa_9 (P := (fun w : Cond => w ∈ lw_tbl)) (tm3 (List.mem_of_getElem? (i := 204) rfl)) (fa_9 (P := (fun w : Cond => w ∈ lw_tbl)) (tm3 (List.mem_of_getElem? (i := 206) rfl)) (fa_9 (P := (fun w : Cond => w ∈ lw_tbl)) (tm3 (List.mem_of_getElem? (i := 208) rfl)) (fa_9 (P := (fun w : Cond => w ∈ lw_tbl)) (tm3 (List.mem_of_getElem? (i := 210) rfl)) (fa_9 (P := (fun w : Cond => w ∈ lw_tbl)) (tm3 (List.mem_of_getElem? (i := 212) rfl)) (fa_9 (P := (fun w : Cond => w ∈ lw_tbl)) (tm3 (List.mem_of_getElem? (i := 214) rfl)) (fa_9 (P := (fun w : Cond => w ∈ lw_tbl)) (tm3 (List.mem_of_getElem? (i := 216) rfl)) (fa_9 (P := (fun w : Cond => w ∈ lw_tbl)) (tm3 (List.mem_of_getElem? (i := 218) rfl)) (fa_9 (P := (fun w : Cond => w ∈ lw_tbl)) (tm3 (List.mem_of_getElem? (i := 220) rfl)) (fa_9 (P := (fun w : Cond => w ∈ lw_tbl)) (tm3 (List.mem_of_getElem? (i := 222) rfl)) (fa_9 (P := (fun w : Cond => w ∈ lw_tbl)) (tm3 (List.mem_of_getElem? (i := 224) rfl)) (fa_9 (P := (fun w : Cond => w ∈ lw_tbl)) (tm3 (List.mem_of_getElem? (i := 226) rfl)) (fa_9 (P := (fun w : Cond => w ∈ lw_tbl)) (tm3 (List.mem_of_getElem? (i := 228) rfl)) f0_9))))))))))))))
set_option maxRecDepth 100000 in
set_option maxHeartbeats 4000000 in
theorem ux_X7 : ∀ w ∈ u_ws RX7 TX7 19, w ∈ lw_tbl := (fa_9 (P := (fun w : Cond => w ∈ lw_tbl)) (tm1 (List.mem_of_getElem? (i := 179) rfl)) (fa_9 (P := (fun w : Cond => w ∈ lw_tbl)) (tm1 (List.mem_of_getElem? (i := 181) rfl)) (fa_9 (P := (fun w : Cond => w ∈ lw_tbl)) (tm1 (List.mem_of_getElem? (i := 183) rfl)) (fa_9 (P := (fun w : Cond => w ∈ lw_tbl)) (tm1 (List.mem_of_getElem? (i := 185) rfl)) (fa_9 (P := (fun w : Cond => w ∈ lw_tbl)) (tm1 (List.mem_of_getElem? (i := 187) rfl)) (fa_9 (P := (fun w : Cond => w ∈ lw_tbl)) (tm1 (List.mem_of_getElem? (i := 189) rfl)) (fa_9 (P := (fun w : Cond => w ∈ lw_tbl)) (tm1 (List.mem_of_getElem? (i := 191) rfl)) (fa_9 (P := (fun w : Cond => w ∈ lw_tbl)) (tm1 (List.mem_of_getElem? (i := 193) rfl)) (fa_9 (P := (fun w : Cond => w ∈ lw_tbl)) (tm1 (List.mem_of_getElem? (i := 195) rfl)) (fa_9 (P := (fun w : Cond => w ∈ lw_tbl)) (tm1 (List.mem_of_getElem? (i := 197) rfl)) (fa_9 (P := (fun w : Cond => w ∈ lw_tbl)) (tm1 (List.mem_of_getElem? (i := 199) rfl)) (fa_9 (P := (fun w : Cond => w ∈ lw_tbl)) (tm1 (List.mem_of_getElem? (i := 201) rfl)) (fa_9 (P := (fun w : Cond => w ∈ lw_tbl)) (tm1 (List.mem_of_getElem? (i := 203) rfl)) (fa_9 (P := (fun w : Cond => w ∈ lw_tbl)) (tm1 (List.mem_of_getElem? (i := 205) rfl)) (fa_9 (P := (fun w : Cond => w ∈ lw_tbl)) (tm1 (List.mem_of_getElem? (i := 207) rfl)) (fa_9 (P := (fun w : Cond => w ∈ lw_tbl)) (tm1 (List.mem_of_getElem? (i := 209) rfl)) (fa_9 (P := (fun w : Cond => w ∈ lw_tbl)) (tm1 (List.mem_of_getElem? (i := 211) rfl)) (fa_9 (P := (fun w : Cond => w ∈ lw_tbl)) (tm1 (List.mem_of_getElem? (i := 213) rfl)) (fa_9 (P := (fun w : Cond => w ∈ lw_tbl)) (tm1 (List.mem_of_getElem? (i := 215) rfl)) f0_9)))))))))))))))))))
set_option maxRecDepth 100000 in
set_option maxHeartbeats 4000000 in
theorem ux_X8 : ∀ w ∈ u_ws RX8 TX8 3, w ∈ lw_tbl := (fa_9 (P := (fun w : Cond => w ∈ lw_tbl)) (tm3 (List.mem_of_getElem? (i := 109) rfl)) (fa_9 (P := (fun w : Cond => w ∈ lw_tbl)) (tm3 (List.mem_of_getElem? (i := 111) rfl)) (fa_9 (P := (fun w : Cond => w ∈ lw_tbl)) (tm3 (List.mem_of_getElem? (i := 113) rfl)) f0_9)))
set_option maxRecDepth 100000 in
set_option maxHeartbeats 4000000 in
theorem ux_X9 : ∀ w ∈ u_ws RX9 TX9 17, w ∈ lw_tbl := (fa_9 (P := (fun w : Cond => w ∈ lw_tbl)) (tm3 (List.mem_of_getElem? (i := 143) rfl)) (fa_9 (P := (fun w : Cond => w ∈ lw_tbl)) (tm3 (List.mem_of_getElem? (i := 145) rfl)) (fa_9 (P := (fun w : Cond => w ∈ lw_tbl)) (tm3 (List.mem_of_getElem? (i := 147) rfl)) (fa_9 (P := (fun w : Cond => w ∈ lw_tbl)) (tm3 (List.mem_of_getElem? (i := 149) rfl)) (fa_9 (P := (fun w : Cond => w ∈ lw_tbl)) (tm3 (List.mem_of_getElem? (i := 151) rfl)) (fa_9 (P := (fun w : Cond => w ∈ lw_tbl)) (tm3 (List.mem_of_getElem? (i := 153) rfl)) (fa_9 (P := (fun w : Cond => w ∈ lw_tbl)) (tm3 (List.mem_of_getElem? (i := 155) rfl)) (fa_9 (P := (fun w : Cond => w ∈ lw_tbl)) (tm3 (List.mem_of_getElem? (i := 157) rfl)) (fa_9 (P := (fun w : Cond => w ∈ lw_tbl)) (tm3 (List.mem_of_getElem? (i := 159) rfl)) (fa_9 (P := (fun w : Cond => w ∈ lw_tbl)) (tm3 (List.mem_of_getElem? (i := 161) rfl)) (fa_9 (P := (fun w : Cond => w ∈ lw_tbl)) (tm3 (List.mem_of_getElem? (i := 163) rfl)) (fa_9 (P := (fun w : Cond => w ∈ lw_tbl)) (tm3 (List.mem_of_getElem? (i := 165) rfl)) (fa_9 (P := (fun w : Cond => w ∈ lw_tbl)) (tm3 (List.mem_of_getElem? (i := 167) rfl)) (fa_9 (P := (fun w : Cond => w ∈ lw_tbl)) (tm3 (List.mem_of_getElem? (i := 169) rfl)) (fa_9 (P := (fun w : Cond => w ∈ lw_tbl)) (tm3 (List.mem_of_getElem? (i := 171) rfl)) (fa_9 (P := (fun w : Cond => w ∈ lw_tbl)) (tm3 (List.mem_of_getElem? (i := 173) rfl)) (fa_9 (P := (fun w : Cond => w ∈ lw_tbl)) (tm3 (List.mem_of_getElem? (i := 175) rfl)) f0_9)))))))))))))))))
set_option maxRecDepth 100000 in
set_option maxHeartbeats 4000000 in
theorem ux_X10 : ∀ w ∈ u_ws RX10 TX10 6, w ∈ lw_tbl := (fa_9 (P := (fun w : Cond => w ∈ lw_tbl)) (tm1 (List.mem_of_getElem? (i := 60) rfl)) (fa_9 (P := (fun w : Cond => w ∈ lw_tbl)) (tm1 (List.mem_of_getElem? (i := 62) rfl)) (fa_9 (P := (fun w : Cond => w ∈ lw_tbl)) (tm1 (List.mem_of_getElem? (i := 64) rfl)) (fa_9 (P := (fun w : Cond => w ∈ lw_tbl)) (tm1 (List.mem_of_getElem? (i := 66) rfl)) (fa_9 (P := (fun w : Cond => w ∈ lw_tbl)) (tm1 (List.mem_of_getElem? (i := 68) rfl)) (fa_9 (P := (fun w : Cond => w ∈ lw_tbl)) (tm1 (List.mem_of_getElem? (i := 70) rfl)) f0_9))))))
set_option maxRecDepth 100000 in
set_option maxHeartbeats 4000000 in
theorem ux_X11 : ∀ w ∈ u_ws RX11 TX11 19, w ∈ lw_tbl := (fa_9 (P := (fun w : Cond => w ∈ lw_tbl)) (tm2 (List.mem_of_getElem? (i := 107) rfl)) (fa_9 (P := (fun w : Cond => w ∈ lw_tbl)) (tm2 (List.mem_of_getElem? (i := 109) rfl)) (fa_9 (P := (fun w : Cond => w ∈ lw_tbl)) (tm2 (List.mem_of_getElem? (i := 111) rfl)) (fa_9 (P := (fun w : Cond => w ∈ lw_tbl)) (tm2 (List.mem_of_getElem? (i := 113) rfl)) (fa_9 (P := (fun w : Cond => w ∈ lw_tbl)) (tm2 (List.mem_of_getElem? (i := 115) rfl)) (fa_9 (P := (fun w : Cond => w ∈ lw_tbl)) (tm2 (List.mem_of_getElem? (i := 117) rfl)) (fa_9 (P := (fun w : Cond => w ∈ lw_tbl)) (tm2 (List.mem_of_getElem? (i := 119) rfl)) (fa_9 (P := (fun w : Cond => w ∈ lw_tbl)) (tm2 (List.mem_of_getElem? (i := 121) rfl)) (fa_9 (P := (fun w : Cond => w ∈ lw_tbl)) (tm2 (List.mem_of_getElem? (i := 123) rfl)) (fa_9 (P := (fun w : Cond => w ∈ lw_tbl)) (tm2 (List.mem_of_getElem? (i := 125) rfl)) (fa_9 (P := (fun w : Cond => w ∈ lw_tbl)) (tm2 (List.mem_of_getElem? (i := 127) rfl)) (fa_9 (P := (fun w : Cond => w ∈ lw_tbl)) (tm2 (List.mem_of_getElem? (i := 129) rfl)) (fa_9 (P := (fun w : Cond => w ∈ lw_tbl)) (tm2 (List.mem_of_getElem? (i := 131) rfl)) (fa_9 (P := (fun w : Cond => w ∈ lw_tbl)) (tm2 (List.mem_of_getElem? (i := 133) rfl)) (fa_9 (P := (fun w : Cond => w ∈ lw_tbl)) (tm2 (List.mem_of_getElem? (i := 135) rfl)) (fa_9 (P := (fun w : Cond => w ∈ lw_tbl)) (tm2 (List.mem_of_getElem? (i := 137) rfl)) (fa_9 (P := (fun w : Cond => w ∈ lw_tbl)) (tm2 (List.mem_of_getElem? (i := 139) rfl)) (fa_9 (P := (fun w : Cond => w ∈ lw_tbl)) (tm2 (List.mem_of_getElem? (i := 141) rfl)) (fa_9 (P := (fun w : Cond => w ∈ lw_tbl)) (tm2 (List.mem_of_getElem? (i := 143) rfl)) f0_9)))))))))))))))))))
set_option maxRecDepth 100000 in
set_option maxHeartbeats 4000000 in
theorem ux_X12 : ∀ w ∈ u_ws RX12 TX12 18, w ∈ lw_tbl := (fa_9 (P := (fun w : Cond => w ∈ lw_tbl)) (tm4 (List.mem_of_getElem? (i := 11) rfl)) (fa_9 (P := (fun w : Cond => w ∈ lw_tbl)) (tm4 (List.mem_of_getElem? (i := 13) rfl)) (fa_9 (P := (fun w : Cond => w ∈ lw_tbl)) (tm4 (List.mem_of_getElem? (i := 15) rfl)) (fa_9 (P := (fun w : Cond => w ∈ lw_tbl)) (tm4 (List.mem_of_getElem? (i := 17) rfl)) (fa_9 (P := (fun w : Cond => w ∈ lw_tbl)) (tm4 (List.mem_of_getElem? (i := 19) rfl)) (fa_9 (P := (fun w : Cond => w ∈ lw_tbl)) (tm4 (List.mem_of_getElem? (i := 21) rfl)) (fa_9 (P := (fun w : Cond => w ∈ lw_tbl)) (tm4 (List.mem_of_getElem? (i := 23) rfl)) (fa_9 (P := (fun w : Cond => w ∈ lw_tbl)) (tm4 (List.mem_of_getElem? (i := 25) rfl)) (fa_9 (P := (fun w : Cond => w ∈ lw_tbl)) (tm4 (List.mem_of_getElem? (i := 27) rfl)) (fa_9 (P := (fun w : Cond => w ∈ lw_tbl)) (tm4 (List.mem_of_getElem? (i := 29) rfl)) (fa_9 (P := (fun w : Cond => w ∈ lw_tbl)) (tm4 (List.mem_of_getElem? (i := 31) rfl)) (fa_9 (P := (fun w : Cond => w ∈ lw_tbl)) (tm4 (List.mem_of_getElem? (i := 33) rfl)) (fa_9 (P := (fun w : Cond => w ∈ lw_tbl)) (tm4 (List.mem_of_getElem? (i := 35) rfl)) (fa_9 (P := (fun w : Cond => w ∈ lw_tbl)) (tm4 (List.mem_of_getElem? (i := 37) rfl)) (fa_9 (P := (fun w : Cond => w ∈ lw_tbl)) (tm4 (List.mem_of_getElem? (i := 39) rfl)) (fa_9 (P := (fun w : Cond => w ∈ lw_tbl)) (tm4 (List.mem_of_getElem? (i := 41) rfl)) (fa_9 (P := (fun w : Cond => w ∈ lw_tbl)) (tm4 (List.mem_of_getElem? (i := 43) rfl)) (fa_9 (P := (fun w : Cond => w ∈ lw_tbl)) (tm4 (List.mem_of_getElem? (i := 45) rfl)) f0_9))))))))))))))))))
set_option maxRecDepth 100000 in
set_option maxHeartbeats 4000000 in
theorem ux_X13 : ∀ w ∈ u_ws RX13 TX13 126, w ∈ lw_tbl := (fa_9 (P := (fun w : Cond => w ∈ lw_tbl)) (tm11 (List.mem_of_getElem? (i := 46) rfl)) (fa_9 (P := (fun w : Cond => w ∈ lw_tbl)) (tm11 (List.mem_of_getElem? (i := 48) rfl)) (fa_9 (P := (fun w : Cond => w ∈ lw_tbl)) (tm11 (List.mem_of_getElem? (i := 50) rfl)) (fa_9 (P := (fun w : Cond => w ∈ lw_tbl)) (tm11 (List.mem_of_getElem? (i := 52) rfl)) (fa_9 (P := (fun w : Cond => w ∈ lw_tbl)) (tm11 (List.mem_of_getElem? (i := 54) rfl)) (fa_9 (P := (fun w : Cond => w ∈ lw_tbl)) (tm11 (List.mem_of_getElem? (i := 56) rfl)) (fa_9 (P := (fun w : Cond => w ∈ lw_tbl)) (tm11 (List.mem_of_getElem? (i := 58) rfl)) (fa_9 (P := (fun w : Cond => w ∈ lw_tbl)) (tm11 (List.mem_of_getElem? (i := 60) rfl)) (fa_9 (P := (fun w : Cond => w ∈ lw_tbl)) (tm11 (List.mem_of_getElem? (i := 62) rfl)) (fa_9 (P := (fun w : Cond => w ∈ lw_tbl)) (tm11 (List.mem_of_getElem? (i := 64) rfl)) (fa_9 (P := (fun w : Cond => w ∈ lw_tbl)) (tm11 (List.mem_of_getElem? (i := 66) rfl)) (fa_9 (P := (fun w : Cond => w ∈ lw_tbl)) (tm11 (List.mem_of_getElem? (i := 68) rfl)) (fa_9 (P := (fun w : Cond => w ∈ lw_tbl)) (tm11 (List.mem_of_getElem? (i := 70) rfl)) (fa_9 (P := (fun w : Cond => w ∈ lw_tbl)) (tm11 (List.mem_of_getElem? (i := 72) rfl)) (fa_9 (P := (fun w : Cond => w ∈ lw_tbl)) (tm11 (List.mem_of_getElem? (i := 74) rfl)) (fa_9 (P := (fun w : Cond => w ∈ lw_tbl)) (tm11 (List.mem_of_getElem? (i := 76) rfl)) (fa_9 (P := (fun w : Cond => w ∈ lw_tbl)) (tm11 (List.mem_of_getElem? (i := 78) rfl)) (fa_9 (P := (fun w : Cond => w ∈ lw_tbl)) (tm11 (List.mem_of_getElem? (i := 80) rfl)) (fa_9 (P := (fun w : Cond => w ∈ lw_tbl)) (tm11 (List.mem_of_getElem? (i := 82) rfl)) (fa_9 (P := (fun w : Cond => w ∈ lw_tbl)) (tm11 (List.mem_of_getElem? (i := 84) rfl)) (fa_9 (P := (fun w : Cond => w ∈ lw_tbl)) (tm11 (List.mem_of_getElem? (i := 86) rfl)) (fa_9 (P := (fun w : Cond => w ∈ lw_tbl)) (tm11 (List.mem_of_getElem? (i := 88) rfl)) (fa_9 (P := (fun w : Cond => w ∈ lw_tbl)) (tm11 (List.mem_of_getElem? (i := 90) rfl)) (fa_9 (P := (fun w : Cond => w ∈ lw_tbl)) (tm11 (List.mem_of_getElem? (i := 92) rfl)) (fa_9 (P := (fun w : Cond => w ∈ lw_tbl)) (tm11 (List.mem_of_getElem? (i := 94) rfl)) (fa_9 (P := (fun w : Cond => w ∈ lw_tbl)) (tm11 (List.mem_of_getElem? (i := 96) rfl)) (fa_9 (P := (fun w : Cond => w ∈ lw_tbl)) (tm11 (List.mem_of_getElem? (i := 98) rfl)) (fa_9 (P := (fun w : Cond => w ∈ lw_tbl)) (tm11 (List.mem_of_getElem? (i := 100) rfl)) (fa_9 (P := (fun w : Cond => w ∈ lw_tbl)) (tm11 (List.mem_of_getElem? (i := 102) rfl)) (fa_9 (P := (fun w : Cond => w ∈ lw_tbl)) (tm11 (List.mem_of_getElem? (i := 104) rfl)) (fa_9 (P := (fun w : Cond => w ∈ lw_tbl)) (tm11 (List.mem_of_getElem? (i := 106) rfl)) (fa_9 (P := (fun w : Cond => w ∈ lw_tbl)) (tm11 (List.mem_of_getElem? (i := 108) rfl)) (fa_9 (P := (fun w : Cond => w ∈ lw_tbl)) (tm11 (List.mem_of_getElem? (i := 110) rfl)) (fa_9 (P := (fun w : Cond => w ∈ lw_tbl)) (tm11 (List.mem_of_getElem? (i := 112) rfl)) (fa_9 (P := (fun w : Cond => w ∈ lw_tbl)) (tm11 (List.mem_of_getElem? (i := 114) rfl)) (fa_9 (P := (fun w : Cond => w ∈ lw_tbl)) (tm11 (List.mem_of_getElem? (i := 116) rfl)) (fa_9 (P := (fun w : Cond => w ∈ lw_tbl)) (tm11 (List.mem_of_getElem? (i := 118) rfl)) (fa_9 (P := (fun w : Cond => w ∈ lw_tbl)) (tm11 (List.mem_of_getElem? (i := 120) rfl)) (fa_9 (P := (fun w : Cond => w ∈ lw_tbl)) (tm11 (List.mem_of_getElem? (i := 122) rfl)) (fa_9 (P := (fun w : Cond => w ∈ lw_tbl)) (tm11 (List.mem_of_getElem? (i := 124) rfl)) (fa_9 (P := (fun w : Cond => w ∈ lw_tbl)) (tm11 (List.mem_of_getElem? (i := 126) rfl)) (fa_9 (P := (fun w : Cond => w ∈ lw_tbl)) (tm11 (List.mem_of_getElem? (i := 128) rfl)) (fa_9 (P := (fun w : Cond => w ∈ lw_tbl)) (tm11 (List.mem_of_getElem? (i := 130) rfl)) (fa_9 (P := (fun w : Cond => w ∈ lw_tbl)) (tm11 (List.mem_of_getElem? (i := 132) rfl)) (fa_9 (P := (fun w : Cond => w ∈ lw_tbl)) (tm11 (List.mem_of_getElem? (i := 134) rfl)) (fa_9 (P := (fun w : Cond => w ∈ lw_tbl)) (tm11 (List.mem_of_getElem? (i := 136) rfl)) (fa_9 (P := (fun w : Cond => w ∈ lw_tbl)) (tm11 (List.mem_of_getElem? (i := 138) rfl)) (fa_9 (P := (fun w : Cond => w ∈ lw_tbl)) (tm11 (List.mem_of_getElem? (i := 140) rfl)) (fa_9 (P := (fun w : Cond => w ∈ lw_tbl)) (tm11 (List.mem_of_getElem? (i := 142) rfl)) (fa_9 (P := (fun w : Cond => w ∈ lw_tbl)) (tm11 (List.mem_of_getElem? (i := 144) rfl)) (fa_9 (P := (fun w : Cond => w ∈ lw_tbl)) (tm11 (List.mem_of_getElem? (i := 146) rfl)) (fa_9 (P := (fun w : Cond => w ∈ lw_tbl)) (tm11 (List.mem_of_getElem? (i := 148) rfl)) (fa_9 (P := (fun w : Cond => w ∈ lw_tbl)) (tm11 (List.mem_of_getElem? (i := 150) rfl)) (fa_9 (P := (fun w : Cond => w ∈ lw_tbl)) (tm11 (List.mem_of_getElem? (i := 152) rfl)) (fa_9 (P := (fun w : Cond => w ∈ lw_tbl)) (tm11 (List.mem_of_getElem? (i := 154) rfl)) (fa_9 (P := (fun w : Cond => w ∈ lw_tbl)) (tm11 (List.mem_of_getElem? (i := 156) rfl)) (fa_9 (P := (fun w : Cond => w ∈ lw_tbl)) (tm11 (List.mem_of_getElem? (i := 158) rfl)) (fa_9 (P := (fun w : Cond => w ∈ lw_tbl)) (tm11 (List.mem_of_getElem? (i := 160) rfl)) (fa_9 (P := (fun w : Cond => w ∈ lw_tbl)) (tm11 (List.mem_of_getElem? (i := 162) rfl)) (fa_9 (P := (fun w : Cond => w ∈ lw_tbl)) (tm11 (List.mem_of_getElem? (i := 164) rfl)) (fa_9 (P := (fun w : Cond => w ∈ lw_tbl)) (tm11 (List.mem_of_getElem? (i := 166) rfl)) (fa_9 (P := (fun w : Cond => w ∈ lw_tbl)) (tm11 (List.mem_of_getElem? (i := 168) rfl)) (fa_9 (P := (fun w : Cond => w ∈ lw_tbl)) (tm11 (List.mem_of_getElem? (i := 170) rfl)) (fa_9 (P := (fun w : Cond => w ∈ lw_tbl)) (tm11 (List.mem_of_getElem? (i := 172) rfl)) (fa_9 (P := (fun w : Cond => w ∈ lw_tbl)) (tm11 (List.mem_of_getElem? (i := 174) rfl)) (fa_9 (P := (fun w : Cond => w ∈ lw_tbl)) (tm11 (List.mem_of_getElem? (i := 176) rfl)) (fa_9 (P := (fun w : Cond => w ∈ lw_tbl)) (tm11 (List.mem_of_getElem? (i := 178) rfl)) (fa_9 (P := (fun w : Cond => w ∈ lw_tbl)) (tm11 (List.mem_of_getElem? (i := 180) rfl)) (fa_9 (P := (fun w : Cond => w ∈ lw_tbl)) (tm11 (List.mem_of_getElem? (i := 182) rfl)) (fa_9 (P := (fun w : Cond => w ∈ lw_tbl)) (tm11 (List.mem_of_getElem? (i := 184) rfl)) (fa_9 (P := (fun w : Cond => w ∈ lw_tbl)) (tm11 (List.mem_of_getElem? (i := 186) rfl)) (fa_9 (P := (fun w : Cond => w ∈ lw_tbl)) (tm11 (List.mem_of_getElem? (i := 188) rfl)) (fa_9 (P := (fun w : Cond => w ∈ lw_tbl)) (tm11 (List.mem_of_getElem? (i := 190) rfl)) (fa_9 (P := (fun w : Cond => w ∈ lw_tbl)) (tm11 (List.mem_of_getElem? (i := 192) rfl)) (fa_9 (P := (fun w : Cond => w ∈ lw_tbl)) (tm11 (List.mem_of_getElem? (i := 194) rfl)) (fa_9 (P := (fun w : Cond => w ∈ lw_tbl)) (tm11 (List.mem_of_getElem? (i := 196) rfl)) (fa_9 (P := (fun w : Cond => w ∈ lw_tbl)) (tm11 (List.mem_of_getElem? (i := 198) rfl)) (fa_9 (P := (fun w : Cond => w ∈ lw_tbl)) (tm11 (List.mem_of_getElem? (i := 200) rfl)) (fa_9 (P := (fun w : Cond => w ∈ lw_tbl)) (tm11 (List.mem_of_getElem? (i := 202) rfl)) (fa_9 (P := (fun w : Cond => w ∈ lw_tbl)) (tm11 (List.mem_of_getElem? (i := 204) rfl)) (fa_9 (P := (fun w : Cond => w ∈ lw_tbl)) (tm11 (List.mem_of_getElem? (i := 206) rfl)) (fa_9 (P := (fun w : Cond => w ∈ lw_tbl)) (tm11 (List.mem_of_getElem? (i := 208) rfl)) (fa_9 (P := (fun w : Cond => w ∈ lw_tbl)) (tm11 (List.mem_of_getElem? (i := 210) rfl)) (fa_9 (P := (fun w : Cond => w ∈ lw_tbl)) (tm11 (List.mem_of_getElem? (i := 212) rfl)) (fa_9 (P := (fun w : Cond => w ∈ lw_tbl)) (tm11 (List.mem_of_getElem? (i := 214) rfl)) (fa_9 (P := (fun w : Cond => w ∈ lw_tbl)) (tm11 (List.mem_of_getElem? (i := 216) rfl)) (fa_9 (P := (fun w : Cond => w ∈ lw_tbl)) (tm11 (List.mem_of_getElem? (i := 218) rfl)) (fa_9 (P := (fun w : Cond => w ∈ lw_tbl)) (tm11 (List.mem_of_getElem? (i := 220) rfl)) (fa_9 (P := (fun w : Cond => w ∈ lw_tbl)) (tm11 (List.mem_of_getElem? (i := 222) rfl)) (fa_9 (P := (fun w : Cond => w ∈ lw_tbl)) (tm11 (List.mem_of_getElem? (i := 224) rfl)) (fa_9 (P := (fun w : Cond => w ∈ lw_tbl)) (tm11 (List.mem_of_getElem? (i := 226) rfl)) (fa_9 (P := (fun w : Cond => w ∈ lw_tbl)) (tm11 (List.mem_of_getElem? (i := 228) rfl)) (fa_9 (P := (fun w : Cond => w ∈ lw_tbl)) (tm11 (List.mem_of_getElem? (i := 230) rfl)) (fa_9 (P := (fun w : Cond => w ∈ lw_tbl)) (tm11 (List.mem_of_getElem? (i := 232) rfl)) (fa_9 (P := (fun w : Cond => w ∈ lw_tbl)) (tm11 (List.mem_of_getElem? (i := 234) rfl)) (fa_9 (P := (fun w : Cond => w ∈ lw_tbl)) (tm11 (List.mem_of_getElem? (i := 236) rfl)) (fa_9 (P := (fun w : Cond => w ∈ lw_tbl)) (tm11 (List.mem_of_getElem? (i := 238) rfl)) (fa_9 (P := (fun w : Cond => w ∈ lw_tbl)) (tm12 (List.mem_of_getElem? (i := 0) rfl)) (fa_9 (P := (fun w : Cond => w ∈ lw_tbl)) (tm12 (List.mem_of_getElem? (i := 2) rfl)) (fa_9 (P := (fun w : Cond => w ∈ lw_tbl)) (tm12 (List.mem_of_getElem? (i := 4) rfl)) (fa_9 (P := (fun w : Cond => w ∈ lw_tbl)) (tm12 (List.mem_of_getElem? (i := 6) rfl)) (fa_9 (P := (fun w : Cond => w ∈ lw_tbl)) (tm12 (List.mem_of_getElem? (i := 8) rfl)) (fa_9 (P := (fun w : Cond => w ∈ lw_tbl)) (tm12 (List.mem_of_getElem? (i := 10) rfl)) (fa_9 (P := (fun w : Cond => w ∈ lw_tbl)) (tm12 (List.mem_of_getElem? (i := 12) rfl)) (fa_9 (P := (fun w : Cond => w ∈ lw_tbl)) (tm12 (List.mem_of_getElem? (i := 14) rfl)) (fa_9 (P := (fun w : Cond => w ∈ lw_tbl)) (tm12 (List.mem_of_getElem? (i := 16) rfl)) (fa_9 (P := (fun w : Cond => w ∈ lw_tbl)) (tm12 (List.mem_of_getElem? (i := 18) rfl)) (fa_9 (P := (fun w : Cond => w ∈ lw_tbl)) (tm12 (List.mem_of_getElem? (i := 20) rfl)) (fa_9 (P := (fun w : Cond => w ∈ lw_tbl)) (tm12 (List.mem_of_getElem? (i := 22) rfl)) (fa_9 (P := (fun w : Cond => w ∈ lw_tbl)) (tm12 (List.mem_of_getElem? (i := 24) rfl)) (fa_9 (P := (fun w : Cond => w ∈ lw_tbl)) (tm12 (List.mem_of_getElem? (i := 26) rfl)) (fa_9 (P := (fun w : Cond => w ∈ lw_tbl)) (tm12 (List.mem_of_getElem? (i := 28) rfl)) (fa_9 (P := (fun w : Cond => w ∈ lw_tbl)) (tm12 (List.mem_of_getElem? (i := 30) rfl)) (fa_9 (P := (fun w : Cond => w ∈ lw_tbl)) (tm12 (List.mem_of_getElem? (i := 32) rfl)) (fa_9 (P := (fun w : Cond => w ∈ lw_tbl)) (tm12 (List.mem_of_getElem? (i := 34) rfl)) (fa_9 (P := (fun w : Cond => w ∈ lw_tbl)) (tm12 (List.mem_of_getElem? (i := 36) rfl)) (fa_9 (P := (fun w : Cond => w ∈ lw_tbl)) (tm12 (List.mem_of_getElem? (i := 38) rfl)) (fa_9 (P := (fun w : Cond => w ∈ lw_tbl)) (tm12 (List.mem_of_getElem? (i := 40) rfl)) (fa_9 (P := (fun w : Cond => w ∈ lw_tbl)) (tm12 (List.mem_of_getElem? (i := 42) rfl)) (fa_9 (P := (fun w : Cond => w ∈ lw_tbl)) (tm12 (List.mem_of_getElem? (i := 44) rfl)) (fa_9 (P := (fun w : Cond => w ∈ lw_tbl)) (tm12 (List.mem_of_getElem? (i := 46) rfl)) (fa_9 (P := (fun w : Cond => w ∈ lw_tbl)) (tm12 (List.mem_of_getElem? (i := 48) rfl)) (fa_9 (P := (fun w : Cond => w ∈ lw_tbl)) (tm12 (List.mem_of_getElem? (i := 50) rfl)) (fa_9 (P := (fun w : Cond => w ∈ lw_tbl)) (tm12 (List.mem_of_getElem? (i := 52) rfl)) (fa_9 (P := (fun w : Cond => w ∈ lw_tbl)) (tm12 (List.mem_of_getElem? (i := 54) rfl)) (fa_9 (P := (fun w : Cond => w ∈ lw_tbl)) (tm12 (List.mem_of_getElem? (i := 56) rfl)) f0_9))))))))))))))))))))))))))))))))))))))))))))))))))))))))))))))))))))))))))))))))))))))))))))))))))))))))))))))))))))))))))))))
set_option maxRecDepth 100000 in
set_option maxHeartbeats 4000000 in
theorem ux_J0 : ∀ w ∈ u_ws RJ0 TJ0 4, w ∈ lw_tbl := (fa_9 (P := (fun w : Cond => w ∈ lw_tbl)) (tm6 (List.mem_of_getElem? (i := 99) rfl)) (fa_9 (P := (fun w : Cond => w ∈ lw_tbl)) (tm6 (List.mem_of_getElem? (i := 101) rfl)) (fa_9 (P := (fun w : Cond => w ∈ lw_tbl)) (tm6 (List.mem_of_getElem? (i := 103) rfl)) (fa_9 (P := (fun w : Cond => w ∈ lw_tbl)) (tm6 (List.mem_of_getElem? (i := 105) rfl)) f0_9))))
set_option maxRecDepth 100000 in
set_option maxHeartbeats 4000000 in
theorem ux_J4 : ∀ w ∈ u_ws RJ4 TJ4 4, w ∈ lw_tbl := (fa_9 (P := (fun w : Cond => w ∈ lw_tbl)) (tm5 (List.mem_of_getElem? (i := 165) rfl)) (fa_9 (P := (fun w : Cond => w ∈ lw_tbl)) (tm5 (List.mem_of_getElem? (i := 167) rfl)) (fa_9 (P := (fun w : Cond => w ∈ lw_tbl)) (tm5 (List.mem_of_getElem? (i := 169) rfl)) (fa_9 (P := (fun w : Cond => w ∈ lw_tbl)) (tm5 (List.mem_of_getElem? (i := 171) rfl)) f0_9))))
set_option maxRecDepth 100000 in
set_option maxHeartbeats 4000000 in
theorem ux_Jx00060 : ∀ w ∈ u_ws RJx00060 TJx00060 6, w ∈ lw_tbl := (fa_9 (P := (fun w : Cond => w ∈ lw_tbl)) (tm6 (List.mem_of_getElem? (i := 123) rfl)) (fa_9 (P := (fun w : Cond => w ∈ lw_tbl)) (tm6 (List.mem_of_getElem? (i := 124) rfl)) (fa_9 (P := (fun w : Cond => w ∈ lw_tbl)) (tm6 (List.mem_of_getElem? (i := 125) rfl)) (fa_9 (P := (fun w : Cond => w ∈ lw_tbl)) (tm6 (List.mem_of_getElem? (i := 126) rfl)) (fa_9 (P := (fun w : Cond => w ∈ lw_tbl)) (tm6 (List.mem_of_getElem? (i := 127) rfl)) (fa_9 (P := (fun w : Cond => w ∈ lw_tbl)) (tm6 (List.mem_of_getElem? (i := 128) rfl)) f0_9))))))
set_option maxRecDepth 100000 in
set_option maxHeartbeats 4000000 in
theorem it11 : ∀ o ∈ osC, ∀ w ∈ u_ws (nO o) (nT o) (nN o), w ∈ lw_tbl := by
  intro o ho
  simp only [osC, List.mem_cons, List.mem_nil_iff, or_false] at ho
  rcases ho with rfl | rfl | rfl | rfl | rfl | rfl | rfl | rfl | rfl | rfl | rfl | rfl | rfl | rfl | rfl
  · exact ux_X0
  · exact ux_X1
  · exact ux_X2
  · exact ux_X3
  · exact ux_X4
  · exact ux_X5
  · exact ux_X6
  · exact ux_X7
  · exact ux_X8
  · exact ux_X9
  · exact ux_X10
  · exact ux_X11
  · exact ux_X12
  · exact ux_X13
  · exact ux_J0
theorem in_all : ∀ w ∈ GWs, w ∈ lw_tbl := by
  intro w hw
  unfold GWs at hw
  rcases List.mem_append.mp hw with h | hw
  · obtain ⟨r, hr, rfl⟩ := List.mem_map.mp h; exact ic_all r hr
  rcases List.mem_append.mp hw with h | hw
  · obtain ⟨r, hr, rfl⟩ := List.mem_map.mp h; exact ic_K r hr
  rcases List.mem_append.mp hw with h | hw
  · obtain ⟨r, hr, rfl⟩ := List.mem_map.mp h; exact it2 r hr
  rcases List.mem_append.mp hw with h | hw
  · obtain ⟨r, hr, rfl⟩ := List.mem_map.mp h
    obtain ⟨hr, hs⟩ := List.mem_filter.mp hr
    exact (is_al r hr).1 hs
  rcases List.mem_append.mp hw with h | hw
  · obtain ⟨r, hr, rfl⟩ := List.mem_map.mp h
    obtain ⟨hr, hs⟩ := List.mem_filter.mp hr
    exact ((is_al r hr).2 (by simpa using hs)).1
  rcases List.mem_append.mp hw with h | hw
  · obtain ⟨r, hr, rfl⟩ := List.mem_map.mp h
    obtain ⟨hr, hs⟩ := List.mem_filter.mp hr
    have hs : r.2.2.2.2.1 = false ∧ r.1.name ≠ "<init>" := by simpa using hs
    exact ((is_al r hr).2 hs.1).2 hs.2
  rcases List.mem_append.mp hw with h | hw
  · obtain ⟨o, ho, h⟩ := List.mem_flatMap.mp h; obtain ⟨q, hq, rfl⟩ := List.mem_map.mp h; exact it6 o ho q hq
  rcases List.mem_append.mp hw with h | hw
  · obtain ⟨o, ho, h⟩ := List.mem_flatMap.mp h
    obtain ⟨q, hq, h⟩ := List.mem_filterMap.mp h
    cases hr : MTs[q.2]? with
    | none => rw [hr] at h; cases h
    | some r => rw [hr] at h; cases h; exact it7 o ho q hq r hr
  rcases List.mem_append.mp hw with h | hw
  · obtain ⟨o, ho, h⟩ := List.mem_flatMap.mp h
    obtain ⟨q, hq, h⟩ := List.mem_filterMap.mp h
    cases hr : KMs[q.2]? with
    | none => rw [hr] at h; cases h
    | some r => rw [hr] at h; cases h; exact it8 o ho q hq r hr
  rcases List.mem_append.mp hw with h | hw
  · obtain ⟨o, ho, h⟩ := List.mem_flatMap.mp h; obtain ⟨q, hq, rfl⟩ := List.mem_map.mp h; exact it9 o ho q hq
  rcases List.mem_append.mp hw with h | hw
  · obtain ⟨o, ho, h⟩ := List.mem_flatMap.mp h; obtain ⟨q, hq, rfl⟩ := List.mem_map.mp h; exact it10 o ho q hq
  rcases List.mem_append.mp hw with h | hw
  · obtain ⟨o, ho, h⟩ := List.mem_flatMap.mp h; exact it11 o ho w h
  rcases List.mem_append.mp hw with h | hw
  · exact it12 w h
  rcases List.mem_append.mp hw with h | hw
  · obtain ⟨o, ho, h⟩ := List.mem_flatMap.mp h; obtain ⟨q, hq, rfl⟩ := List.mem_map.mp h; exact it13 o ho q hq
  rcases List.mem_append.mp hw with h | hw
  · obtain ⟨o, ho, h⟩ := List.mem_flatMap.mp h; obtain ⟨q, hq, rfl⟩ := List.mem_map.mp h; exact it14 o ho q hq
  rcases List.mem_append.mp hw with h | hw
  · obtain ⟨o, ho, h⟩ := List.mem_flatMap.mp h; obtain ⟨q, hq, rfl⟩ := List.mem_map.mp h; exact it15 o ho q hq
  rcases List.mem_append.mp hw with h | hw
  · obtain ⟨o, ho, h⟩ := List.mem_flatMap.mp h; obtain ⟨q, hq, h⟩ := List.mem_flatMap.mp h; exact it16 o ho q hq w h
  rcases List.mem_append.mp hw with h | hw
  · obtain ⟨o, ho, h⟩ := List.mem_flatMap.mp h; obtain ⟨q, hq, rfl⟩ := List.mem_map.mp h; exact it17 o ho q hq
  rcases List.mem_append.mp hw with h | hw
  · obtain ⟨o, ho, h⟩ := List.mem_flatMap.mp h; obtain ⟨q, hq, rfl⟩ := List.mem_map.mp h; exact it18 o ho q hq
  rcases List.mem_append.mp hw with h | hw
  · obtain ⟨o, ho, h⟩ := List.mem_flatMap.mp h; obtain ⟨q, hq, rfl⟩ := List.mem_map.mp h; exact it19 o ho q hq
  rcases List.mem_append.mp hw with h | hw
  · obtain ⟨r, hr, rfl⟩ := List.mem_map.mp h; exact it20 r hr
  rcases List.mem_append.mp hw with h | hw
  · obtain ⟨o, ho, h⟩ := List.mem_flatMap.mp h; obtain ⟨q, hq, h⟩ := List.mem_flatMap.mp h; exact it21 o ho q hq w h
  rcases List.mem_append.mp hw with h | hw
  · obtain ⟨o, ho, h⟩ := List.mem_flatMap.mp h; obtain ⟨q, hq, rfl⟩ := List.mem_map.mp h; exact it22 o ho q hq
  · have h := hw
    exact it23 w h
