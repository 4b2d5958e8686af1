set_option maxRecDepth 100000 in
set_option maxHeartbeats 4000000 in
theorem st_ss {p : Program} {s : State} {m : MethodId} {meth : Method} {c : Code} {b L : Nat} {xs : Nat → Int32} (C0 : lw_At p s m meth c b L xs) : ∀ z ∈ STs, ∃ a, vk_R z.1 z.2.1 z.2.2 a s := by
  obtain ⟨hx, hb, hr, hml, hown, hts, hX, hbl, hlocks, hgv⟩ := C0
  have hn : narrow_1.before #[Value.ref b] s = true := ar_9 hgv
  exact (fa_9 (st_str (hts (.stringRef "ChanceWorks$Tape" 76 "var arr func local if else while return observe gain pick flip choose ") (tm4 (List.mem_of_getElem? (i := 87) rfl))) (al_9 (ar_9 (ar_9 (ar_9 (ar_9 (ar_9 (al_9 (al_9 (al_9 (ar_9 (al_9 hn)))))))))))) (fa_9 (st_str (hts (.stringRef "ChanceWorks$Tape" 69 "(){}[];,:~=<>+-*/%&|!") (tm4 (List.mem_of_getElem? (i := 140) rfl))) (al_9 (ar_9 (ar_9 (al_9 (al_9 (ar_9 (ar_9 (al_9 (ar_9 (al_9 hn))))))))))) (fa_9 (st_str (hts (.stringRef "ChanceWorks$Parser" 118 "a fault of the text") (tm5 (List.mem_of_getElem? (i := 38) rfl))) (al_9 (ar_9 (ar_9 (ar_9 (ar_9 (ar_9 (ar_9 (ar_9 (al_9 (ar_9 (al_9 hn)))))))))))) (fa_9 (st_str (hts (.stringRef "ChanceWorks$Tape" 89 "main") (tm6 (List.mem_of_getElem? (i := 217) rfl))) (ar_9 (ar_9 (al_9 (ar_9 (ar_9 (al_9 (ar_9 (ar_9 (ar_9 (al_9 hn))))))))))) (fa_9 (st_str (hts (.stringRef "ChanceWorks" 107 "the tape is full") (tm7 (List.mem_of_getElem? (i := 10) rfl))) (al_9 (ar_9 (al_9 (al_9 (al_9 (ar_9 (ar_9 (ar_9 (ar_9 (al_9 hn))))))))))) (fa_9 (st_str (hts (.stringRef "ChanceWorks" 120 "the tape has not so many bytes") (tm7 (List.mem_of_getElem? (i := 35) rfl))) (al_9 (ar_9 (ar_9 (al_9 (ar_9 (ar_9 (ar_9 (ar_9 (ar_9 (al_9 hn))))))))))) (fa_9 (st_str (hts (.stringRef "ChanceWorks" 156 "no such count") (tm7 (List.mem_of_getElem? (i := 54) rfl))) (ar_9 (ar_9 (ar_9 (al_9 (ar_9 (al_9 (al_9 (al_9 (al_9 (ar_9 hn))))))))))) (fa_9 (st_str (hts (.stringRef "ChanceWorks" 164 "there is no program") (tm7 (List.mem_of_getElem? (i := 78) rfl))) (al_9 (al_9 (al_9 (ar_9 (al_9 (ar_9 (al_9 (al_9 (al_9 (ar_9 hn))))))))))) (fa_9 (st_str (hts (.stringRef "ChanceWorks" 167 "most is not 1 .. 1000") (tm7 (List.mem_of_getElem? (i := 80) rfl))) (al_9 (ar_9 (ar_9 (ar_9 (ar_9 (ar_9 (ar_9 (al_9 (al_9 (al_9 (ar_9 hn)))))))))))) (fa_9 (st_str (hts (.stringRef "ChanceWorks" 177 "no such state or question") (tm8 (List.mem_of_getElem? (i := 44) rfl))) (ar_9 (ar_9 (ar_9 (al_9 (ar_9 (al_9 (ar_9 (al_9 (al_9 (ar_9 hn))))))))))) (fa_9 (st_str (hts (.stringRef "ChanceWorks" 203 "no such state, call or variable") (tm8 (List.mem_of_getElem? (i := 81) rfl))) (ar_9 (ar_9 (al_9 (al_9 (ar_9 (ar_9 (ar_9 (al_9 (al_9 (ar_9 hn))))))))))) (fa_9 (st_str (hts (.stringRef "ChanceWorks" 209 "no such state, next or question") (tm8 (List.mem_of_getElem? (i := 93) rfl))) (ar_9 (al_9 (ar_9 (al_9 (ar_9 (al_9 (al_9 (ar_9 (al_9 (ar_9 hn))))))))))) (fa_9 (st_str (hts (.stringRef "ChanceWorks" 230 "no such ending or variable") (tm8 (List.mem_of_getElem? (i := 106) rfl))) (ar_9 (ar_9 (ar_9 (al_9 (ar_9 (ar_9 (al_9 (ar_9 (al_9 (ar_9 hn))))))))))) (fa_9 (st_str (hts (.stringRef "ChanceWorks" 241 "no such state that chooses, or next") (tm8 (List.mem_of_getElem? (i := 115) rfl))) (al_9 (al_9 (ar_9 (al_9 (ar_9 (al_9 (ar_9 (ar_9 (al_9 (ar_9 hn))))))))))) (fa_9 (st_str (hts (.stringRef "ChanceWorks" 246 "no such state that chooses") (tm8 (List.mem_of_getElem? (i := 123) rfl))) (al_9 (ar_9 (al_9 (ar_9 (ar_9 (ar_9 (ar_9 (ar_9 (al_9 (ar_9 hn))))))))))) (fa_9 (st_str (hts (.stringRef "ChanceWorks" 248 "nothing is explored") (tm8 (List.mem_of_getElem? (i := 131) rfl))) (ar_9 (ar_9 (ar_9 (al_9 (ar_9 (al_9 (al_9 (al_9 (ar_9 (ar_9 hn))))))))))) (fa_9 (st_str (hts (.stringRef "ChanceWorks" 256 "no such kind") (tm9 (List.mem_of_getElem? (i := 165) rfl))) (ar_9 (al_9 (ar_9 (ar_9 (al_9 (ar_9 (al_9 (al_9 (ar_9 (ar_9 hn))))))))))) (fa_9 (st_str (hts (.stringRef "ChanceWorks" 261 "there is no such fraction now") (tm9 (List.mem_of_getElem? (i := 189) rfl))) (ar_9 (al_9 (ar_9 (ar_9 (ar_9 (ar_9 (al_9 (al_9 (ar_9 (ar_9 hn))))))))))) (fa_9 (st_str (hts (.stringRef "ChanceWorks" 263 "no such ending or state") (tm9 (List.mem_of_getElem? (i := 190) rfl))) (ar_9 (al_9 (ar_9 (ar_9 (ar_9 (al_9 (ar_9 (al_9 (ar_9 (ar_9 hn))))))))))) (fa_9 (st_str (hts (.stringRef "ChanceWorks" 286 "no such part") (tm9 (List.mem_of_getElem? (i := 224) rfl))) (ar_9 (ar_9 (ar_9 (al_9 (ar_9 (ar_9 (ar_9 (al_9 (ar_9 (ar_9 hn))))))))))) (fa_9 (st_str (hts (.stringRef "ChanceWorks" 300 "no such number") (tm9 (List.mem_of_getElem? (i := 237) rfl))) (al_9 (ar_9 (ar_9 (al_9 (al_9 (al_9 (al_9 (ar_9 (ar_9 (ar_9 hn))))))))))) (fa_9 (st_str (hts (.stringRef "ChanceWorks" 308 "200 draws are told") (tm10 (List.mem_of_getElem? (i := 9) rfl))) (al_9 (al_9 (al_9 (ar_9 (ar_9 (al_9 (al_9 (ar_9 (ar_9 (ar_9 hn))))))))))) (fa_9 (st_str (hts (.stringRef "ChanceWorks" 310 "most is not 0 .. 2000") (tm10 (List.mem_of_getElem? (i := 17) rfl))) (ar_9 (al_9 (ar_9 (ar_9 (al_9 (ar_9 (al_9 (ar_9 (ar_9 (ar_9 hn))))))))))) (fa_9 (st_str (hts (.stringRef "ChanceWorks" 316 "no such question") (tm10 (List.mem_of_getElem? (i := 65) rfl))) (ar_9 (al_9 (ar_9 (al_9 (al_9 (al_9 (ar_9 (ar_9 (ar_9 (ar_9 hn))))))))))) (fa_9 (st_str (hts (.stringRef "ChanceWorks" 318 "nothing is solved") (tm10 (List.mem_of_getElem? (i := 73) rfl))) (ar_9 (al_9 (al_9 (ar_9 (ar_9 (al_9 (ar_9 (ar_9 (ar_9 (ar_9 hn))))))))))) (fa_9 (st_str (hts (.stringRef "ChanceWorks" 323 "no such variable") (tm10 (List.mem_of_getElem? (i := 75) rfl))) (ar_9 (al_9 (ar_9 (ar_9 (al_9 (ar_9 (ar_9 (ar_9 (ar_9 (ar_9 hn))))))))))) f0_9))))))))))))))))))))))))))
set_option maxRecDepth 100000 in
set_option maxHeartbeats 4000000 in
theorem st_T {p : Program} {s : State} {m : MethodId} {meth : Method} {c : Code} {b L : Nat} {xs : Nat → Int32} (C0 : lw_At p s m meth c b L xs) : ∃ (sa : Nat → Nat) (v0 v1 v2 : Nat), dT (SLs sa (TLs sa v0 v1 v2)) s.heap.size s ∧ (sa 0 < s.heap.size ∧ sa 1 < s.heap.size ∧ sa 3 < s.heap.size) ∧ (v0 < s.heap.size ∧ v1 < s.heap.size ∧ v2 < s.heap.size) ∧ (sa 0 ≠ sa 1 ∧ sa 0 ≠ sa 3 ∧ sa 1 ≠ sa 3) ∧ (v0 ≠ v1 ∧ v0 ≠ v2 ∧ v1 ≠ v2) := by
  obtain ⟨a0, v0, r0, p0⟩ := st_s0 C0
  obtain ⟨a1, v1, r1, p1⟩ := st_s1 C0
  obtain ⟨a2, v2, r2, p2⟩ := st_s2 C0
  obtain ⟨sb, hsb⟩ := st_fun STs (st_ss C0)
  obtain ⟨hx, hb, hr, hml, hown, hts, hX, hbl, hlocks, hgv⟩ := C0
  have hn : narrow_1.before #[Value.ref b] s = true := ar_9 hgv
  have hA : ∀ a : Nat, a < s.heap.size → ¬ s.heap.size ≤ a := fun a h => Nat.not_le.mpr h
  have n01 : v0 ≠ v1 := fun e => by subst e; exact absurd (st_T1 p0.2.2.2 p1.2.2.2) (show ¬ Int32.ofNat bs0.length = Int32.ofNat bs1.length from by decide)
  have n02 : v0 ≠ v2 := fun e => by subst e; exact absurd (st_T1 p0.2.2.2 p2.2.2.2) (show ¬ Int32.ofNat bs0.length = Int32.ofNat bs2.length from by decide)
  have n12 : v1 ≠ v2 := fun e => by subst e; exact absurd (st_T1 p1.2.2.2 p2.2.2.2) (show ¬ Int32.ofNat bs1.length = Int32.ofNat bs2.length from by decide)
  have m01 : a0 ≠ a1 := fun e => by
    have e9 : a0 = a1 := e
    subst e9
    exact n01 (by have := st_T2 p0.2.2.1 p1.2.2.1; simpa using this)
  have m02 : a0 ≠ a2 := fun e => by
    have e9 : a0 = a2 := e
    subst e9
    exact n02 (by have := st_T2 p0.2.2.1 p2.2.2.1; simpa using this)
  have m12 : a1 ≠ a2 := fun e => by
    have e9 : a1 = a2 := e
    subst e9
    exact n12 (by have := st_T2 p1.2.2.1 p2.2.2.1; simpa using this)
  obtain ⟨f9, hf9⟩ : ∃ f9 : Nat, va_Z "jdk/internal/util/Preconditions" "SIOOBE_FORMATTER" "Ljava/util/function/BiFunction;" (if f9 = 0 then .null else .ref (f9 - 1)) (fun q => s.heap.size ≤ q) s s.heap := by
    rcases va_Zqof (hts (.laysStatic "jdk/internal/util/Preconditions" "SIOOBE_FORMATTER" "Ljava/util/function/BiFunction;") (tm4 (List.mem_of_getElem? (i := 113) rfl))) (hts (.initialized "jdk/internal/util/Preconditions") (tm1 (List.mem_of_getElem? (i := 25) rfl))) (ar_9 (ar_9 (al_9 (al_9 (al_9 (al_9 (al_9 (al_9 (al_9 (al_9 hn)))))))))) hA with h | ⟨t, h⟩
    · exact ⟨0, by rw [if_pos rfl]; exact h⟩
    · exact ⟨t + 1, by rw [if_neg (Nat.succ_ne_zero t)]; exact h⟩
  obtain ⟨sa, hsa⟩ : ∃ sa : Nat → Nat, sa = fun k => if k = 0 then a0 else if k = 1 then a1 else if k = 3 then a2 else if k = 99 then f9 else sb k := ⟨_, rfl⟩
  have s9 : sa 99 = f9 := by rw [hsa]; rfl
  have e9 : pvV sa = (if f9 = 0 then .null else .ref (f9 - 1)) := by unfold pvV; rw [s9]
  have s0 : sa 0 = a0 := by rw [hsa]; rfl
  have s1 : sa 1 = a1 := by rw [hsa]; rfl
  have s2 : sa 3 = a2 := by rw [hsa]; rfl
  have lt : ∀ {x : Nat × Nat × List Int32}, st_P x (fun q => s.heap.size ≤ q) s → x.1 < s.heap.size ∧ x.2.1 < s.heap.size := fun h => ⟨Nat.not_le.mp (by obtain ⟨⟨_, _, _, _, h⟩, -⟩ := h; exact h), Nat.not_le.mp h.2.2.2.out⟩
  refine ⟨sa, v0, v1, v2, ⟨vx_Zqof (hts (.laysStatic "java/lang/Throwable" "UNASSIGNED_STACK" "[Ljava/lang/StackTraceElement;") (tm5 (List.mem_of_getElem? (i := 22) rfl))) (hts (.initialized "java/lang/Throwable") (tm1 (List.mem_of_getElem? (i := 16) rfl))) (ar_9 (ar_9 (ar_9 (al_9 (al_9 (al_9 (al_9 (al_9 (al_9 (al_9 hn)))))))))) hA, vx_Zqof (hts (.laysStatic "java/lang/Throwable" "SUPPRESSED_SENTINEL" "Ljava/util/List;") (tm5 (List.mem_of_getElem? (i := 24) rfl))) (hts (.initialized "java/lang/Throwable") (tm1 (List.mem_of_getElem? (i := 16) rfl))) (al_9 (al_9 (al_9 (ar_9 (al_9 (al_9 (al_9 (al_9 (al_9 (al_9 hn)))))))))) hA, (fa_9 (va_Nw.of rfl (hts (.castable "java/lang/IllegalArgumentException" "java/lang/IllegalArgumentException") (tm5 (List.mem_of_getElem? (i := 137) rfl)))) (fa_9 (va_Nw.of rfl (hts (.castable "java/lang/IllegalStateException" "java/lang/IllegalStateException") (tm4 (List.mem_of_getElem? (i := 237) rfl)))) (fa_9 (va_Nw.of rfl (hts (.castable "java/lang/IndexOutOfBoundsException" "java/lang/IndexOutOfBoundsException") (tm7 (List.mem_of_getElem? (i := 47) rfl)))) (fa_9 (va_Nw.of rfl (hts (.castable "java/lang/UnsupportedOperationException" "java/lang/UnsupportedOperationException") (tm7 (List.mem_of_getElem? (i := 3) rfl)))) f0_9)))), (fa_9 (va_Nw.of rfl (hts (.declares (Bundle.initS "java/lang/RuntimeException")) (tm4 (List.mem_of_getElem? (i := 239) rfl)))) (fa_9 (va_Nw.of rfl (hts (.declares (Bundle.initS "java/lang/Exception")) (tm5 (List.mem_of_getElem? (i := 1) rfl)))) (fa_9 (va_Nw.of rfl (hts (.declares (Bundle.initS "java/lang/Throwable")) (tm5 (List.mem_of_getElem? (i := 3) rfl)))) f0_9))), (fa_9 (va_Nc.of (ar_9 (ar_9 (ar_9 (al_9 (al_9 (al_9 (al_9 (al_9 (ar_9 (al_9 hn))))))))))) (fa_9 (va_Nc.of (al_9 (al_9 (al_9 (al_9 (al_9 (ar_9 (ar_9 (ar_9 (al_9 (al_9 hn))))))))))) (fa_9 (va_Nc.of (ar_9 (ar_9 (al_9 (ar_9 (al_9 (al_9 (al_9 (al_9 (ar_9 (al_9 hn))))))))))) (fa_9 (va_Nc.of (al_9 (al_9 (ar_9 (al_9 (al_9 (ar_9 (ar_9 (ar_9 (al_9 (al_9 hn))))))))))) f0_9)))), ?_, ⟨va_Zof (hts (.laysStatic "java/lang/String" "COMPACT_STRINGS" "Z") (tm4 (List.mem_of_getElem? (i := 97) rfl))) (hts (.initialized "java/lang/String") (tm1 (List.mem_of_getElem? (i := 23) rfl))) (va_eqt (al_9 (ar_9 (al_9 (al_9 (al_9 (al_9 (al_9 (al_9 (al_9 (al_9 hn))))))))))) hA, by show va_Z _ _ _ (pvV sa) _ _ _; rw [e9]; exact hf9⟩, (fa_9 (va_Nw.of rfl (hts (.methodLinkNest "ChanceWorks$Calc" 105 ⟨"ChanceWorks", "commonLong", "(JJ)J"⟩ "ChanceWorks") (tm9 (List.mem_of_getElem? (i := 41) rfl)))) (fa_9 (va_Nw.of rfl (hts (.methodLinkNest "ChanceWorks$Solver" 145 ⟨"ChanceWorks", "commonInt", "(II)I"⟩ "ChanceWorks") (tm9 (List.mem_of_getElem? (i := 109) rfl)))) (fa_9 (va_Nw.of rfl (hts (.methodLinkNest "ChanceWorks$Ratio" 42 ⟨"ChanceWorks", "commonInt", "(II)I"⟩ "ChanceWorks") (tm9 (List.mem_of_getElem? (i := 151) rfl)))) f0_9))), ?_⟩, ?_, ⟨(lt p0).2, (lt p1).2, (lt p2).2⟩, ?_, n01, n02, n12⟩
  · intro x hx9
    obtain ⟨⟨z, k⟩, hz, rfl⟩ := List.mem_map.mp hx9
    have hz : STs[k]? = some z := List.mem_zipIdx_iff_getElem?.mp hz
    show vk_R z.1 z.2.1 z.2.2 (sa k) s
    rw [hsa]
    by_cases e0 : k = 0
    · subst e0; cases (Option.some.inj hz : _ = z); exact r0
    by_cases e1 : k = 1
    · subst e1; cases (Option.some.inj hz : _ = z); exact r1
    by_cases e2 : k = 3
    · subst e2; cases (Option.some.inj hz : _ = z); exact r2
    by_cases e3 : k = 99
    · subst e3; have hz9 : (none : Option (String × Nat × String)) = some z := hz; cases hz9
    · simp only [e0, e1, e2, e3, if_false]
      exact hsb k z hz
  · intro x hx9
    have hx9 : x ∈ [(sa 0, v0, bs0), (sa 1, v1, bs1), (sa 3, v2, bs2)] := hx9
    rw [s0, s1, s2] at hx9
    simp only [List.mem_cons, List.mem_nil_iff, or_false] at hx9
    rcases hx9 with rfl | rfl | rfl
    · exact p0
    · exact p1
    · exact p2
  · rw [s0, s1, s2]; exact ⟨(lt p0).1, (lt p1).1, (lt p2).1⟩
  · rw [s0, s1, s2]; exact ⟨m01, m02, m12⟩
