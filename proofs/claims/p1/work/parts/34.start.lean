/-! THE CLAIM OUT OF ONE WALK OF THE LAW'S BODY. Your part is whole_start (and what it stands on); all else here is the same for every law, but numbers. -/
def R_law : String := "ChanceWorksLaw"
def lw_P (b : Addr) (xs : List Int32) (args : Array Value) (s : State) : Prop := args = #[.ref b] ∧ s.IntsAt b xs ∧ xs.length ≤ 6 ∧ (Jvm.Cond.and given_1 narrow_1).before args s = true
def lw_Q (_ : Array Value) (s : State) (o : Outcome) (t : State) : Prop := o = .returned (some (.int 1)) ∧ Framed s o t [] 600002 7302232
def lw_Z (below : List Frame) (a : Array Value) (s : State) : State → Prop := fun t => ∃ o, t.status = .running ∧ Ended t below o ∧ lw_Q a s o t
/-- the law's own end, with 1 on the stack, nothing written that was there before, its room as the claim has it -/
theorem lw_ret {p : Program} {l : Launch} {e : Env} {s : State} {m : MethodId} {below : List Frame} {meth : Method} {c : Code} {b : Nat} (hx : p.tables.exec = Jvm.exec) (hb : c.code = code) (hr : meth.sig.returnType = ret) (hlocks : meth.locks = false) {pc : Nat} {H : Heap} {ls : Array Slot} (hdg : decode code pc = .ok (.ireturn, 1)) : W p l e room_1 s m #[Value.ref b] below meth c H [] 600002 7302232 (lw_Z below #[Value.ref b] s) (F0 m pc ls [.int 1]) := by
  intro T hT X
  obtain ⟨fs, hret, hrun, hended, hW, hframe⟩ := X.leave (v := some (.int 1)) (hlocks := hlocks) (fun h => by rw [hr] at h; cases h)
  have hmeth' : T.vm.method? m = some meth := X.method'
  refine ⟨T.setFrames fs, ?_, .returned (some (.int 1)), hrun, hended, rfl, ⟨_, rfl⟩, hW, hframe⟩
  jvm_step X.here [X.here.top, hx, hb, hdg, hmeth', hr, ret, narrow_b1]
  (try refine ⟨rfl, ?_⟩); (try refine ⟨rfl, ?_⟩)
  first | (intro acts; rw [hret _ acts rfl rfl rfl]) | rw [hret _ _ rfl rfl rfl]
  exact Steps.refl _
/-- what holds at the law's entry: the machine, the code, the tables' words (any of lw_tbl by 'hts w (by decide +kernel)'), the script of L ints xs at the cell b, what the Statement gives of the start (any of its parts by flat_of_before) -/
def lw_At (p : Program) (s : State) (m : MethodId) (meth : Method) (c : Code) (b L : Nat) (xs : Nat → Int32) : Prop :=
  p.tables.exec = Jvm.exec ∧ c.code = code ∧ meth.sig.returnType = ret ∧ c.maxLocals = 8 ∧ s.vm.findClass R_law = some m.cls ∧ (∀ w ∈ lw_tbl, w.before #[Value.ref b] s = true) ∧ va_X b L xs s s.heap ∧ b < s.heap.size ∧ meth.locks = false ∧ (Jvm.Cond.and given_1 narrow_1).before #[Value.ref b] s = true
set_option maxRecDepth 100000 in
set_option maxHeartbeats 4000000 in
theorem st_K {p : Program} {s : State} {m : MethodId} {meth : Method} {c : Code} {b L : Nat} {xs : Nat → Int32} (C0 : lw_At p s m meth c b L xs) : ∃ (D : va_G) (cy : Nat → ClassId), kK D cy s := by
  obtain ⟨hx, hb, hr, hml, hown, hts, hX, hbl, hlocks, hgv⟩ := C0
  obtain ⟨c0, i0, k0⟩ := u_known (C := RJ0) (T := TJ0) (N := 4) (n := 4) hts ux_J0 (hts (.instantiable RJ0 4) (List.mem_of_getElem? (i := 1496) rfl))
  obtain ⟨c1, i1, k1⟩ := u_known (C := RJ4) (T := TJ4) (N := 4) (n := 4) hts ux_J4 (hts (.instantiable RJ4 4) (List.mem_of_getElem? (i := 1352) rfl))
  obtain ⟨c2, i2, k2⟩ := u_known (C := RJx00060) (T := TJx00060) (N := 6) (n := 6) hts ux_Jx00060 (hts (.instantiable RJx00060 6) (List.mem_of_getElem? (i := 1556) rfl))
  obtain ⟨c3, i3, k3⟩ := u_known (C := RX0) (T := TX0) (N := 18) (n := 18) hts ux_X0 (hts (.instantiable RX0 18) (List.mem_of_getElem? (i := 553) rfl))
  obtain ⟨c4, i4, k4⟩ := u_known (C := RX1) (T := TX1) (N := 7) (n := 7) hts ux_X1 (hts (.instantiable RX1 7) (List.mem_of_getElem? (i := 755) rfl))
  obtain ⟨c5, i5, k5⟩ := u_known (C := RX2) (T := TX2) (N := 16) (n := 16) hts ux_X2 (hts (.instantiable RX2 16) (List.mem_of_getElem? (i := 323) rfl))
  obtain ⟨c6, i6, k6⟩ := u_known (C := RX3) (T := TX3) (N := 7) (n := 7) hts ux_X3 (hts (.instantiable RX3 7) (List.mem_of_getElem? (i := 634) rfl))
  obtain ⟨c7, i7, k7⟩ := u_known (C := RX4) (T := TX4) (N := 20) (n := 20) hts ux_X4 (hts (.instantiable RX4 20) (List.mem_of_getElem? (i := 467) rfl))
  obtain ⟨c8, i8, k8⟩ := u_known (C := RX5) (T := TX5) (N := 2) (n := 2) hts ux_X5 (hts (.instantiable RX5 2) (List.mem_of_getElem? (i := 761) rfl))
  obtain ⟨c9, i9, k9⟩ := u_known (C := RX6) (T := TX6) (N := 14) (n := 14) hts ux_X6 (hts (.instantiable RX6 14) (List.mem_of_getElem? (i := 906) rfl))
  obtain ⟨c10, i10, k10⟩ := u_known (C := RX7) (T := TX7) (N := 19) (n := 19) hts ux_X7 (hts (.instantiable RX7 19) (List.mem_of_getElem? (i := 400) rfl))
  obtain ⟨c11, i11, k11⟩ := u_known (C := RX8) (T := TX8) (N := 3) (n := 3) hts ux_X8 (hts (.instantiable RX8 3) (List.mem_of_getElem? (i := 813) rfl))
  obtain ⟨c12, i12, k12⟩ := u_known (C := RX9) (T := TX9) (N := 17) (n := 17) hts ux_X9 (hts (.instantiable RX9 17) (List.mem_of_getElem? (i := 804) rfl))
  obtain ⟨c13, i13, k13⟩ := u_known (C := RX10) (T := TX10) (N := 6) (n := 6) hts ux_X10 (hts (.instantiable RX10 6) (List.mem_of_getElem? (i := 291) rfl))
  obtain ⟨c14, i14, k14⟩ := u_known (C := RX11) (T := TX11) (N := 19) (n := 19) hts ux_X11 (hts (.instantiable RX11 19) (List.mem_of_getElem? (i := 559) rfl))
  obtain ⟨c15, i15, k15⟩ := u_known (C := RX12) (T := TX12) (N := 18) (n := 18) hts ux_X12 (hts (.instantiable RX12 18) (List.mem_of_getElem? (i := 283) rfl))
  obtain ⟨c16, i16, k16⟩ := u_known (C := RX13) (T := TX13) (N := 126) (n := 126) hts ux_X13 (hts (.instantiable RX13 126) (List.mem_of_getElem? (i := 2554) rfl))
  obtain ⟨a0, b0, d0, e0, f0, g0⟩ := Cond.arrayClass_spec (hts (.arrayClass .int) (List.mem_of_getElem? (i := 321) rfl))
  obtain ⟨a1, b1, d1, e1, f1, g1⟩ := Cond.arrayClass_spec (hts (.arrayClass .byte) (List.mem_of_getElem? (i := 320) rfl))
  obtain ⟨a2, b2, d2, e2, f2, g2⟩ := Cond.arrayClass_spec (hts (.arrayClass .long) (List.mem_of_getElem? (i := 779) rfl))
  obtain ⟨a3, b3, d3, e3, f3, g3⟩ := Cond.arrayClass_spec (hts (.arrayClass .boolean) (List.mem_of_getElem? (i := 465) rfl))
  have o4 := hts (.arrayOver (.object "ChanceWorks$Num")) (List.mem_of_getElem? (i := 843) rfl)
  obtain ⟨d4, a4, b4, h4, -, f4, g4, e4⟩ := Cond.arrayOver_spec o4
  have o5 := hts (.arrayOver (.object "ChanceWorks$Ratio")) (List.mem_of_getElem? (i := 810) rfl)
  obtain ⟨d5, a5, b5, h5, -, f5, g5, e5⟩ := Cond.arrayOver_spec o5
  refine ⟨(fun k => match k with | 0 => c0 | 1 => c1 | 2 => c2 | 3 => c3 | 4 => c4 | 5 => c5 | 6 => c6 | 7 => c7 | 8 => c8 | 9 => c9 | 10 => c10 | 11 => c11 | 12 => c12 | 13 => c13 | 14 => c14 | 15 => c15 | _ => c16, fun k => match k with | 0 => i0 | 1 => i1 | 2 => i2 | 3 => i3 | 4 => i4 | 5 => i5 | 6 => i6 | 7 => i7 | 8 => i8 | 9 => i9 | 10 => i10 | 11 => i11 | 12 => i12 | 13 => i13 | 14 => i14 | 15 => i15 | _ => i16), fun k => match k with | 0 => a0 | 1 => a1 | 2 => a2 | 3 => a3 | 4 => a4 | _ => a5, ⟨?_, ?_⟩, va_AO.of o4, va_AO.of o5⟩
  · intro k q hq
    match k, hq with
    | 0, hq => cases hq; exact k0
    | 1, hq => cases hq; exact k1
    | 2, hq => cases hq; exact k2
    | 3, hq => cases hq; exact k3
    | 4, hq => cases hq; exact k4
    | 5, hq => cases hq; exact k5
    | 6, hq => cases hq; exact k6
    | 7, hq => cases hq; exact k7
    | 8, hq => cases hq; exact k8
    | 9, hq => cases hq; exact k9
    | 10, hq => cases hq; exact k10
    | 11, hq => cases hq; exact k11
    | 12, hq => cases hq; exact k12
    | 13, hq => cases hq; exact k13
    | 14, hq => cases hq; exact k14
    | 15, hq => cases hq; exact k15
    | 16, hq => cases hq; exact k16
    | k + 17, hq => cases hq
  · intro k q hq
    match k, hq with
    | 0, hq => cases hq; exact ⟨fun n z => ⟨(fun y h => by cases h), b0, f0, d0, g0⟩, e0⟩
    | 1, hq => cases hq; exact ⟨fun n z => ⟨(fun y h => by cases h), b1, f1, d1, g1⟩, e1⟩
    | 2, hq => cases hq; exact ⟨fun n z => ⟨(fun y h => by cases h), b2, f2, d2, g2⟩, e2⟩
    | 3, hq => cases hq; exact ⟨fun n z => ⟨(fun y h => by cases h), b3, f3, d3, g3⟩, e3⟩
    | 4, hq => cases hq; exact ⟨fun n z => ⟨(fun y h => by cases h), b4, f4, d4, g4⟩, ⟨b4, d4, f4, g4, h4, e4⟩⟩
    | 5, hq => cases hq; exact ⟨fun n z => ⟨(fun y h => by cases h), b5, f5, d5, g5⟩, ⟨b5, d5, f5, g5, h5, e5⟩⟩
    | k + 6, hq => cases hq
theorem mb_p {α : Type} {P : α → Prop} {a : α} {l : List α} (h : P a) (t : ∀ x ∈ l, P x) : ∀ x ∈ a :: l, P x := fun x hx => (List.mem_cons.mp hx).elim (fun e => by rw [e]; exact h) (t x)
theorem st_str {s : State} {args : Array Value} {own tx : String} {k : Nat} (h1 : (Cond.stringRef own k tx).before args s = true) (h2 : (Cond.exactly (.string own k) "java/lang/String").before args s = true) : ∃ a, vk_R own k tx a s := by
  obtain ⟨b, cB, cellB, kB, hb, -⟩ := Cond.exactly_spec h2
  exact ⟨b, vk_R.of h1 hb⟩
set_option maxRecDepth 100000 in
set_option maxHeartbeats 4000000 in
theorem st_T {p : Program} {s : State} {m : MethodId} {meth : Method} {c : Code} {b L : Nat} {xs : Nat → Int32} (C0 : lw_At p s m meth c b L xs) : tK (fun q => s.heap.size ≤ q) s := by
  obtain ⟨hx, hb, hr, hml, hown, hts, hX, hbl, hlocks, hgv⟩ := C0
  have hs := flat_of_before _ hgv
  have hA : ∀ a : Nat, a < s.heap.size → ¬ s.heap.size ≤ a := fun a h => Nat.not_le.mpr h
  exact ⟨vx_Zqof (hts (.laysStatic "java/lang/Throwable" "UNASSIGNED_STACK" "[Ljava/lang/StackTraceElement;") (List.mem_of_getElem? (i := 1229) rfl)) (hts (.initialized "java/lang/Throwable") (List.mem_of_getElem? (i := 263) rfl)) (hs (.isRef (.static "java/lang/Throwable" "UNASSIGNED_STACK" "[Ljava/lang/StackTraceElement;")) (by decide +kernel)) hA, vx_Zqof (hts (.laysStatic "java/lang/Throwable" "SUPPRESSED_SENTINEL" "Ljava/util/List;") (List.mem_of_getElem? (i := 1231) rfl)) (hts (.initialized "java/lang/Throwable") (List.mem_of_getElem? (i := 263) rfl)) (hs (.isRef (.static "java/lang/Throwable" "SUPPRESSED_SENTINEL" "Ljava/util/List;")) (by decide +kernel)) hA, (mb_p (va_Nw.of rfl (hts (.castable "java/lang/IllegalArgumentException" "java/lang/IllegalArgumentException") (List.mem_of_getElem? (i := 1344) rfl))) (mb_p (va_Nw.of rfl (hts (.castable "java/lang/IllegalStateException" "java/lang/IllegalStateException") (List.mem_of_getElem? (i := 1204) rfl))) (mb_p (va_Nw.of rfl (hts (.castable "java/lang/IndexOutOfBoundsException" "java/lang/IndexOutOfBoundsException") (List.mem_of_getElem? (i := 1734) rfl))) (mb_p (va_Nw.of rfl (hts (.castable "java/lang/UnsupportedOperationException" "java/lang/UnsupportedOperationException") (List.mem_of_getElem? (i := 1690) rfl))) (fun _ h => nomatch h))))), (mb_p (va_Nw.of rfl (hts (.declares (Bundle.initS "java/lang/RuntimeException")) (List.mem_of_getElem? (i := 1206) rfl))) (mb_p (va_Nw.of rfl (hts (.declares (Bundle.initS "java/lang/Exception")) (List.mem_of_getElem? (i := 1208) rfl))) (mb_p (va_Nw.of rfl (hts (.declares (Bundle.initS "java/lang/Throwable")) (List.mem_of_getElem? (i := 1210) rfl))) (fun _ h => nomatch h)))), va_Nc.of (hs (.not (.castable "java/lang/IllegalStateException" "java/lang/IllegalArgumentException")) (by decide +kernel)), (mb_p (st_str (hts (.stringRef "ChanceWorks$Parser" 118 "a fault of the text") (List.mem_of_getElem? (i := 1245) rfl)) (hs (.exactly (.string "ChanceWorks$Parser" 118) "java/lang/String") (by decide +kernel))) (mb_p (st_str (hts (.stringRef "ChanceWorks" 107 "the tape is full") (List.mem_of_getElem? (i := 1697) rfl)) (hs (.exactly (.string "ChanceWorks" 107) "java/lang/String") (by decide +kernel))) (mb_p (st_str (hts (.stringRef "ChanceWorks" 120 "the tape has not so many bytes") (List.mem_of_getElem? (i := 1722) rfl)) (hs (.exactly (.string "ChanceWorks" 120) "java/lang/String") (by decide +kernel))) (mb_p (st_str (hts (.stringRef "ChanceWorks" 156 "no such count") (List.mem_of_getElem? (i := 1741) rfl)) (hs (.exactly (.string "ChanceWorks" 156) "java/lang/String") (by decide +kernel))) (mb_p (st_str (hts (.stringRef "ChanceWorks" 164 "there is no program") (List.mem_of_getElem? (i := 1765) rfl)) (hs (.exactly (.string "ChanceWorks" 164) "java/lang/String") (by decide +kernel))) (mb_p (st_str (hts (.stringRef "ChanceWorks" 167 "most is not 1 .. 1000") (List.mem_of_getElem? (i := 1767) rfl)) (hs (.exactly (.string "ChanceWorks" 167) "java/lang/String") (by decide +kernel))) (mb_p (st_str (hts (.stringRef "ChanceWorks" 177 "no such state or question") (List.mem_of_getElem? (i := 1971) rfl)) (hs (.exactly (.string "ChanceWorks" 177) "java/lang/String") (by decide +kernel))) (mb_p (st_str (hts (.stringRef "ChanceWorks" 203 "no such state, call or variable") (List.mem_of_getElem? (i := 2008) rfl)) (hs (.exactly (.string "ChanceWorks" 203) "java/lang/String") (by decide +kernel))) (mb_p (st_str (hts (.stringRef "ChanceWorks" 209 "no such state, next or question") (List.mem_of_getElem? (i := 2020) rfl)) (hs (.exactly (.string "ChanceWorks" 209) "java/lang/String") (by decide +kernel))) (mb_p (st_str (hts (.stringRef "ChanceWorks" 230 "no such ending or variable") (List.mem_of_getElem? (i := 2033) rfl)) (hs (.exactly (.string "ChanceWorks" 230) "java/lang/String") (by decide +kernel))) (mb_p (st_str (hts (.stringRef "ChanceWorks" 241 "no such state that chooses, or next") (List.mem_of_getElem? (i := 2042) rfl)) (hs (.exactly (.string "ChanceWorks" 241) "java/lang/String") (by decide +kernel))) (mb_p (st_str (hts (.stringRef "ChanceWorks" 246 "no such state that chooses") (List.mem_of_getElem? (i := 2050) rfl)) (hs (.exactly (.string "ChanceWorks" 246) "java/lang/String") (by decide +kernel))) (mb_p (st_str (hts (.stringRef "ChanceWorks" 248 "nothing is explored") (List.mem_of_getElem? (i := 2058) rfl)) (hs (.exactly (.string "ChanceWorks" 248) "java/lang/String") (by decide +kernel))) (mb_p (st_str (hts (.stringRef "ChanceWorks" 256 "no such kind") (List.mem_of_getElem? (i := 2332) rfl)) (hs (.exactly (.string "ChanceWorks" 256) "java/lang/String") (by decide +kernel))) (mb_p (st_str (hts (.stringRef "ChanceWorks" 261 "there is no such fraction now") (List.mem_of_getElem? (i := 2356) rfl)) (hs (.exactly (.string "ChanceWorks" 261) "java/lang/String") (by decide +kernel))) (mb_p (st_str (hts (.stringRef "ChanceWorks" 263 "no such ending or state") (List.mem_of_getElem? (i := 2357) rfl)) (hs (.exactly (.string "ChanceWorks" 263) "java/lang/String") (by decide +kernel))) (mb_p (st_str (hts (.stringRef "ChanceWorks" 286 "no such part") (List.mem_of_getElem? (i := 2391) rfl)) (hs (.exactly (.string "ChanceWorks" 286) "java/lang/String") (by decide +kernel))) (mb_p (st_str (hts (.stringRef "ChanceWorks" 300 "no such number") (List.mem_of_getElem? (i := 2404) rfl)) (hs (.exactly (.string "ChanceWorks" 300) "java/lang/String") (by decide +kernel))) (mb_p (st_str (hts (.stringRef "ChanceWorks" 308 "200 draws are told") (List.mem_of_getElem? (i := 2416) rfl)) (hs (.exactly (.string "ChanceWorks" 308) "java/lang/String") (by decide +kernel))) (mb_p (st_str (hts (.stringRef "ChanceWorks" 310 "most is not 0 .. 2000") (List.mem_of_getElem? (i := 2424) rfl)) (hs (.exactly (.string "ChanceWorks" 310) "java/lang/String") (by decide +kernel))) (mb_p (st_str (hts (.stringRef "ChanceWorks" 316 "no such question") (List.mem_of_getElem? (i := 2472) rfl)) (hs (.exactly (.string "ChanceWorks" 316) "java/lang/String") (by decide +kernel))) (mb_p (st_str (hts (.stringRef "ChanceWorks" 318 "nothing is solved") (List.mem_of_getElem? (i := 2480) rfl)) (hs (.exactly (.string "ChanceWorks" 318) "java/lang/String") (by decide +kernel))) (mb_p (st_str (hts (.stringRef "ChanceWorks" 323 "no such variable") (List.mem_of_getElem? (i := 2482) rfl)) (hs (.exactly (.string "ChanceWorks" 323) "java/lang/String") (by decide +kernel))) (fun _ h => nomatch h))))))))))))))))))))))))⟩
