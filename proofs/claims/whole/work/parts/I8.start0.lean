/-! THE CLAIM OUT OF ONE WALK OF THE LAW'S BODY. Your part is whole_start (and what it stands on); all else here is the same for every law, but numbers. -/
def R_law : String := "ChanceWorksLaw"
def lw_P (b : Addr) (xs : List Int32) (args : Array Value) (s : State) : Prop := args = #[.ref b] ∧ s.IntsAt b xs ∧ xs.length ≤ 3072 ∧ (Jvm.Cond.and given_1 narrow_1).before args s = true
def lw_Q (_ : Array Value) (s : State) (o : Outcome) (t : State) : Prop := o = .returned (some (.int 1)) ∧ Framed s o t [] 601024 7293034
def lw_Z (below : List Frame) (a : Array Value) (s : State) : State → Prop := fun t => ∃ o, t.status = .running ∧ Ended t below o ∧ lw_Q a s o t
/-- the law's own end, with 1 on the stack, nothing written that was there before, its room as the claim has it -/
theorem lw_ret {p : Program} {l : Launch} {e : Env} {s : State} {m : MethodId} {below : List Frame} {meth : Method} {c : Code} {b : Nat} (hx : p.tables.exec = Jvm.exec) (hb : c.code = code) (hr : meth.sig.returnType = ret) (hlocks : meth.locks = false) {pc : Nat} {H : Heap} {ls : Array Slot} (hdg : decode code pc = .ok (.ireturn, 1)) : W p l e room_1 s m #[Value.ref b] below meth c H [] 601024 7293034 (lw_Z below #[Value.ref b] s) (F0 m pc ls [.int 1]) := by
  intro T hT X
  obtain ⟨fs, hret, hrun, hended, hW, hframe⟩ := X.leave (v := some (.int 1)) (hlocks := hlocks) (fun h => by rw [hr] at h; cases h)
  have hmeth' : T.vm.method? m = some meth := X.method'
  refine ⟨T.setFrames fs, ?_, .returned (some (.int 1)), hrun, hended, rfl, ⟨_, rfl⟩, hW, hframe⟩
  jvm_step X.here [X.here.top, hx, hb, hdg, hmeth', hr, ret, narrow_b1]
  (try refine ⟨rfl, ?_⟩); (try refine ⟨rfl, ?_⟩)
  first | (intro acts; rw [hret _ acts rfl rfl rfl]) | rw [hret _ _ rfl rfl rfl]
  exact Steps.refl _
/-- what holds at the law's entry: the machine, the code, the tables' words (any of lw_tbl by 'hts w (by decide +kernel)'), the script of L ints xs at the cell b, what the Statement gives of the start (any of its parts by flat_of_before) -/
def lw_At (p : Program) (s : State) (m : MethodId) (meth : Method) (c : Code) (b L : Nat) (xs : Nat → Int32) : Prop :=
  p.tables.exec = Jvm.exec ∧ c.code = code ∧ meth.sig.returnType = ret ∧ c.maxLocals = 8 ∧ s.vm.findClass R_law = some m.cls ∧ (∀ w ∈ lw_tbl, w.before #[Value.ref b] s = true) ∧ va_X b L xs s s.heap ∧ b < s.heap.size ∧ meth.locks = false ∧ (Jvm.Cond.and given_1 narrow_1).before #[Value.ref b] s = true

set_option maxRecDepth 100000 in
set_option maxHeartbeats 4000000 in
theorem st_K {p : Program} {s : State} {m : MethodId} {meth : Method} {c : Code} {b L : Nat} {xs : Nat → Int32} (C0 : lw_At p s m meth c b L xs) : ∃ (D : va_G) (cy : Nat → ClassId), dK D vwCl cy s := by
  obtain ⟨hx, hb, hr, hml, hown, hts, hX, hbl, hlocks, hgv⟩ := C0
  obtain ⟨c0, i0, k0⟩ := u_known (C := RJ0) (T := TJ0) (N := 4) (n := 4) hts ux_J0 (hts (.instantiable RJ0 4) (tm6 (List.mem_of_getElem? (i := 49) rfl)))
  obtain ⟨c1, i1, k1⟩ := u_known (C := RJ4) (T := TJ4) (N := 4) (n := 4) hts ux_J4 (hts (.instantiable RJ4 4) (tm5 (List.mem_of_getElem? (i := 145) rfl)))
  obtain ⟨c2, i2, k2⟩ := u_known (C := RJx00060) (T := TJx00060) (N := 6) (n := 6) hts ux_Jx00060 (hts (.instantiable RJx00060 6) (tm6 (List.mem_of_getElem? (i := 109) rfl)))
  obtain ⟨c3, i3, k3⟩ := u_known (C := RX0) (T := TX0) (N := 18) (n := 18) hts ux_X0 (hts (.instantiable RX0 18) (tm2 (List.mem_of_getElem? (i := 66) rfl)))
  obtain ⟨c4, i4, k4⟩ := u_known (C := RX1) (T := TX1) (N := 7) (n := 7) hts ux_X1 (hts (.instantiable RX1 7) (tm3 (List.mem_of_getElem? (i := 28) rfl)))
  obtain ⟨c5, i5, k5⟩ := u_known (C := RX2) (T := TX2) (N := 16) (n := 16) hts ux_X2 (hts (.instantiable RX2 16) (tm1 (List.mem_of_getElem? (i := 76) rfl)))
  obtain ⟨c6, i6, k6⟩ := u_known (C := RX3) (T := TX3) (N := 7) (n := 7) hts ux_X3 (hts (.instantiable RX3 7) (tm2 (List.mem_of_getElem? (i := 147) rfl)))
  obtain ⟨c7, i7, k7⟩ := u_known (C := RX4) (T := TX4) (N := 20) (n := 20) hts ux_X4 (hts (.instantiable RX4 20) (tm1 (List.mem_of_getElem? (i := 220) rfl)))
  obtain ⟨c8, i8, k8⟩ := u_known (C := RX5) (T := TX5) (N := 2) (n := 2) hts ux_X5 (hts (.instantiable RX5 2) (tm3 (List.mem_of_getElem? (i := 34) rfl)))
  obtain ⟨c9, i9, k9⟩ := u_known (C := RX6) (T := TX6) (N := 14) (n := 14) hts ux_X6 (hts (.instantiable RX6 14) (tm3 (List.mem_of_getElem? (i := 179) rfl)))
  obtain ⟨c10, i10, k10⟩ := u_known (C := RX7) (T := TX7) (N := 19) (n := 19) hts ux_X7 (hts (.instantiable RX7 19) (tm1 (List.mem_of_getElem? (i := 153) rfl)))
  obtain ⟨c11, i11, k11⟩ := u_known (C := RX8) (T := TX8) (N := 3) (n := 3) hts ux_X8 (hts (.instantiable RX8 3) (tm3 (List.mem_of_getElem? (i := 86) rfl)))
  obtain ⟨c12, i12, k12⟩ := u_known (C := RX9) (T := TX9) (N := 17) (n := 17) hts ux_X9 (hts (.instantiable RX9 17) (tm3 (List.mem_of_getElem? (i := 77) rfl)))
  obtain ⟨c13, i13, k13⟩ := u_known (C := RX10) (T := TX10) (N := 6) (n := 6) hts ux_X10 (hts (.instantiable RX10 6) (tm1 (List.mem_of_getElem? (i := 44) rfl)))
  obtain ⟨c14, i14, k14⟩ := u_known (C := RX11) (T := TX11) (N := 19) (n := 19) hts ux_X11 (hts (.instantiable RX11 19) (tm2 (List.mem_of_getElem? (i := 72) rfl)))
  obtain ⟨c15, i15, k15⟩ := u_known (C := RX12) (T := TX12) (N := 18) (n := 18) hts ux_X12 (hts (.instantiable RX12 18) (tm1 (List.mem_of_getElem? (i := 36) rfl)))
  obtain ⟨c16, i16, k16⟩ := u_known (C := RX13) (T := TX13) (N := 126) (n := 126) hts ux_X13 (hts (.instantiable RX13 126) (tm10 (List.mem_of_getElem? (i := 147) rfl)))
  obtain ⟨a0, b0, d0, e0, f0_9, g0⟩ := Cond.arrayClass_spec (hts (.arrayClass .int) (tm1 (List.mem_of_getElem? (i := 74) rfl)))
  obtain ⟨a1, b1, d1, e1, f1, g1⟩ := Cond.arrayClass_spec (hts (.arrayClass .byte) (tm1 (List.mem_of_getElem? (i := 73) rfl)))
  obtain ⟨a2, b2, d2, e2, f2, g2⟩ := Cond.arrayClass_spec (hts (.arrayClass .long) (tm3 (List.mem_of_getElem? (i := 52) rfl)))
  obtain ⟨a3, b3, d3, e3, f3, g3⟩ := Cond.arrayClass_spec (hts (.arrayClass .boolean) (tm1 (List.mem_of_getElem? (i := 218) rfl)))
  have o4 := (hts (.arrayOver (.object "ChanceWorks$Num")) (tm3 (List.mem_of_getElem? (i := 116) rfl)))
  obtain ⟨d4, a4, b4, h4, -, f4, g4, e4⟩ := Cond.arrayOver_spec o4
  have o5 := (hts (.arrayOver (.object "ChanceWorks$Ratio")) (tm3 (List.mem_of_getElem? (i := 83) rfl)))
  obtain ⟨d5, a5, b5, h5, -, f5, g5, e5⟩ := Cond.arrayOver_spec o5
  refine ⟨(fun k => match k with | 0 => c0 | 1 => c1 | 2 => c2 | 3 => c3 | 4 => c4 | 5 => c5 | 6 => c6 | 7 => c7 | 8 => c8 | 9 => c9 | 10 => c10 | 11 => c11 | 12 => c12 | 13 => c13 | 14 => c14 | 15 => c15 | _ => c16, fun k => match k with | 0 => i0 | 1 => i1 | 2 => i2 | 3 => i3 | 4 => i4 | 5 => i5 | 6 => i6 | 7 => i7 | 8 => i8 | 9 => i9 | 10 => i10 | 11 => i11 | 12 => i12 | 13 => i13 | 14 => i14 | 15 => i15 | _ => i16), fun k => match k with | 0 => a0 | 1 => a1 | 2 => a2 | 3 => a3 | 4 => a4 | _ => a5, ⟨?_, ?_⟩, va_AO.of o4, va_AO.of o5⟩
  · intro k q hq
    match k, hq with
    | 0, hq => cases hq; exact k0
    | 1, hq => cases hq; exact k1
    | 2, hq => cases hq; exact k2
    | 3, hq => cases hq; exact k3
    | 4, hq => cases hq; exact k4
    | 5, hq => cases hq; exact k5
    | 6, hq => cases hq; exact k6
    | 7, hq => cases hq; exact k7
    | 8, hq => cases hq; exact k8
    | 9, hq => cases hq; exact k9
    | 10, hq => cases hq; exact k10
    | 11, hq => cases hq; exact k11
    | 12, hq => cases hq; exact k12
    | 13, hq => cases hq; exact k13
    | 14, hq => cases hq; exact k14
    | 15, hq => cases hq; exact k15
    | 16, hq => cases hq; exact k16
    | k + 17, hq => cases hq
  · intro k q hq
    match k, hq with
    | 0, hq => cases hq; exact ⟨fun n z => ⟨(fun y h => by cases h), b0, f0_9, d0, g0⟩, e0⟩
    | 1, hq => cases hq; exact ⟨fun n z => ⟨(fun y h => by cases h), b1, f1, d1, g1⟩, e1⟩
    | 2, hq => cases hq; exact ⟨fun n z => ⟨(fun y h => by cases h), b2, f2, d2, g2⟩, e2⟩
    | 3, hq => cases hq; exact ⟨fun n z => ⟨(fun y h => by cases h), b3, f3, d3, g3⟩, e3⟩
    | 4, hq => cases hq; exact ⟨fun n z => ⟨(fun y h => by cases h), b4, f4, d4, g4⟩, ⟨b4, d4, f4, g4, h4, e4⟩⟩
    | 5, hq => cases hq; exact ⟨fun n z => ⟨(fun y h => by cases h), b5, f5, d5, g5⟩, ⟨b5, d5, f5, g5, h5, e5⟩⟩
    | k + 6, hq => cases hq
def bs0 : List Int32 := [118, 97, 114, 32, 97, 114, 114, 32, 102, 117, 110, 99, 32, 108, 111, 99, 97, 108, 32, 105, 102, 32, 101, 108, 115, 101, 32, 119, 104, 105, 108, 101, 32, 114, 101, 116, 117, 114, 110, 32, 111, 98, 115, 101, 114, 118, 101, 32, 103, 97, 105, 110, 32, 112, 105, 99, 107, 32, 102, 108, 105, 112, 32, 99, 104, 111, 111, 115, 101, 32]
def bs1 : List Int32 := [40, 41, 123, 125, 91, 93, 59, 44, 58, 126, 61, 60, 62, 43, 45, 42, 47, 37, 38, 124, 33]
def bs2 : List Int32 := [109, 97, 105, 110]
def TLs (sa : Nat → Nat) (v0 v1 v2 : Nat) : List (Nat × Nat × List Int32) := [(sa 0, v0, bs0), (sa 1, v1, bs1), (sa 3, v2, bs2)]
theorem st_str {s : State} {args : Array Value} {own tx : String} {k : Nat} (h1 : (Cond.stringRef own k tx).before args s = true) (h2 : (Cond.exactly (.string own k) "java/lang/String").before args s = true) : ∃ a, vk_R own k tx a s := by
  obtain ⟨b, cB, cellB, kB, hb, -⟩ := Cond.exactly_spec h2
  exact ⟨b, vk_R.of h1 hb⟩
theorem st_fun {s : State} : ∀ l : List (String × Nat × String), (∀ z ∈ l, ∃ a, vk_R z.1 z.2.1 z.2.2 a s) → ∃ sa : Nat → Nat, ∀ (k : Nat) z, l[k]? = some z → vk_R z.1 z.2.1 z.2.2 (sa k) s := by
  intro l
  induction l with
  | nil => intro _; exact ⟨fun _ => 0, fun k z h => by cases h⟩
  | cons y t ih =>
    intro h
    obtain ⟨sa, hsa⟩ := ih (fun z hz => h z (List.mem_cons_of_mem _ hz))
    obtain ⟨a, ha⟩ := h y List.mem_cons_self
    refine ⟨fun k => match k with | 0 => a | k + 1 => sa k, fun k z hz => ?_⟩
    match k, hz with
    | 0, hz => cases hz; exact ha
    | k + 1, hz => exact hsa k z hz
theorem st_T1 {ty : FieldType} {t N1 N2 : Nat} {f g : Nat → Value} {A : Nat → Prop} {U : State} {H : Heap} (h1 : va_T ty t N1 f A U H) (h2 : va_T ty t N2 g A U H) : Int32.ofNat N1 = Int32.ofNat N2 := by
  obtain ⟨c1, a1, -, -, -, a2, -⟩ := h1
  obtain ⟨c2, b1, -, -, -, b2, -⟩ := h2
  cases Option.some.inj (a1.symm.trans b1)
  exact a2.symm.trans b2
theorem st_T2 {o n d : String} {v w : Value} {t : Nat} {A : Nat → Prop} {U : State} {H : Heap} (h1 : va_OF o n d v t A U H) (h2 : va_OF o n d w t A U H) : v = w := by
  obtain ⟨cf, k, i, f, cell, a1, a2, a3, a4, a5, -⟩ := h1
  obtain ⟨cf', k', i', f', cell', b1, b2, b3, b4, b5, -⟩ := h2
  cases Option.some.inj (a3.symm.trans b3)
  have e := Option.some.inj (a1.symm.trans b1)
  cases e
  exact Option.some.inj (a5.symm.trans b5)
def st_P (x : Nat × Nat × List Int32) (A : Nat → Prop) (s : State) : Prop := va_O "java/lang/String" x.1 A s s.heap ∧ va_OF "java/lang/String" "coder" "B" (.int 0) x.1 A s s.heap ∧ va_OF "java/lang/String" "value" "[B" (.ref x.2.1) x.1 A s s.heap ∧ va_T .byte x.2.1 x.2.2.length (fun j => .int (x.2.2.getD j 0)) A s s.heap
theorem st_S {s : State} {args : Array Value} {own tx : String} {k : Nat} {bs : List Int32} (hN : bs.length < 2 ^ 31) (h1 : (Cond.stringRef own k tx).before args s = true) (hex : (Cond.exactly (.string own k) "java/lang/String").before args s = true) (hco : (Cond.eq (.field (.string own k) "java/lang/String" "coder" "B") (.int 0)).before args s = true) (har : (Cond.arrayOf (.field (.string own k) "java/lang/String" "value" "[B") .byte).before args s = true) (hle : (Cond.eq (.length (.field (.string own k) "java/lang/String" "value" "[B")) (.int (Int32.ofNat bs.length))).before args s = true)
    (hel : ∀ j : Nat, j < bs.length → (Cond.eq (.elem (.field (.string own k) "java/lang/String" "value" "[B") (.int (Int32.ofNat j))) (.int (bs.getD j 0))).before args s = true) : ∃ a v, vk_R own k tx a s ∧ st_P (a, v, bs) (fun q => s.heap.size ≤ q) s := by
  have i0 : ∀ {Q : Nat → Prop}, Q 0 → ∀ i : Nat, i < 1 → Q i := fun {Q} hq i hi => by
    have e9 : i = 0 := by omega
    rw [e9]; exact hq
  obtain ⟨adK, adV, hS, hE⟩ := vk_Sof (N := 1) (tm := fun _ => .string own k) (len := [bs.length]) (byt := [bs]) (A := fun q => s.heap.size ≤ q) (i0 hN) (fun _ _ => hex) (fun _ _ => hco) (fun _ _ => har) (i0 hle) (i0 hel) (fun i j hi hj hij => absurd (by omega) hij) (fun a h => Nat.not_le.mpr h)
  exact ⟨adK 0, adV 0, vk_R.of h1 (hE 0 (by omega)), hS.1 0 (by omega)⟩
theorem faN {P : Nat → Prop} : ∀ (n : Nat), (∀ j, j < n → P j) → P n → ∀ j, j < n + 1 → P j := fun n h hn j hj => if e : j = n then e ▸ hn else h j (by omega)
theorem al_9 {a b : Cond} {args : Array Value} {s : State} (h : (Jvm.Cond.and a b).before args s = true) : a.before args s = true := by
  rw [Cond.before_and, Bool.and_eq_true] at h
  exact h.1
theorem ar_9 {a b : Cond} {args : Array Value} {s : State} (h : (Jvm.Cond.and a b).before args s = true) : b.before args s = true := by
  rw [Cond.before_and, Bool.and_eq_true] at h
  exact h.2
theorem faZ {P : Nat → Prop} : ∀ j, j < 0 → P j := fun j hj => absurd hj (by omega)
