/-! what a run of the small machine tells of the kit's machine -/
def exs : List String := ["java/lang/IllegalArgumentException", "java/lang/IllegalStateException", "java/lang/IndexOutOfBoundsException", "java/lang/UnsupportedOperationException"]
def sups : List String := ["java/lang/RuntimeException", "java/lang/Exception", "java/lang/Throwable"]
def ncs : List (String × String) := [("java/lang/IllegalStateException", "java/lang/IllegalArgumentException"), ("java/lang/IllegalArgumentException", "java/lang/IllegalStateException"), ("java/lang/IndexOutOfBoundsException", "java/lang/IllegalArgumentException"), ("java/lang/IndexOutOfBoundsException", "java/lang/IllegalStateException")]
/-- links of private methods of the class's host -/
def nls : List (String × Nat × MethodName × String) := [("ChanceWorks$Calc", 105, ⟨"ChanceWorks", "commonLong", "(JJ)J"⟩, "ChanceWorks"), ("ChanceWorks$Solver", 145, ⟨"ChanceWorks", "commonInt", "(II)I"⟩, "ChanceWorks"), ("ChanceWorks$Ratio", 42, ⟨"ChanceWorks", "commonInt", "(II)I"⟩, "ChanceWorks")]
/-- texts that are loaded (class, entry, address, text), and what a static of the JDK's checks holds; texts that are read (the object, its row, its bytes) -/
abbrev dSL : Type := (List (String × Nat × Nat × String) × Value) × List (Nat × Nat × List Int32)
/-- what holds of a state all through, beside the tables: Throwable's two statics, the exceptions' classes, the texts (class, entry, address, text), String's static -/
def dT (SL : dSL) (b : Nat) (U : State) : Prop := vx_Zq Bundle.tN "UNASSIGNED_STACK" Bundle.steD (fun q => b ≤ q) U U.heap ∧ vx_Zq Bundle.tN "SUPPRESSED_SENTINEL" Bundle.listD (fun q => b ≤ q) U U.heap ∧ (∀ X ∈ exs, va_Nw (.castable X X) U) ∧ (∀ Y ∈ sups, va_Nw (.declares (Bundle.initS Y)) U) ∧ (∀ x ∈ ncs, va_Nc x.1 x.2 U) ∧ (∀ x ∈ SL.1.1, vk_R x.1 x.2.1 x.2.2.2 x.2.2.1 U) ∧ (va_Z "java/lang/String" "COMPACT_STRINGS" "Z" (.int 1) (fun q => b ≤ q) U U.heap ∧ va_Z "jdk/internal/util/Preconditions" "SIOOBE_FORMATTER" "Ljava/util/function/BiFunction;" SL.1.2 (fun q => b ≤ q) U U.heap) ∧ (∀ x ∈ nls, va_Nw (.methodLinkNest x.1 x.2.1 x.2.2.1 x.2.2.2) U) ∧ ∀ x ∈ SL.2, va_O "java/lang/String" x.1 (fun q => b ≤ q) U U.heap ∧ va_OF "java/lang/String" "coder" "B" (.int 0) x.1 (fun q => b ≤ q) U U.heap ∧ va_OF "java/lang/String" "value" "[B" (.ref x.2.1) x.1 (fun q => b ≤ q) U U.heap ∧ va_T .byte x.2.1 x.2.2.length (fun j => .int (x.2.2.getD j 0)) (fun q => b ≤ q) U U.heap
theorem dT.at {SL : dSL} {b : Nat} {s U : State} {H : Heap} {locs : List Loc} (h : dT SL b s) (hS : va_S (fun q => b ≤ q) s.heap H locs) (hU : U.heap = H) (hW : s.WarmedH U.vm) : dT SL b U := by
  obtain ⟨h1, h2, h3, h6, h4, h5, h7, h8, h9⟩ := h
  refine ⟨?_, ?_, fun X hX => va_Nw.warmC hW (h3 X hX), fun X hX => va_Nw.warmD hW (h6 X hX), fun x hx => va_Nc.moved hW.alike (h4 x hx), fun x hx => vk_R.warm hW (h5 x hx), ?_, fun x hx => va_Nw.warmM hW (h8 x hx), fun x hx => ?_⟩
  · rw [hU]; exact vx_Zq.moved hW.alike (h1.kept hS.2.1)
  · rw [hU]; exact vx_Zq.moved hW.alike (h2.kept hS.2.1)
  · rw [hU]; exact ⟨va_Z.moved hW.alike (h7.1.kept hS.2.1), va_Z.moved hW.alike (h7.2.kept hS.2.1)⟩
  · obtain ⟨a1, a2, a3, a4⟩ := h9 x hx
    rw [hU]; exact ⟨va_O.moved hW.alike (a1.kept hS.2.1), va_OF.moved hW.alike (a2.kept hS.2.1), va_OF.moved hW.alike (a3.kept hS.2.1), va_T.moved hW.alike (a4.kept hS.2.1)⟩
theorem dT.same {SL : dSL} {b : Nat} {u U : State} (hv : U.vm = u.vm) (hh : U.heap = u.heap) (h : dT SL b u) : dT SL b U := by
  obtain ⟨h1, h2, h3, h6, h4, h5, h7, h8, h9⟩ := h
  have ha : u.vm.Alike U.vm := by rw [hv]; exact Vm.Alike.refl _
  refine ⟨?_, ?_, fun X hX => va_Nw.same rfl hv.symm (h3 X hX), fun X hX => va_Nw.same rfl hv.symm (h6 X hX), fun x hx => va_Nc.moved ha (h4 x hx), fun x hx => vk_R.same hv (h5 x hx), ?_, fun x hx => va_Nw.same rfl hv.symm (h8 x hx), fun x hx => ?_⟩
  · rw [hh]; exact vx_Zq.moved ha h1
  · rw [hh]; exact vx_Zq.moved ha h2
  · rw [hh]; exact ⟨va_Z.moved ha h7.1, va_Z.moved ha h7.2⟩
  · obtain ⟨a1, a2, a3, a4⟩ := h9 x hx
    rw [hh]; exact ⟨va_O.moved ha a1, va_OF.moved ha a2, va_OF.moved ha a3, va_T.moved ha a4⟩
/-- what is built in: the words that each wants -/
def dBW (own : String) (idx : Nat) : Nat → List Cond
  | 0 => [.methodLink own idx objectInit, .instanceMethod objectInit, .code objectInit ⟨#[0xb1]⟩ 1 none]
  | 1 => [.methodLink own idx Lib.Math.min.name, .static Lib.Math.min.name, .initialized "java/lang/Math", .code Lib.Math.min.name Lib.Math.min.code 2 (some .int)]
  | 2 => [.methodLink own idx Lib.Math.max.name, .static Lib.Math.max.name, .initialized "java/lang/Math", .code Lib.Math.max.name Lib.Math.max.code 2 (some .int)]
  | 3 => [.methodLink own idx Lib.MathLoose.min_long.x, .static Lib.MathLoose.min_long.x, .initialized "java/lang/Math", .code Lib.MathLoose.min_long.x Lib.MathLoose.min_long.code 4 (some .long)]
  | 4 => [.methodLink own idx Lib.MathLoose.abs_long.x, .static Lib.MathLoose.abs_long.x, .initialized "java/lang/Math", .code Lib.MathLoose.abs_long.x Lib.MathLoose.abs_long.code 2 (some .long)]
  | 5 => [.methodLink own idx arraycopyName, .native arraycopyName, .static arraycopyName, .initialized "java/lang/System"]
  | _ => []
def dOKf (E : dE) (cl : List vw_C) (GW : List Cond) (own : String) (idx ci k : Nat) : Prop :=
  ∃ (C : String) (T : u_T) (N : Nat) (ty0 : Nat → FieldType), cl[ci]? = some (C, T, N) ∧ k < N ∧ (T k).1 = C ∧ Cond.fieldLink own idx C (T k).2.1 (T k).2.2.1 ∈ GW ∧ (∀ w ∈ u_ws C T N, w ∈ GW) ∧ (∀ k, k < N → parseFieldDescriptor (T k).2.2.1 = some (ty0 k)) ∧
    (∀ a, a < N → ∀ b, b < N → a ≠ b → (T a).2.1 ≠ (T b).2.1) ∧ ∀ ty fin, eFT E ci k = some (ty, fin) → parseFieldDescriptor (T k).2.2.1 = some ty ∧ (T k).2.2.2 = fin
def dOKn (E : dE) (cl : List vw_C) (GW : List Cond) (own : String) (idx ci : Nat) : Prop :=
  ∀ fs, eND E ci = some fs → ∃ (C : String) (T : u_T) (N : Nat) (ty0 : Nat → FieldType), cl[ci]? = some (C, T, N) ∧ (∀ w ∈ u_ws C T N, w ∈ GW) ∧ (∀ k, k < N → parseFieldDescriptor (T k).2.2.1 = some (ty0 k)) ∧ Cond.classLink own idx C ∈ GW ∧ Cond.instantiable C N ∈ GW ∧ Cond.initialized C ∈ GW ∧ fs = (List.range N).map fun k => defaultValue (ty0 k)
def dOKr (E : dE) (cl : List vw_C) (GW : List Cond) (SL : dSL) (r : dM) : Prop :=
  plainName r.1.cls = true ∧ Cond.initialized r.1.cls ∈ GW ∧
  (r.1.cls ≠ "java/lang/invoke/MethodHandle" ∧ r.1.cls ≠ "java/lang/invoke/VarHandle" ∧ (parseMethodDescriptor r.1.desc).map (fun d => d.parameters.length) = some r.2.2.2.2.2.2) ∧ r.2.2.1 ≤ 81 ∧
  (r.2.2.2.2.1 = true → r.1.name ≠ "<init>") ∧
  (r.2.2.2.2.1 = false → Cond.instanceMethod r.1 ∈ GW ∧ (r.1.name ≠ "<init>" → Cond.selects r.1.cls r.1 r.1 ∈ GW) ∧ ∃ (T : u_T) (N : Nat), cl[r.2.2.2.2.2.1]? = some (r.1.cls, T, N)) ∧
  (∀ idx ci k, eFL E r.2.2.2.2.2.1 idx = some (ci, k) → dOKf E cl GW r.1.cls idx ci k) ∧
  (∀ idx j r', eML E r.2.2.2.2.2.1 idx = some j → eMT E j = some r' → Cond.methodLink r.1.cls idx r'.1 ∈ GW ∨ (r'.2.2.2.2.1 = true ∧ ∃ host, (r.1.cls, idx, r'.1, host) ∈ nls)) ∧
  (∀ idx v, eCN E r.2.2.2.2.2.1 idx = some v → Cond.constant r.1.cls idx v ∈ GW) ∧
  (∀ idx v, eCL E r.2.2.2.2.2.1 idx = some v → Cond.constantLong r.1.cls idx v ∈ GW) ∧
  (∀ idx ci, eNW E r.2.2.2.2.2.1 idx = some ci → dOKn E cl GW r.1.cls idx ci) ∧
  (∀ idx t, eAN E r.2.2.2.2.2.1 idx = some t → ∃ C : String, dty t = some (.object C) ∧ (C = "ChanceWorks$Num" ∨ C = "ChanceWorks$Ratio") ∧ Cond.classLink r.1.cls idx C ∈ GW) ∧
  (∀ idx k, eBI E r.2.2.2.2.2.1 idx = some k → ∀ w ∈ dBW r.1.cls idx k, w ∈ GW) ∧
  (∀ idx q, eSR E r.2.2.2.2.2.1 idx = some q → ∃ tx, (r.1.cls, idx, q, tx) ∈ SL.1.1) ∧
  (∀ idx v, eGS E r.2.2.2.2.2.1 idx = some v → (v = .int 1 ∧ Cond.fieldLink r.1.cls idx "java/lang/String" "COMPACT_STRINGS" "Z" ∈ GW) ∨ (v = SL.1.2 ∧ Cond.fieldLink r.1.cls idx "jdk/internal/util/Preconditions" "SIOOBE_FORMATTER" "Ljava/util/function/BiFunction;" ∈ GW)) ∧
  (∀ idx, (eSF E r.2.2.2.2.2.1 idx = some true → Cond.fieldLink r.1.cls idx "java/lang/String" "value" "[B" ∈ GW) ∧ (eSF E r.2.2.2.2.2.1 idx = some false → Cond.fieldLink r.1.cls idx "java/lang/String" "coder" "B" ∈ GW))
def dOKm (E : dE) (cl : List vw_C) (GW : List Cond) (SL : dSL) (r : dM) : Prop := (Cond.code r.1 r.2.1 r.2.2.1 r.2.2.2.1 ∈ GW ∧ (r.2.2.2.2.1 = true → Cond.static r.1 ∈ GW)) ∧ dOKr E cl GW SL r
def dOK (E : dE) (cl : List vw_C) (GW : List Cond) (SL : dSL) : Prop :=
  (∀ w ∈ GW, goodWord w = true) ∧ (∀ at0 x, dnty at0 = some x → Cond.arrayClass (newarray.typeOf at0) ∈ GW) ∧ ((∀ t ci, dobj t = some ci → ∃ r, cl[ci]? = some r ∧ dty t = some (.object r.1)) ∧ eTL E = SL.2 ∧ ∃ (T : u_T) (N : Nat), cl[0]? = some ("java/lang/String", T, N)) ∧ ∀ j r, eMT E j = some r → dOKm E cl GW SL r
theorem d_link {GW : List Cond} {own : String} {idx : Nat} {r' : dM} (h : Cond.methodLink own idx r'.1 ∈ GW ∨ (r'.2.2.2.2.1 = true ∧ ∃ host, (own, idx, r'.1, host) ∈ nls)) (hs : r'.2.2.2.2.1 = false) : Cond.methodLink own idx r'.1 ∈ GW := by
  rcases h with h | ⟨h, -⟩
  · exact h
  · rw [hs] at h; cases h
abbrev dB (b : Nat) : Nat → Prop := fun q => b ≤ q
def dQ (D : va_G) (cl : List vw_C) (cy : Nat → ClassId) (v : Option Value) (h' : dH) (b : Nat) : Array Value → State → Outcome → State → Prop := fun _ st oc t => oc = .returned v ∧ dR D cl cy h' t.heap ∧ va_F (dB b) st t
abbrev dRoom (d : Nat) (z : dZ) : Room := { frames := d, cells := z.2.2.1, slots := z.2.2.2, locals := 100 * d }
/-- a method's start -/
abbrev dPre (D : va_G) (cl : List vw_C) (cy : Nat → ClassId) (SL : dSL) (b : Nat) (h : dH) (U : State) : Prop := dR D cl cy h U.heap ∧ dK D cl cy U ∧ dT SL b U
def dSim (E : dE) (cl : List vw_C) (GW : List Cond) (SL : dSL) (D : va_G) (cy : Nat → ClassId) (b n d : Nat) : Prop :=
  ∀ (j : Nat) (r : dM) (pc : Nat) (lo : dL0) (st : List Value) (h : dH) (cs ss : Nat) (z : dZ), eMT E j = some r → drun E b n d r pc lo st h cs ss = some z →
    ∀ (p : Program) (l : Launch) (e : Env) (R : Room) (s : State) (m : MethodId) (args : Array Value) (below : List Frame) (meth : Method) (c : Code) (H : Heap) (locs : List Loc) (ls : Array Slot),
      d ≤ R.frames → 100 * d ≤ R.locals → z.2.2.1 ≤ R.cells → z.2.2.2 ≤ R.slots →
      p.tables.exec = Jvm.exec → c.code = r.2.1 → c.maxLocals = r.2.2.1 → s.vm.findClass r.1.cls = some m.cls → (∀ w ∈ GW, w.before args s = true) → meth.sig.returnType = r.2.2.2.1 → meth.locks = false → meth.name = r.1.name → dK D cl cy s → dT SL b s → dR D cl cy h H → va_S (dB b) s.heap H locs → dL lo ls r.2.2.1 →
      W p l e R s m args below meth c H locs cs ss (MQ below (dQ D cl cy z.1 z.2.1 b) args s z.2.2.1 z.2.2.2 (dB b)) (F0 m pc ls st)
theorem dmet {E : dE} {cl : List vw_C} {GW : List Cond} {SL : dSL} {D : va_G} {cy : Nat → ClassId} {b n d j : Nat} {r : dM} {as : List Value} {h : dH} {z : dZ} (hE : dOK E cl GW SL) (hs : dSim E cl GW SL D cy b n d) (hj : eMT E j = some r) (hrun : drun E b n d r 0 (dent as) [] h 0 0 = some z) (hl : (lg_sl as).length ≤ r.2.2.1) (l : Launch) :
    Met l r.1 (Cond.code r.1 r.2.1 r.2.2.1 r.2.2.2.1 :: GW) (dRoom d z) (va_Pc as (dPre D cl cy SL b h)) (dQ D cl cy z.1 z.2.1 b) z.2.2.1 z.2.2.2 (dB b) := by
  refine Met.ofW (cc := r.2.1) (maxL := r.2.2.1) (ret := r.2.2.2.1) (hE.2.2.2 j r hj).2.1 rfl ?_
  intro p e s m args below meth c s₁ B hml hv
  obtain ⟨rfl, hR, hK, hT⟩ := hv
  have hts := atoms_spec (ws := Cond.code r.1 r.2.1 r.2.2.1 r.2.2.2.1 :: GW) B.pre
  rw [lg_entry_eq]
  exact hs j r 0 (dent as) [] h 0 0 z hj hrun p l e (dRoom d z) s m as.toArray below meth c s.heap [] _ (Nat.le_refl _) (Nat.le_refl _) (Nat.le_refl _) (Nat.le_refl _) B.exec B.bytes hml (findClass_of_methodNamed B.named) (fun w hw => hts w (List.mem_cons_of_mem _ hw)) B.returns B.notSynchronized (name_of_methodNamed B.named B.method).1 hK hT hR va_S.rf (dL_entry hl)
section DMS
variable {p : Program} {l : Launch} {e : Env} {R : Room} {s : State} {m : MethodId} {args : Array Value} {below : List Frame} {meth : Method} {c : Code} {H H0 : Heap} {locs : List Loc} {cells slots : Nat} {Q : State → Prop} {pc : Nat} {ls : Array Slot}
variable {D : va_G} {cl : List vw_C} {cy : Nat → ClassId} {h : dH} {A : Nat → Prop} {b : Nat} {SL : dSL}
theorem dcallW {v : Option Value} {h' : dH} {mc ms : Nat} {st0 rest : List Value} {a : Array Value} (hr : va_Run p l e R s m args below meth c H locs cells slots mc ms (F0 m pc ls st0) rest (dQ D cl cy v h' b a) (dB b)) (hS : va_S (dB b) H0 H locs)
    (kk : ∀ (H1 : Heap) (locs1 : List Loc), dR D cl cy h' H1 → va_S (dB b) H0 H1 locs1 → W p l e R s m args below meth c H1 locs1 (cells + mc) (slots + ms) Q (F0 m (pc + 3) ls (v.toList ++ rest))) : W p l e R s m args below meth c H locs cells slots Q (F0 m pc ls st0) := by
  intro T hT X
  obtain ⟨v', st₀, t, T', L, h0, X', hL, e1, e2, ⟨hv, hRt, hz, hk⟩, st⟩ := hr T hT X
  cases hv
  rw [h0] at hz hk
  obtain ⟨t2, a1, b1⟩ := kk T'.heap (locs ++ L) (by rw [e1]; exact hRt)
    ⟨Nat.le_trans hS.1 (by rw [e1]; exact hz), fun q h1 h2 => by rw [e1, hk q (Nat.lt_of_lt_of_le h1 hS.1) h2]; exact hS.2.1 q h1 h2, fun q hq => by
      rcases List.mem_append.mp hq with h | h
      · exact hS.2.2 q h
      · exact hL q h⟩ T' rfl X'
  exact ⟨t2, st t2 a1, b1⟩
theorem dheap_sim {E : dE} {GW : List Cond} (hE : dOK E cl GW SL) {r : dM} (hr : dOKr E cl GW SL r) {d : Nat} (hf : d ≤ R.frames) (hlo : 100 * d ≤ R.locals) (hx : p.tables.exec = Jvm.exec) (hb : c.code = r.2.1) (hml : c.maxLocals = ls.size) (hown : s.vm.findClass r.1.cls = some m.cls) (hts : ∀ w ∈ GW, w.before args s = true) (hmn : meth.name = r.1.name) (hK : dK D cl cy s) (hT : dT SL b s) (hR : dR D cl cy h H) (hS : va_S (dB b) s.heap H locs) {i : Instr} {len : Nat} (hd : decode r.2.1 pc = .ok (i, len)) {st : List Value} {cs ss : Nat} {g : dG} (hh : dheap E b d r i len st h cs ss = some g) (hc1 : g.2.2.1 ≤ R.cells) (hs1 : g.2.2.2 ≤ R.slots)
    (kk : ∀ (H1 : Heap) (locs1 : List Loc), dR D cl cy g.2.1 H1 → va_S (dB b) s.heap H1 locs1 → W p l e R s m args below meth c H1 locs1 g.2.2.1 g.2.2.2 Q (F0 m (pc + len) ls g.1)) : W p l e R s m args below meth c H locs cs ss Q (F0 m pc ls st) := by
  obtain ⟨o1, o3, o4, o5, o6, o7, o8, o9, o10, o11, o12, o13, o14, o15, o16, o17⟩ := hr
  cases i with
  | getfield idx =>
    rcases dor_inv hh with hh | hh
    · obtain ⟨a, rr, ci, fs, k, v, rfl, h1, h2, rfl, h4, rfl⟩ := dgetf_inv hh
      obtain ⟨C, T, N, ty0, f1, f2, f3, f4, f5, f6, f7, f8⟩ := o8 idx ci k h2
      exact dr_get hx hb hts f5 hown hK hR h1 f1 f2 f3 f4 h4 hd (kk H locs hR hS)
    · obtain ⟨x, rr, h1, rfl, rfl, ⟨h3, rfl⟩ | ⟨h3, rfl⟩⟩ := dgets_inv hh
      · obtain ⟨a1, a2, a3, a4⟩ := hT.2.2.2.2.2.2.2.2 x (by rw [← hE.2.2.1.2.1]; exact h1)
        exact vk_getf hx hb a3 hS hown (hts _ ((o17 idx).1 h3)) (fun _ h => h) hd (kk H locs hR hS)
      · obtain ⟨a1, a2, a3, a4⟩ := hT.2.2.2.2.2.2.2.2 x (by rw [← hE.2.2.1.2.1]; exact h1)
        exact vk_getf hx hb a2 hS hown (hts _ ((o17 idx).2 h3)) (fun _ h => h) hd (kk H locs hR hS)
  | putfield idx =>
    obtain ⟨v, a, rr, ci, fs, k, ty, fin, rfl, h1, h2, h3, rfl, h0, h9, h5, h6, h7, rfl⟩ := dputf_inv hh
    obtain ⟨C, T, N, ty0, f1, f2, f3, f4, f5, f6, f7, f8⟩ := o8 idx ci k h2
    obtain ⟨f9, f10⟩ := f8 ty fin h3
    cases fin with
    | false => exact dr_put hx hb hts f5 ty0 f6 f7 hown hK hR hS h0 h1 f1 f2 f3 f4 f10 f9 h5 h6 h7 hd kk
    | true =>
      rcases h9 with h9 | ⟨h9, h10⟩
      · cases h9
      · have hi := of_decide_eq_true h9
        have hst : r.2.2.2.2.1 = false := by
          cases hq : r.2.2.2.2.1 with
          | false => rfl
          | true => exact absurd hi (o6 hq)
        obtain ⟨-, -, T2, N2, v3⟩ := o7 hst
        rw [h10, f1] at v3
        cases v3
        exact dr_putF hx hb hts f5 ty0 f6 f7 hown hK hR hS h0 h1 f1 f2 f3 f4 f10 (hmn.trans hi) rfl f9 h5 h6 h7 hd kk
  | iaload => obtain ⟨i, a, r, n, f, rfl, h1, rfl, h3, rfl⟩ := daldI_inv hh; exact dr_iald hx hb hK hR h1 h3 hd (kk H locs hR hS)
  | laload => obtain ⟨i, a, r, n, f, rfl, h1, rfl, h3, rfl⟩ := daldL_inv hh; exact dr_lald hx hb hK hR h1 h3 hd (kk H locs hR hS)
  | baload =>
    rcases dor_inv hh with hh | hh
    · obtain ⟨i, a, r, n, f, rfl, h1, rfl, h3, rfl⟩ := daldI_inv hh; exact dr_bald hx hb hK hR h1 h3 hd (kk H locs hR hS)
    rcases dor_inv hh with hh | hh
    · obtain ⟨i, a, r, n, f, rfl, h1, rfl, h3, rfl⟩ := daldI_inv hh; exact dr_zald hx hb hK hR h1 h3 hd (kk H locs hR hS)
    · obtain ⟨x, i, rr, h1, rfl, rfl, h3, rfl⟩ := dsld_inv hh
      obtain ⟨a1, a2, a3, a4⟩ := hT.2.2.2.2.2.2.2.2 x (by rw [← hE.2.2.1.2.1]; exact h1)
      exact va_tb hx hb a4 hS h3 rfl hd (kk H locs hR hS)
  | iastore => obtain ⟨x, i, a, r, n, f, rfl, h1, rfl, h0, h3, rfl⟩ := dastI_inv hh; exact dr_iast hx hb hK hR hS h0 h1 h3 hd kk
  | lastore => obtain ⟨x, i, a, r, n, f, rfl, h1, rfl, h0, h3, rfl⟩ := dastL_inv hh; exact dr_last hx hb hK hR hS h0 h1 h3 hd kk
  | bastore =>
    have hh : (match dastI b 1 len (vp_nar .byte) st h cs ss with
      | some g => some g
      | none => dastI b 3 len (vp_nar .boolean) st h cs ss) = some g := hh
    cases e1 : dastI b 1 len (vp_nar .byte) st h cs ss with
    | some g' =>
      rw [e1] at hh
      cases hh
      obtain ⟨x, i, a, r, n, f, rfl, h1, rfl, h0, h3, rfl⟩ := dastI_inv e1; exact dr_bast hx hb hK hR hS h0 h1 h3 hd kk
    | none =>
      rw [e1] at hh
      have hh : dastI b 3 len (vp_nar .boolean) st h cs ss = some g := hh
      obtain ⟨x, i, a, r, n, f, rfl, h1, rfl, h0, h3, rfl⟩ := dastI_inv hh; exact dr_zast hx hb hK hR hS h0 h1 h3 hd kk
  | arraylength =>
    rcases dor_inv hh with hh | hh
    · obtain ⟨a, r, t, x, ty, rfl, h1, h2, rfl, rfl⟩ := dalen_inv hh; exact dr_alen hx hb hK hR h1 h2 hd (kk H locs hR hS)
    · obtain ⟨x, rr, h1, rfl, rfl, rfl⟩ := dslen_inv hh
      obtain ⟨a1, a2, a3, a4⟩ := hT.2.2.2.2.2.2.2.2 x (by rw [← hE.2.2.1.2.1]; exact h1)
      exact va_tlen hx hb a4 hS rfl hd (kk H locs hR hS)
  | newarray at0 =>
    obtain ⟨n, r, t, z0, w, rfl, h1, h0, rfl, h3, h4, rfl⟩ := dnewa_inv hh
    exact dr_newa hx hb hK hR hS h0 (hts _ (hE.2.1 at0 _ h1)) h1 h3 h4 hc1 hs1 hd (fun H1 hR1 hS1 => kk H1 locs hR1 hS1)
  | new idx =>
    obtain ⟨ci, fs, w, h1, h2, h3, rfl, rfl⟩ := dnewo_inv hh
    obtain ⟨C, T, N, ty0, f1, f2, f3, f4, f5, f6, rfl⟩ := o12 idx ci h1 fs h2
    have hlen : ((List.range N).map fun k => defaultValue (ty0 k)).length = N := by simp
    have hs2 : ss + N ≤ R.slots := by have := hs1; dsimp only at this; rw [hlen] at this; exact this
    refine dr_new hx hb hts f2 ty0 f3 hown f4 f5 f6 hK hR hS h3 f1 hc1 hs2 hd (fun H1 hR1 hS1 => ?_)
    have k9 := kk H1 locs hR1 hS1
    dsimp only at k9
    rw [hlen] at k9
    exact k9
  | anewarray idx =>
    obtain ⟨t, n, r, w, h1, rfl, h2, rfl, h4, h5, rfl⟩ := dnewq_inv hh
    obtain ⟨C, f1, f2, f3⟩ := o13 idx t h1
    have hov : va_AO C s := by
      rcases f2 with rfl | rfl
      · exact hK.2.1
      · exact hK.2.2
    exact dr_anew hx hb hown (hts _ f3) hov hK hR hS h2 f1 h4 h5 hc1 hs1 hd (fun H1 hR1 hS1 => kk H1 locs hR1 hS1)
  | aaload =>
    obtain ⟨i, a, r, t, n, f, ci, rfl, h1, h2, rfl, h4, rfl⟩ := daldQ_inv hh
    obtain ⟨rr, f1, f2⟩ := hE.2.2.1.1 t ci h2
    exact dr_aald hx hb hK hR f2 h1 h4 hd (kk H locs hR hS)
  | aastore =>
    obtain ⟨v, i, a, r, t, n, f, ci, vs, rfl, h1, h2, rfl, h4, h5, h6, rfl⟩ := dastQ_inv hh
    obtain ⟨rr, f1, f2⟩ := hE.2.2.1.1 t ci h5
    exact dr_aast hx hb hK hR hS h4 f2 h1 h2 f1 h6 hd kk
  | invokestatic idx =>
    rcases dbi_inv hh with ⟨h1, h2⟩ | ⟨h1, h2⟩ | ⟨h1, h2⟩ | ⟨h1, h2⟩ | ⟨h1, h2⟩
    · obtain ⟨x, y, r, rfl, rfl, h4, h5, rfl⟩ := dmin_inv h2
      have hw := o14 idx 1 h1
      exact va_mmin hx hb hml hown (hts _ (hw _ (by simp [dBW]))) (hts _ (hw _ (by simp [dBW]))) (hts _ (hw _ (by simp [dBW]))) (hts _ (hw _ (by simp [dBW]))) (by omega) (by omega) hc1 hs1 hd (kk H locs hR hS)
    · obtain ⟨x, y, r, rfl, rfl, h4, h5, rfl⟩ := dmax_inv h2
      have hw := o14 idx 2 h1
      exact va_mmax hx hb hml hown (hts _ (hw _ (by simp [dBW]))) (hts _ (hw _ (by simp [dBW]))) (hts _ (hw _ (by simp [dBW]))) (hts _ (hw _ (by simp [dBW]))) (by omega) (by omega) hc1 hs1 hd (kk H locs hR hS)
    · obtain ⟨x, y, r, rfl, rfl, h4, h5, rfl⟩ := dminL_inv h2
      have hw := o14 idx 3 h1
      exact va_mmin_long hx hb hml hown (hts _ (hw _ (by simp [dBW]))) (hts _ (hw _ (by simp [dBW]))) (hts _ (hw _ (by simp [dBW]))) (hts _ (hw _ (by simp [dBW]))) (by omega) (by omega) hc1 hs1 hd (kk H locs hR hS)
    · obtain ⟨x, r, rfl, rfl, h4, h5, rfl⟩ := dabsL_inv h2
      have hw := o14 idx 4 h1
      exact va_mabs_long hx hb hml hown (hts _ (hw _ (by simp [dBW]))) (hts _ (hw _ (by simp [dBW]))) (hts _ (hw _ (by simp [dBW]))) (hts _ (hw _ (by simp [dBW]))) (by omega) (by omega) hc1 hs1 hd (kk H locs hR hS)
    · obtain ⟨n, dp, a, sp, a0, r, t, n0, f, n1, f1, rfl, h3, h4, rfl, h6, h7, h8, h9, h10, h11, h12, h13, h14, rfl⟩ := dcpy_inv h2
      have hw := o14 idx 5 h1
      have hnw : nativeFrameWords "java/lang/System" "arraycopy" 5 ≤ 60 := by decide +kernel
      unfold dfit at h8
      by_cases e0 : t = 0
      · subst e0
        exact dr_copy hx hb hml hown (hts _ (hw _ (by simp [dBW]))) (hts _ (hw _ (by simp [dBW]))) (hts _ (hw _ (by simp [dBW]))) (hts _ (hw _ (by simp [dBW]))) hK hR hS h7 (ty := .int) rfl h3 h4 rfl h9 h10 h11 h12 h13 (fun _ _ => rfl) (by omega) (by omega) hd kk
      · rw [if_neg e0] at h8
        by_cases e1 : t = 1
        · rw [if_pos e1] at h8
          subst e1
          exact dr_copy hx hb hml hown (hts _ (hw _ (by simp [dBW]))) (hts _ (hw _ (by simp [dBW]))) (hts _ (hw _ (by simp [dBW]))) (hts _ (hw _ (by simp [dBW]))) hK hR hS h7 (ty := .byte) rfl h3 h4 rfl h9 h10 h11 h12 h13 (fun i hi => List.all_eq_true.mp h8 i (List.mem_range.mpr hi)) (by omega) (by omega) hd kk
        · rw [if_neg e1] at h8; cases h8
  | invokespecial idx =>
    obtain ⟨a, r, h1, rfl, rfl, h3, h4, rfl⟩ := doi_inv hh
    have hw := o14 idx 0 h1
    have hrm := lv_room (m := m) (pc := pc) (ls := ls) (rest := (.ref a :: r)) h4
    refine W.objInit hx hb hown (hts _ (hw _ (by simp [dBW]))) (hts _ (hw _ (by simp [dBW]))) (hts _ (hw _ (by simp [dBW]))) rfl hml.symm rfl hd (by omega) (by omega) ?_
    exact kk H locs hR hS
  | getstatic idx =>
    obtain ⟨v, h1, rfl, rfl⟩ := dldc_inv hh
    rcases o16 idx v h1 with ⟨rfl, hw⟩ | ⟨rfl, hw⟩
    · exact va_gets hx hb hT.2.2.2.2.2.2.1.1 hS hown (hts _ hw) (fun _ h => h) hd (kk H locs hR hS)
    · exact va_gets hx hb hT.2.2.2.2.2.2.1.2 hS hown (hts _ hw) (fun _ h => h) hd (kk H locs hR hS)
  | ldc idx =>
    have hh : (match dldc len 2 ((eCN E r.2.2.2.2.2.1 idx).map Value.int) st h cs ss with
      | some g => some g
      | none => dldc len 2 ((eSR E r.2.2.2.2.2.1 idx).map Value.ref) st h cs ss) = some g := hh
    cases e1 : dldc len 2 ((eCN E r.2.2.2.2.2.1 idx).map Value.int) st h cs ss with
    | some g' =>
      rw [e1] at hh; cases hh
      obtain ⟨v, h1, rfl, rfl⟩ := dldc_inv e1
      cases hv : eCN E r.2.2.2.2.2.1 idx with
      | none => rw [hv] at h1; cases h1
      | some x => rw [hv] at h1; cases h1; exact lv_ldc hx hb hown (hts _ (o10 idx x hv)) hd (kk H locs hR hS)
    | none =>
      rw [e1] at hh
      have hh : dldc len 2 ((eSR E r.2.2.2.2.2.1 idx).map Value.ref) st h cs ss = some g := hh
      obtain ⟨v, h1, rfl, rfl⟩ := dldc_inv hh
      cases hv : eSR E r.2.2.2.2.2.1 idx with
      | none => rw [hv] at h1; cases h1
      | some x =>
        rw [hv] at h1; cases h1
        obtain ⟨tx, htx⟩ := o15 idx x hv
        exact va_ldcS hx hb hown (hT.2.2.2.2.2.1 _ htx) hd (kk H locs hR hS)
  | ldc_w idx =>
    obtain ⟨v, h1, rfl, rfl⟩ := dldc_inv hh
    cases hv : eCN E r.2.2.2.2.2.1 idx with
    | none => rw [hv] at h1; cases h1
    | some x => rw [hv] at h1; cases h1; exact lv_ldcw hx hb hown (hts _ (o10 idx x hv)) hd (kk H locs hR hS)
  | ldc2_w idx =>
    obtain ⟨v, h1, rfl, rfl⟩ := dldc_inv hh
    cases hv : eCL E r.2.2.2.2.2.1 idx with
    | none => rw [hv] at h1; cases h1
    | some x => rw [hv] at h1; cases h1; exact lv_ldc2 hx hb hown (hts _ (o11 idx x hv)) hd (kk H locs hR hS)
  | _ => cases hh
end DMS
