/-! what a run of the small machine tells of the kit's machine -/
def dOKf (E : dE) (cl : List vw_C) (GW : List Cond) (own : String) (idx ci k : Nat) : Prop :=
  ∃ (C : String) (T : u_T) (N : Nat) (ty0 : Nat → FieldType), cl[ci]? = some (C, T, N) ∧ k < N ∧ (T k).1 = C ∧ Cond.fieldLink own idx C (T k).2.1 (T k).2.2.1 ∈ GW ∧ (∀ w ∈ u_ws C T N, w ∈ GW) ∧ (∀ k, k < N → parseFieldDescriptor (T k).2.2.1 = some (ty0 k)) ∧
    (∀ a, a < N → ∀ b, b < N → a ≠ b → (T a).2.1 ≠ (T b).2.1) ∧ ∀ ty fin, E.2.2.2.2.2 ci k = some (ty, fin) → parseFieldDescriptor (T k).2.2.1 = some ty ∧ (T k).2.2.2 = fin
def dOKm (E : dE) (cl : List vw_C) (GW : List Cond) (r : dM) : Prop :=
  plainName r.1.cls = true ∧ Cond.code r.1 r.2.1 r.2.2.1 r.2.2.2.1 ∈ GW ∧ Cond.initialized r.1.cls ∈ GW ∧
  (r.1.cls ≠ "java/lang/invoke/MethodHandle" ∧ r.1.cls ≠ "java/lang/invoke/VarHandle" ∧ (parseMethodDescriptor r.1.desc).map (fun d => d.parameters.length) = some r.2.2.2.2.2.2) ∧ r.2.2.1 ≤ 81 ∧
  (r.2.2.2.2.1 = true → Cond.static r.1 ∈ GW) ∧
  (r.2.2.2.2.1 = false → Cond.instanceMethod r.1 ∈ GW ∧ Cond.selects r.1.cls r.1 r.1 ∈ GW ∧ ∃ (T : u_T) (N : Nat), cl[r.2.2.2.2.2.1]? = some (r.1.cls, T, N)) ∧
  (∀ idx ci k, E.2.1 r.2.2.2.2.2.1 idx = some (ci, k) → dOKf E cl GW r.1.cls idx ci k) ∧
  (∀ idx j r', E.2.2.1 r.2.2.2.2.2.1 idx = some j → E.1 j = some r' → Cond.methodLink r.1.cls idx r'.1 ∈ GW) ∧
  (∀ idx v, E.2.2.2.1 r.2.2.2.2.2.1 idx = some v → Cond.constant r.1.cls idx v ∈ GW) ∧
  (∀ idx v, E.2.2.2.2.1 r.2.2.2.2.2.1 idx = some v → Cond.constantLong r.1.cls idx v ∈ GW)
def dOK (E : dE) (cl : List vw_C) (GW : List Cond) : Prop :=
  (∀ w ∈ GW, goodWord w = true) ∧ (∀ at0 x, dnty at0 = some x → Cond.arrayClass (newarray.typeOf at0) ∈ GW) ∧ ∀ j r, E.1 j = some r → dOKm E cl GW r
def dQ (D : va_G) (cl : List vw_C) (cy : Nat → ClassId) (v : Option Value) (h' : dH) (A : Nat → Prop) : Array Value → State → Outcome → State → Prop := fun _ st oc t => oc = .returned v ∧ dR D cl cy h' t.heap ∧ va_F A st t
abbrev dRoom (d : Nat) (z : dZ) : Room := { frames := d, cells := z.2.2.1, slots := z.2.2.2, locals := 100 * d }
def dSim (E : dE) (cl : List vw_C) (GW : List Cond) (D : va_G) (cy : Nat → ClassId) (n d : Nat) : Prop :=
  ∀ (j : Nat) (r : dM) (pc : Nat) (lo : dL0) (st : List Value) (h : dH) (cs ss : Nat) (z : dZ), E.1 j = some r → drun E n d r pc lo st h cs ss = some z →
    ∀ (p : Program) (l : Launch) (e : Env) (s : State) (m : MethodId) (args : Array Value) (below : List Frame) (meth : Method) (c : Code) (H : Heap) (locs : List Loc) (ls : Array Slot) (A : Nat → Prop),
      p.tables.exec = Jvm.exec → c.code = r.2.1 → c.maxLocals = r.2.2.1 → s.vm.findClass r.1.cls = some m.cls → (∀ w ∈ GW, w.before args s = true) → meth.sig.returnType = r.2.2.2.1 → meth.locks = false → dK D cl cy s → dR D cl cy h H → va_S A s.heap H locs → (∀ q, dA h q → A q) → dL lo ls r.2.2.1 →
      W p l e (dRoom d z) s m args below meth c H locs cs ss (MQ below (dQ D cl cy z.1 z.2.1 A) args s z.2.2.1 z.2.2.2 A) (F0 m pc ls st)
theorem dmet {E : dE} {cl : List vw_C} {GW : List Cond} {D : va_G} {cy : Nat → ClassId} {n d j : Nat} {r : dM} {as : List Value} {h : dH} {z : dZ} (hE : dOK E cl GW) (hs : dSim E cl GW D cy n d) (hj : E.1 j = some r) (hrun : drun E n d r 0 (dent as) [] h 0 0 = some z) (hl : (lg_sl as).length ≤ r.2.2.1) (l : Launch) :
    Met l r.1 (Cond.code r.1 r.2.1 r.2.2.1 r.2.2.2.1 :: GW) (dRoom d z) (va_Pc as (fun U => dR D cl cy h U.heap ∧ dK D cl cy U)) (dQ D cl cy z.1 z.2.1 (dA h)) z.2.2.1 z.2.2.2 (dA h) := by
  refine Met.ofW (cc := r.2.1) (maxL := r.2.2.1) (ret := r.2.2.2.1) (hE.2.2 j r hj).1 rfl ?_
  intro p e s m args below meth c s₁ B hml hv
  obtain ⟨rfl, hR, hK⟩ := hv
  have hts := atoms_spec (ws := Cond.code r.1 r.2.1 r.2.2.1 r.2.2.2.1 :: GW) B.pre
  rw [lg_entry_eq]
  exact hs j r 0 (dent as) [] h 0 0 z hj hrun p l e s m as.toArray below meth c s.heap [] _ (dA h) B.exec B.bytes hml (findClass_of_methodNamed B.named) (fun w hw => hts w (List.mem_cons_of_mem _ hw)) B.returns B.notSynchronized hK hR va_S.rf (fun _ h => h) (dL_entry hl)
section DMS
variable {p : Program} {l : Launch} {e : Env} {R : Room} {s : State} {m : MethodId} {args : Array Value} {below : List Frame} {meth : Method} {c : Code} {H H0 : Heap} {locs : List Loc} {cells slots : Nat} {Q : State → Prop} {pc : Nat} {ls : Array Slot}
variable {D : va_G} {cl : List vw_C} {cy : Nat → ClassId} {h : dH} {A : Nat → Prop}
theorem dcallW {v : Option Value} {h' : dH} {A1 : Nat → Prop} {mc ms : Nat} {st0 rest : List Value} {a : Array Value} {free : Addr → Prop} (hr : va_Run p l e R s m args below meth c H locs cells slots mc ms (F0 m pc ls st0) rest (dQ D cl cy v h' A1 a) free) (hS : va_S A H0 H locs) (hA : ∀ q, A1 q → A q) (hf : ∀ q, free q → A q)
    (kk : ∀ (H1 : Heap) (locs1 : List Loc), dR D cl cy h' H1 → va_S A H0 H1 locs1 → W p l e R s m args below meth c H1 locs1 (cells + mc) (slots + ms) Q (F0 m (pc + 3) ls (v.toList ++ rest))) : W p l e R s m args below meth c H locs cells slots Q (F0 m pc ls st0) := by
  intro T hT X
  obtain ⟨v', st₀, t, T', L, h0, X', hL, e1, e2, ⟨hv, hRt, hz, hk⟩, st⟩ := hr T hT X
  cases hv
  rw [h0] at hz hk
  obtain ⟨t2, a1, b1⟩ := kk T'.heap (locs ++ L) (by rw [e1]; exact hRt)
    ⟨Nat.le_trans hS.1 (by rw [e1]; exact hz), fun q h1 h2 => by rw [e1, hk q (Nat.lt_of_lt_of_le h1 hS.1) (fun z => h2 (hA q z))]; exact hS.2.1 q h1 h2, fun q hq => by
      rcases List.mem_append.mp hq with h | h
      · exact hS.2.2 q h
      · exact hf _ (hL q h)⟩ T' rfl X'
  exact ⟨t2, st t2 a1, b1⟩
theorem dheap_sim {E : dE} {GW : List Cond} (hE : dOK E cl GW) {j : Nat} {r : dM} (hj : E.1 j = some r) (hx : p.tables.exec = Jvm.exec) (hb : c.code = r.2.1) (hown : s.vm.findClass r.1.cls = some m.cls) (hts : ∀ w ∈ GW, w.before args s = true) (hK : dK D cl cy s) (hR : dR D cl cy h H) (hS : va_S A H0 H locs) (hA : ∀ q, dA h q → A q) {i : Instr} {len : Nat} (hd : decode r.2.1 pc = .ok (i, len)) {st : List Value} {cs ss : Nat} {g : dG} (hh : dheap E r.2.2.2.2.2.1 i len st h cs ss = some g) (hc1 : g.2.2.1 ≤ R.cells) (hs1 : g.2.2.2 ≤ R.slots)
    (kk : ∀ (H1 : Heap) (locs1 : List Loc), dR D cl cy g.2.1 H1 → va_S A H0 H1 locs1 → W p l e R s m args below meth c H1 locs1 g.2.2.1 g.2.2.2 Q (F0 m (pc + len) ls g.1)) : W p l e R s m args below meth c H locs cs ss Q (F0 m pc ls st) := by
  obtain ⟨o1, o2, o3, o4, o5, o6, o7, o8, o9, o10, o11⟩ := hE.2.2 j r hj
  cases i with
  | getfield idx =>
    obtain ⟨a, rr, ci, fs, k, v, rfl, h1, h2, rfl, h4, rfl⟩ := dgetf_inv hh
    obtain ⟨C, T, N, ty0, f1, f2, f3, f4, f5, f6, f7, f8⟩ := o8 idx ci k h2
    exact dr_get hx hb hts f5 hown hK hR h1 f1 f2 f3 f4 h4 hd (kk H locs hR hS)
  | putfield idx =>
    obtain ⟨v, a, rr, ci, fs, k, ty, rfl, h1, h2, h3, rfl, h5, h6, h7, rfl⟩ := dputf_inv hh
    obtain ⟨C, T, N, ty0, f1, f2, f3, f4, f5, f6, f7, f8⟩ := o8 idx ci k h2
    obtain ⟨f9, f10⟩ := f8 ty false h3
    exact dr_put hx hb hts f5 ty0 f6 f7 hown hK hR hS (hA a (dA_in h1)) h1 f1 f2 f3 f4 f10 f9 h5 h6 h7 hd kk
  | iaload => obtain ⟨i, a, r, n, f, rfl, h1, rfl, h3, rfl⟩ := daldI_inv hh; exact dr_iald hx hb hK hR h1 h3 hd (kk H locs hR hS)
  | laload => obtain ⟨i, a, r, n, f, rfl, h1, rfl, h3, rfl⟩ := daldL_inv hh; exact dr_lald hx hb hK hR h1 h3 hd (kk H locs hR hS)
  | baload =>
    have hh : (match daldI 1 len st h cs ss with
      | some g => some g
      | none => daldI 3 len st h cs ss) = some g := hh
    cases e1 : daldI 1 len st h cs ss with
    | some g' =>
      rw [e1] at hh
      cases hh
      obtain ⟨i, a, r, n, f, rfl, h1, rfl, h3, rfl⟩ := daldI_inv e1; exact dr_bald hx hb hK hR h1 h3 hd (kk H locs hR hS)
    | none =>
      rw [e1] at hh
      have hh : daldI 3 len st h cs ss = some g := hh
      obtain ⟨i, a, r, n, f, rfl, h1, rfl, h3, rfl⟩ := daldI_inv hh; exact dr_zald hx hb hK hR h1 h3 hd (kk H locs hR hS)
  | iastore => obtain ⟨x, i, a, r, n, f, rfl, h1, rfl, h3, rfl⟩ := dastI_inv hh; exact dr_iast hx hb hK hR hS (hA a (dA_in h1)) h1 h3 hd kk
  | lastore => obtain ⟨x, i, a, r, n, f, rfl, h1, rfl, h3, rfl⟩ := dastL_inv hh; exact dr_last hx hb hK hR hS (hA a (dA_in h1)) h1 h3 hd kk
  | bastore =>
    have hh : (match dastI 1 len (vp_nar .byte) st h cs ss with
      | some g => some g
      | none => dastI 3 len (vp_nar .boolean) st h cs ss) = some g := hh
    cases e1 : dastI 1 len (vp_nar .byte) st h cs ss with
    | some g' =>
      rw [e1] at hh
      cases hh
      obtain ⟨x, i, a, r, n, f, rfl, h1, rfl, h3, rfl⟩ := dastI_inv e1; exact dr_bast hx hb hK hR hS (hA a (dA_in h1)) h1 h3 hd kk
    | none =>
      rw [e1] at hh
      have hh : dastI 3 len (vp_nar .boolean) st h cs ss = some g := hh
      obtain ⟨x, i, a, r, n, f, rfl, h1, rfl, h3, rfl⟩ := dastI_inv hh; exact dr_zast hx hb hK hR hS (hA a (dA_in h1)) h1 h3 hd kk
  | arraylength => obtain ⟨a, r, t, x, ty, rfl, h1, h2, rfl, rfl⟩ := dalen_inv hh; exact dr_alen hx hb hK hR h1 h2 hd (kk H locs hR hS)
  | newarray at0 =>
    obtain ⟨n, r, t, z0, rfl, h1, rfl, h3, h4, rfl⟩ := dnewa_inv hh
    exact dr_newa hx hb hK hR hS (hts _ (hE.2.1 at0 _ h1)) h1 h3 h4 hc1 hs1 hd (fun H1 hR1 hS1 => kk H1 locs hR1 hS1)
  | ldc idx =>
    obtain ⟨v, h1, rfl, rfl⟩ := dldc_inv hh
    cases hv : E.2.2.2.1 r.2.2.2.2.2.1 idx with
    | none => rw [hv] at h1; cases h1
    | some x => rw [hv] at h1; cases h1; exact lv_ldc hx hb hown (hts _ (o10 idx x hv)) hd (kk H locs hR hS)
  | ldc_w idx =>
    obtain ⟨v, h1, rfl, rfl⟩ := dldc_inv hh
    cases hv : E.2.2.2.1 r.2.2.2.2.2.1 idx with
    | none => rw [hv] at h1; cases h1
    | some x => rw [hv] at h1; cases h1; exact lv_ldcw hx hb hown (hts _ (o10 idx x hv)) hd (kk H locs hR hS)
  | ldc2_w idx =>
    obtain ⟨v, h1, rfl, rfl⟩ := dldc_inv hh
    cases hv : E.2.2.2.2.1 r.2.2.2.2.2.1 idx with
    | none => rw [hv] at h1; cases h1
    | some x => rw [hv] at h1; cases h1; exact lv_ldc2 hx hb hown (hts _ (o11 idx x hv)) hd (kk H locs hR hS)
  | _ => cases hh
end DMS
