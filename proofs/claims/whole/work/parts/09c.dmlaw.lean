/-! the law's own body: its script, calls of methods that catch (behind which the number of cells isn't known), a condition for its end -/
abbrev dKE : Type := (Nat → Option (dM × dHH)) × (Nat → Nat → Option Nat) × (Nat → Nat → Option String)
def dscr (scr L : Nat) (xs : Nat → Int32) (i : Instr) (len : Nat) (st : List Value) : Option (List Value) := match i with
  | .iaload => match st with
    | .int k :: .ref a :: r => if a = scr ∧ len = 1 ∧ ¬ (k < 0 ∨ L ≤ k.toNatClampNeg) then some (.int (xs k.toNatClampNeg) :: r) else none
    | _ => none
  | .arraylength => match st with
    | .ref a :: r => if a = scr ∧ len = 1 then some (.int (Int32.ofNat L) :: r) else none
    | _ => none
  | _ => none
abbrev dVK : Type := (dM × dHH) × List Value × List Value
def dinvKV (K : dKE) (o len idx : Nat) (st : List Value) (h : dH) : Option dVK := match K.2.1 o idx with
  | some j => match K.1 j with
    | some q => match st.drop q.1.2.2.2.2.2.2 with
      | .ref a :: rest => match h.2 a with
        | some (.inr w) => if len = 3 ∧ q.1.2.2.2.2.1 = false ∧ q.1.1.name ≠ "<init>" ∧ w.1 = q.1.2.2.2.2.2.1 ∧ (rest.map fun v => v.category).sum ≤ 8 ∧ (lg_sl (.ref a :: (st.take q.1.2.2.2.2.2.2).reverse)).length ≤ q.1.2.2.1 then some (q, .ref a :: (st.take q.1.2.2.2.2.2.2).reverse, rest) else none
        | _ => none
      | _ => none
    | none => none
  | none => none
def dinvKS (K : dKE) (o len idx : Nat) (st : List Value) : Option dVK := match K.2.1 o idx with
  | some j => match K.1 j with
    | some q => if len = 3 ∧ q.1.2.2.2.2.1 = true ∧ q.1.2.2.2.2.2.2 ≤ st.length ∧ ((st.drop q.1.2.2.2.2.2.2).map fun v => v.category).sum ≤ 8 ∧ (lg_sl ((st.take q.1.2.2.2.2.2.2).reverse)).length ≤ q.1.2.2.1 then some (q, (st.take q.1.2.2.2.2.2.2).reverse, st.drop q.1.2.2.2.2.2.2) else none
    | none => none
  | none => none
def dinvK (K : dKE) (o : Nat) (i : Instr) (len : Nat) (st : List Value) (h : dH) : Option dVK := match i with
  | .invokevirtual idx => dinvKV K o len idx st h
  | .invokestatic idx => dinvKS K o len idx st
  | _ => none
/-- how many cells there are behind a call that may have caught -/
def dwN (h : dH) (w : Nat) : Prop := (∀ q, h.1 = some q → q = w) ∧ ∀ a x, h.2 a = some x → a < w
def dwp (E : dE) (X : dX) (K : dKE) (b scr L : Nat) (xs : Nat → Int32) (post : Option Value → Nat → Nat → Prop) : Nat → Nat → dM → Nat → dL0 → List Value → dH → Nat → Nat → Prop
  | 0, _, _, _, _, _, _, _, _ => False
  | n + 1, d, r, pc, lo, st, h, cs, ss => match decode r.2.1 pc with
    | .error _ => False
    | .ok (i, len) => match dscr scr L xs i len st with
      | some st' => dwp E X K b scr L xs post n d r (pc + len) lo st' h cs ss
      | none => match dpure i len pc r.2.2.1 lo st with
        | some z => dwp E X K b scr L xs post n d r z.1 z.2.1 z.2.2 h cs ss
        | none => match dheap E b d r i len st h cs ss with
          | some g => dwp E X K b scr L xs post n d r (pc + len) lo g.1 g.2.1 g.2.2.1 g.2.2.2
          | none => match dret r i len st with
            | some v => post v cs ss
            | none => match d with
              | 0 => False
              | d + 1 => (∃ y k z, dinv E r.2.2.2.2.2.1 i len st h = some y ∧ drun E b k d y.1 0 (dent y.2.1) [] h 0 0 = some z ∧ dwp E X K b scr L xs post n (d + 1) r (pc + 3) lo (z.1.toList ++ y.2.2) z.2.1 (cs + z.2.2.1) (ss + z.2.2.2)) ∨
                ∃ y k z, dinvK K r.2.2.2.2.2.1 i len st h = some y ∧ drunC E X (K.2.2 y.1.1.2.2.2.2.2.1) y.1.2 b k d y.1.1 0 (dent y.2.1) [] h 0 0 = some z ∧ (∃ w, dwN z.2.1 w) ∧ ∀ w, dwN z.2.1 w → dwp E X K b scr L xs post n (d + 1) r (pc + 3) lo (z.1.toList ++ y.2.2) (some w, z.2.1.2) (cs + z.2.2.1) (ss + z.2.2.2)
theorem dscr_inv {scr L : Nat} {xs : Nat → Int32} {i : Instr} {len : Nat} {st st' : List Value} (hh : dscr scr L xs i len st = some st') : len = 1 ∧ ((∃ k r, i = .iaload ∧ st = .int k :: .ref scr :: r ∧ vp_in k L ∧ st' = .int (xs k.toNatClampNeg) :: r) ∨ (∃ r, i = .arraylength ∧ st = .ref scr :: r ∧ st' = .int (Int32.ofNat L) :: r)) := by
  cases i with
  | iaload =>
    unfold dscr at hh
    dsimp only at hh
    split at hh
    next k a r =>
      by_cases e9 : a = scr ∧ len = 1 ∧ ¬ (k < 0 ∨ L ≤ k.toNatClampNeg)
      · rw [if_pos e9] at hh
        cases hh
        obtain ⟨rfl, rfl, e3⟩ := e9
        exact ⟨rfl, Or.inl ⟨k, r, rfl, rfl, e3, rfl⟩⟩
      · rw [if_neg e9] at hh; cases hh
    next => cases hh
  | arraylength =>
    unfold dscr at hh
    dsimp only at hh
    split at hh
    next a r =>
      by_cases e9 : a = scr ∧ len = 1
      · rw [if_pos e9] at hh
        cases hh
        obtain ⟨rfl, rfl⟩ := e9
        exact ⟨rfl, Or.inr ⟨r, rfl, rfl, rfl⟩⟩
      · rw [if_neg e9] at hh; cases hh
    next => cases hh
  | _ => cases hh
theorem dinvKV_inv {K : dKE} {o len idx : Nat} {st : List Value} {h : dH} {y : dVK} (hh : dinvKV K o len idx st h = some y) : ∃ j a fs, K.2.1 o idx = some j ∧ K.1 j = some y.1 ∧ h.2 a = some (.inr (y.1.1.2.2.2.2.2.1, fs)) ∧ len = 3 ∧ y.1.1.2.2.2.2.1 = false ∧ y.1.1.1.name ≠ "<init>" ∧ (y.2.2.map fun v => v.category).sum ≤ 8 ∧ (lg_sl y.2.1).length ≤ y.1.1.2.2.1 ∧
    ∃ As : List Value, As.length = y.1.1.2.2.2.2.2.2 ∧ y.2.1 = .ref a :: As ∧ st = As.reverse ++ .ref a :: y.2.2 := by
  unfold dinvKV at hh
  cases h1 : K.2.1 o idx with
  | none => rw [h1] at hh; cases hh
  | some j =>
    rw [h1] at hh
    dsimp only at hh
    cases h2 : K.1 j with
    | none => rw [h2] at hh; cases hh
    | some r =>
      rw [h2] at hh
      dsimp only at hh
      split at hh
      next a rest hst =>
        split at hh
        next w hq =>
          by_cases e9 : len = 3 ∧ r.1.2.2.2.2.1 = false ∧ r.1.1.name ≠ "<init>" ∧ w.1 = r.1.2.2.2.2.2.1 ∧ (rest.map fun v => v.category).sum ≤ 8 ∧ (lg_sl (.ref a :: (st.take r.1.2.2.2.2.2.2).reverse)).length ≤ r.1.2.2.1
          · rw [if_pos e9] at hh
            cases hh
            obtain ⟨e1, e2, ei, e3, e4, e5⟩ := e9
            have hlen : r.1.2.2.2.2.2.2 < st.length := by
              have := congrArg List.length hst
              simp at this
              omega
            refine ⟨j, a, w.2, rfl, h2, by rw [hq, ← e3], e1, e2, ei, e4, e5, (st.take r.1.2.2.2.2.2.2).reverse, ?_, rfl, ?_⟩
            · simp; omega
            · rw [List.reverse_reverse, ← hst]
              exact (List.take_append_drop _ _).symm
          · rw [if_neg e9] at hh; cases hh
        next => cases hh
      next => cases hh
theorem dinvKS_inv {K : dKE} {o len idx : Nat} {st : List Value} {y : dVK} (hh : dinvKS K o len idx st = some y) : ∃ j, K.2.1 o idx = some j ∧ K.1 j = some y.1 ∧ len = 3 ∧ y.1.1.2.2.2.2.1 = true ∧ (y.2.2.map fun v => v.category).sum ≤ 8 ∧ (lg_sl y.2.1).length ≤ y.1.1.2.2.1 ∧ y.2.1.length = y.1.1.2.2.2.2.2.2 ∧ st = y.2.1.reverse ++ y.2.2 := by
  unfold dinvKS at hh
  cases h1 : K.2.1 o idx with
  | none => rw [h1] at hh; cases hh
  | some j =>
    rw [h1] at hh
    dsimp only at hh
    cases h2 : K.1 j with
    | none => rw [h2] at hh; cases hh
    | some r =>
      rw [h2] at hh
      dsimp only at hh
      by_cases e9 : len = 3 ∧ r.1.2.2.2.2.1 = true ∧ r.1.2.2.2.2.2.2 ≤ st.length ∧ ((st.drop r.1.2.2.2.2.2.2).map fun v => v.category).sum ≤ 8 ∧ (lg_sl ((st.take r.1.2.2.2.2.2.2).reverse)).length ≤ r.1.2.2.1
      · rw [if_pos e9] at hh
        cases hh
        obtain ⟨e1, e2, e3, e4, e5⟩ := e9
        refine ⟨j, rfl, h2, e1, e2, e4, e5, ?_, ?_⟩
        · simp; omega
        · rw [List.reverse_reverse]
          exact (List.take_append_drop _ _).symm
      · rw [if_neg e9] at hh; cases hh
theorem dwp_step {E : dE} {X : dX} {K : dKE} {b scr L : Nat} {xs : Nat → Int32} {post : Option Value → Nat → Nat → Prop} {n d : Nat} {r : dM} {pc : Nat} {lo : dL0} {st : List Value} {h : dH} {cs ss : Nat} (hh : dwp E X K b scr L xs post (n + 1) d r pc lo st h cs ss) : ∃ i len, decode r.2.1 pc = .ok (i, len) ∧
    ((∃ st', dscr scr L xs i len st = some st' ∧ dwp E X K b scr L xs post n d r (pc + len) lo st' h cs ss) ∨
     (∃ w, dpure i len pc r.2.2.1 lo st = some w ∧ dwp E X K b scr L xs post n d r w.1 w.2.1 w.2.2 h cs ss) ∨
     (∃ g, dheap E b d r i len st h cs ss = some g ∧ dwp E X K b scr L xs post n d r (pc + len) lo g.1 g.2.1 g.2.2.1 g.2.2.2) ∨
     (∃ v, dret r i len st = some v ∧ post v cs ss) ∨
     (∃ d' y k z, d = d' + 1 ∧ dinv E r.2.2.2.2.2.1 i len st h = some y ∧ drun E b k d' y.1 0 (dent y.2.1) [] h 0 0 = some z ∧ dwp E X K b scr L xs post n (d' + 1) r (pc + 3) lo (z.1.toList ++ y.2.2) z.2.1 (cs + z.2.2.1) (ss + z.2.2.2)) ∨
     (∃ d' y k z, d = d' + 1 ∧ dinvK K r.2.2.2.2.2.1 i len st h = some y ∧ drunC E X (K.2.2 y.1.1.2.2.2.2.2.1) y.1.2 b k d' y.1.1 0 (dent y.2.1) [] h 0 0 = some z ∧ (∃ w, dwN z.2.1 w) ∧ ∀ w, dwN z.2.1 w → dwp E X K b scr L xs post n (d' + 1) r (pc + 3) lo (z.1.toList ++ y.2.2) (some w, z.2.1.2) (cs + z.2.2.1) (ss + z.2.2.2))) := by
  rw [dwp] at hh
  cases hd : decode r.2.1 pc with
  | error x => rw [hd] at hh; exact hh.elim
  | ok x =>
    obtain ⟨i, len⟩ := x
    rw [hd] at hh
    refine ⟨i, len, rfl, ?_⟩
    dsimp only at hh
    cases h0 : dscr scr L xs i len st with
    | some st' => rw [h0] at hh; exact Or.inl ⟨st', rfl, hh⟩
    | none =>
      rw [h0] at hh
      dsimp only at hh
      cases h1 : dpure i len pc r.2.2.1 lo st with
      | some w => rw [h1] at hh; exact Or.inr (Or.inl ⟨w, rfl, hh⟩)
      | none =>
        rw [h1] at hh
        dsimp only at hh
        cases h2 : dheap E b d r i len st h cs ss with
        | some g => rw [h2] at hh; exact Or.inr (Or.inr (Or.inl ⟨g, rfl, hh⟩))
        | none =>
          rw [h2] at hh
          dsimp only at hh
          cases h3 : dret r i len st with
          | some v => rw [h3] at hh; exact Or.inr (Or.inr (Or.inr (Or.inl ⟨v, rfl, hh⟩)))
          | none =>
            rw [h3] at hh
            dsimp only at hh
            cases d with
            | zero => exact hh.elim
            | succ d =>
              dsimp only at hh
              rcases hh with ⟨y, k, z, a1, a2, a3⟩ | ⟨y, k, z, a1, a2, a4, a3⟩
              · exact Or.inr (Or.inr (Or.inr (Or.inr (Or.inl ⟨d, y, k, z, rfl, a1, a2, a3⟩))))
              · exact Or.inr (Or.inr (Or.inr (Or.inr (Or.inr ⟨d, y, k, z, rfl, a1, a2, a4, a3⟩))))
theorem dwp_mono {E : dE} {X : dX} {K : dKE} {b scr L : Nat} {xs : Nat → Int32} {post : Option Value → Nat → Nat → Prop} : ∀ (n d : Nat) (r : dM) (pc : Nat) (lo : dL0) (st : List Value) (h : dH) (cs ss : Nat), dwp E X K b scr L xs post n d r pc lo st h cs ss → ∃ v c' s', post v c' s' ∧ cs ≤ c' ∧ ss ≤ s' := by
  intro n
  induction n with
  | zero => intro d r pc lo st h cs ss hh; exact hh.elim
  | succ n ih =>
    intro d r pc lo st h cs ss hh
    obtain ⟨i, len, hd, ⟨st', h1, h2⟩ | ⟨w, h1, h2⟩ | ⟨g, h1, h2⟩ | ⟨v, h1, h2⟩ | ⟨d', y, k, z, rfl, h1, h2, h3⟩ | ⟨d', y, k, z, rfl, h1, h2, ⟨w0, hw0⟩, h3⟩⟩ := dwp_step hh
    · exact ih _ _ _ _ _ _ _ _ h2
    · exact ih _ _ _ _ _ _ _ _ h2
    · have a := dheap_mono h1
      obtain ⟨v, c', s', b1, b2, b3⟩ := ih _ _ _ _ _ _ _ _ h2
      exact ⟨v, c', s', b1, Nat.le_trans a.1 b2, Nat.le_trans a.2 b3⟩
    · exact ⟨v, cs, ss, h2, Nat.le_refl _, Nat.le_refl _⟩
    · obtain ⟨v, c', s', b1, b2, b3⟩ := ih _ _ _ _ _ _ _ _ h3
      exact ⟨v, c', s', b1, Nat.le_trans (Nat.le_add_right _ _) b2, Nat.le_trans (Nat.le_add_right _ _) b3⟩
    · obtain ⟨v, c', s', b1, b2, b3⟩ := ih _ _ _ _ _ _ _ _ (h3 w0 hw0)
      exact ⟨v, c', s', b1, Nat.le_trans (Nat.le_add_right _ _) b2, Nat.le_trans (Nat.le_add_right _ _) b3⟩
def dOKk (E : dE) (cl : List vw_C) (GW : List Cond) (SL : dSL) (K : dKE) (r : dM) : Prop :=
  (∀ j q, K.1 j = some q → dOKr E cl GW SL q.1 ∧ (Cond.codeWith q.1.1 q.1.2.1 q.1.2.2.1 q.1.2.2.2.1 q.2 ∈ GW ∧ (q.1.2.2.2.2.1 = true → Cond.static q.1.1 ∈ GW)) ∧ ∀ idx nm, K.2.2 q.1.2.2.2.2.2.1 idx = some nm → nm ∈ exs ∧ Cond.classLink q.1.1.cls idx nm ∈ GW) ∧
  ∀ idx j q, K.2.1 r.2.2.2.2.2.1 idx = some j → K.1 j = some q → Cond.methodLink r.1.cls idx q.1.1 ∈ GW
section DML
variable {E : dE} {X : dX} {K : dKE} {cl : List vw_C} {GW : List Cond} {SL : dSL} {D : va_G} {cy : Nat → ClassId} {b : Nat}
theorem d_goodK (hE : dOK E cl GW SL) {q : dM × dHH} (hc : Cond.codeWith q.1.1 q.1.2.1 q.1.2.2.1 q.1.2.2.2.1 q.2 ∈ GW) : ∀ w ∈ Cond.codeWith q.1.1 q.1.2.1 q.1.2.2.1 q.1.2.2.2.1 q.2 :: GW, w ∈ GW ∧ ((w.onTables && w.keeps) = true ∨ ∃ ty, w = .arrayClass ty) := by
  intro w hw
  rcases List.mem_cons.mp hw with rfl | hw
  · exact ⟨hc, good_of_word (hE.1 _ hc)⟩
  · exact ⟨hw, good_of_word (hE.1 _ hw)⟩
theorem d_np {y : MethodName} {n : Nat} (h : (parseMethodDescriptor y.desc).map (fun d => d.parameters.length) = some n) : ∀ sig, parseMethodDescriptor y.desc = some sig → n = sig.parameters.length := by
  intro sig hs
  rw [hs] at h
  exact (Option.some.inj h).symm
theorem dwp_sim (hE : dOK E cl GW SL) (hX : dOKx E X GW) {r : dM} (hr : dOKr E cl GW SL r) (hk : dOKk E cl GW SL K r) {scr L : Nat} {xs : Nat → Int32} {post : Option Value → Nat → Nat → Prop}
    {p : Program} {l : Launch} {e : Env} {R : Room} {s : State} {m : MethodId} {args : Array Value} {below : List Frame} {meth : Method} {c : Code} {Q : State → Prop}
    (hst : l.stackTraces = false) (hpost : ∀ v c' s', post v c' s' → c' ≤ R.cells ∧ s' ≤ R.slots) (hx : p.tables.exec = Jvm.exec) (hb : c.code = r.2.1) (hml : c.maxLocals = r.2.2.1) (hown : s.vm.findClass r.1.cls = some m.cls) (hts : ∀ w ∈ GW, w.before args s = true) (hmn : meth.name = r.1.name) (hK : dK D cl cy s) (hT : dT SL b s) (hXs : va_X scr L xs s s.heap) (hsl : scr < s.heap.size) (hsb : ¬ b ≤ scr)
    (hend : ∀ (v : Option Value) (cs ss pc : Nat) (H : Heap) (locs : List Loc) (ls : Array Slot) (st : List Value) (i : Instr) (len : Nat), post v cs ss → dret r i len st = some v → decode r.2.1 pc = .ok (i, len) → va_S (dB b) s.heap H locs → W p l e R s m args below meth c H locs cs ss Q (F0 m pc ls st)) :
    ∀ (n d pc : Nat) (lo : dL0) (st : List Value) (h : dH) (cs ss : Nat), dwp E X K b scr L xs post n d r pc lo st h cs ss → d ≤ R.frames → 100 * d ≤ R.locals →
    ∀ (H : Heap) (locs : List Loc) (ls : Array Slot), dR D cl cy h H → va_S (dB b) s.heap H locs → dL lo ls r.2.2.1 → W p l e R s m args below meth c H locs cs ss Q (F0 m pc ls st) := by
  intro n
  induction n with
  | zero => intro d pc lo st h cs ss hh; exact hh.elim
  | succ n ih =>
    intro d pc lo st h cs ss hh hf hlo H locs ls hR hS hl
    obtain ⟨i, len, hd, ⟨st', h1, h2⟩ | ⟨w, h1, h2⟩ | ⟨g, h1, h2⟩ | ⟨v, h1, h2⟩ | ⟨d', y, k, z, rfl, h1, h2, h3⟩ | ⟨d', y, k, z, rfl, h1, h2, ⟨w0, hw0⟩, h3⟩⟩ := dwp_step hh
    · obtain ⟨rfl, ⟨q, rr, rfl, rfl, h5, rfl⟩ | ⟨rr, rfl, rfl, rfl⟩⟩ := dscr_inv h1
      · exact va_sld (A := dB b) hx hb hXs hsl hsb hS h5 hd (ih d _ _ _ _ _ _ h2 hf hlo H locs ls hR hS hl)
      · exact va_slen (A := dB b) hx hb hXs hsl hsb hS hd (ih d _ _ _ _ _ _ h2 hf hlo H locs ls hR hS hl)
    · exact dpure_sim hx hb hd h1 hl (fun ls' hl' => ih d _ _ _ _ _ _ h2 hf hlo H locs ls' hR hS hl')
    · obtain ⟨v, c', s', b1, b2, b3⟩ := dwp_mono _ _ _ _ _ _ _ _ _ h2
      obtain ⟨b4, b5⟩ := hpost _ _ _ b1
      exact dheap_sim hE hr hf hlo hx hb (hml.trans hl.1.symm) hown hts hmn hK hT hR hS hd h1 (Nat.le_trans b2 b4) (Nat.le_trans b3 b5) (fun H1 locs1 hR1 hS1 => ih d _ _ _ _ _ _ h2 hf hlo H1 locs1 ls hR1 hS1 hl)
    · exact hend v cs ss pc H locs ls st i len h2 h1 hd hS
    · obtain ⟨v, c', s', b1, b2, b3⟩ := dwp_mono _ _ _ _ _ _ _ _ _ h3
      obtain ⟨b4, b5⟩ := hpost _ _ _ b1
      exact dcall_sim hE (dsim hE k d') hr h1 h2 hf hlo (Nat.le_trans b2 b4) (Nat.le_trans b3 b5) hx hb hml hown hts hK hT hR hS hl hd (fun H1 locs1 hR1 hS1 => ih (d' + 1) _ _ _ _ _ _ h3 hf hlo H1 locs1 ls hR1 hS1 hl)
    · obtain ⟨v, c', s', b1, b2, b3⟩ := dwp_mono _ _ _ _ _ _ _ _ _ (h3 w0 hw0)
      obtain ⟨b4, b5⟩ := hpost _ _ _ b1
      have hc9 := Nat.le_trans b2 b4
      have hs9 := Nat.le_trans b3 b5
      have hwarm : ∀ U : State, U.heap = H → s.WarmedH U.vm → dPre D cl cy SL b h U := fun U hU hW => ⟨by rw [hU]; exact hR, dK.moved hW.alike hK, dT.at hT hS hU hW⟩
      have kk : ∀ (H1 : Heap) (locs1 : List Loc), dR D cl cy z.2.1 H1 → va_S (dB b) s.heap H1 locs1 → W p l e R s m args below meth c H1 locs1 (cs + z.2.2.1) (ss + z.2.2.2) Q (F0 m (pc + 3) ls (z.1.toList ++ y.2.2)) := fun H1 locs1 hR1 hS1 =>
        ih (d' + 1) _ _ _ _ _ _ (h3 H1.size ⟨fun q hq => (hR1.1 q hq).symm, fun a x hx => (hR1.2 a x hx).lt⟩) hf hlo H1 locs1 ls ⟨fun q hq => Option.some.inj hq, hR1.2⟩ hS1 hl
      cases i with
      | invokevirtual idx =>
        obtain ⟨j', a, fs, g1, g2, g3, rfl, g5, gi, g6, g7, As, g8, g9, g10⟩ := dinvKV_inv h1
        obtain ⟨hq1, hq2, hq3⟩ := hk.1 j' y.1 g2
        obtain ⟨u1, u3, u4, u5, u6, u7, -⟩ := id hq1
        obtain ⟨v1, v2, T, N, v3⟩ := u7 g5
        have hM := dmetC (D := D) (cy := cy) hE hX hq1 hq3 h2 g7 l hst
        rw [g9] at hM
        have hrec : ∃ cell : Cell, H[a]? = some cell ∧ cell.vm.isStatics = false ∧ s.vm.findClass y.1.1.1.cls = some cell.cls := va_recv hK.1 (dP1 (hR.2 a _ g3)) v3 (q0 := 0) rfl
        have hrun := vx_runVW (p := p) (e := e) (H := H) (locs := locs) (cells := cs) (slots := ss) (below := below) (meth := meth) (g := F0 m pc ls st) (rest := y.2.2) (R := R) (hh := y.1.2) (bytes := y.1.1.2.1) (maxL := y.1.1.2.2.1) (ret := y.1.1.2.2.2.1) ⟨hx, hb, hml, hown, hts⟩ hM
          ⟨⟨rfl, rfl, hf, by show 8 + (y.1.1.2.2.1 + 11) + 100 * d' ≤ R.locals; omega, pay_in hts (d_goodK hE hq2.1), List.mem_cons_self⟩, hts _ hq2.1, hts _ u3, ⟨u4.1, u4.2.1⟩, d_np u4.2.2, hts _ (hk.2 idx j' y.1 g1 g2), hts _ v1, hts _ (v2 gi)⟩
          ⟨d_blind _ _, hrec, fun U hU hW => ⟨rfl, hwarm U hU hW⟩⟩ rfl g8 hl.1 g10 (lv_room g6) hd ⟨hc9, hs9⟩
        exact dcallW hrun hS kk
      | invokestatic idx =>
        obtain ⟨j', g1, g2, rfl, g5, g6, g7, g8, g10⟩ := dinvKS_inv h1
        obtain ⟨hq1, hq2, hq3⟩ := hk.1 j' y.1 g2
        obtain ⟨u1, u3, u4, u5, u6, u7, -⟩ := id hq1
        have hM := dmetC (D := D) (cy := cy) hE hX hq1 hq3 h2 g7 l hst
        have hrun := vx_runSW (p := p) (e := e) (H := H) (locs := locs) (cells := cs) (slots := ss) (below := below) (meth := meth) (g := F0 m pc ls st) (rest := y.2.2) (R := R) (hh := y.1.2) (bytes := y.1.1.2.1) (maxL := y.1.1.2.2.1) (ret := y.1.1.2.2.2.1) ⟨hx, hb, hml, hown, hts⟩ hM
          ⟨⟨rfl, rfl, hf, by show 8 + (y.1.1.2.2.1 + 11) + 100 * d' ≤ R.locals; omega, pay_in hts (d_goodK hE hq2.1), List.mem_cons_self⟩, hts _ hq2.1, hts _ u3, ⟨u4.1, u4.2.1⟩, d_np u4.2.2, hts _ (hk.2 idx j' y.1 g1 g2), hts _ (hq2.2 g5)⟩
          ⟨d_blind _ _, fun U hU hW => ⟨rfl, hwarm U hU hW⟩⟩ rfl g8 hl.1 g10 (lv_room g6) hd ⟨hc9, hs9⟩
        exact dcallW hrun hS kk
      | _ => cases h1
end DML
