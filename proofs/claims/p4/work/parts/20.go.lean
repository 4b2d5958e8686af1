/-! runs without their fuel -/
def dGo (E : dE) (b d : Nat) (r : dM) (pc : Nat) (lo : dL0) (st : List Value) (h : dH) (cs ss : Nat) (z : dZ) : Prop := ∃ n, drun E b n d r pc lo st h cs ss = some z
section DGO
variable {E : dE} {b d : Nat} {r : dM} {pc : Nat} {lo : dL0} {st : List Value} {h : dH} {cs ss : Nat} {z : dZ} {i : Instr} {len : Nat}
theorem drun_pure {n : Nat} {w : dP} (hd : decode r.2.1 pc = .ok (i, len)) (hw : dpure i len pc r.2.2.1 lo st = some w) : drun E b (n + 1) d r pc lo st h cs ss = drun E b n d r w.1 w.2.1 w.2.2 h cs ss := by
  rw [drun, hd]; dsimp only; rw [hw]
theorem drun_heap {n : Nat} {g : dG} (hd : decode r.2.1 pc = .ok (i, len)) (h0 : dpure i len pc r.2.2.1 lo st = none) (hg : dheap E b d r i len st h cs ss = some g) : drun E b (n + 1) d r pc lo st h cs ss = drun E b n d r (pc + len) lo g.1 g.2.1 g.2.2.1 g.2.2.2 := by
  rw [drun, hd]; dsimp only; rw [h0]; dsimp only; rw [hg]
theorem drun_ret {n : Nat} {v : Option Value} (hd : decode r.2.1 pc = .ok (i, len)) (h0 : dpure i len pc r.2.2.1 lo st = none) (h1 : dheap E b d r i len st h cs ss = none) (hv : dret r i len st = some v) : drun E b (n + 1) d r pc lo st h cs ss = some (v, h, cs, ss) := by
  rw [drun, hd]; dsimp only; rw [h0]; dsimp only; rw [h1]; dsimp only; rw [hv]
theorem drun_call {n : Nat} {y : dV} {w : dZ} (hd : decode r.2.1 pc = .ok (i, len)) (h0 : dpure i len pc r.2.2.1 lo st = none) (h1 : dheap E b (d + 1) r i len st h cs ss = none) (h2 : dret r i len st = none) (hy : dinv E r.2.2.2.2.2.1 i len st h = some y) (hw : drun E b n d y.1 0 (dent y.2.1) [] h 0 0 = some w) : drun E b (n + 1) (d + 1) r pc lo st h cs ss = drun E b n (d + 1) r (pc + 3) lo (w.1.toList ++ y.2.2) w.2.1 (cs + w.2.2.1) (ss + w.2.2.2) := by
  rw [drun, hd]; dsimp only; rw [h0]; dsimp only; rw [h1]; dsimp only; rw [h2]; dsimp only; rw [hy]; dsimp only; rw [hw]
end DGO
theorem drun_split {E : dE} {b n d : Nat} {r : dM} {pc : Nat} {lo : dL0} {st : List Value} {h : dH} {cs ss : Nat} {z : dZ} (hh : drun E b (n + 1) d r pc lo st h cs ss = some z) : ∃ i len, decode r.2.1 pc = .ok (i, len) ∧
    ((∃ w, dpure i len pc r.2.2.1 lo st = some w ∧ drun E b n d r w.1 w.2.1 w.2.2 h cs ss = some z) ∨
     (∃ g, dpure i len pc r.2.2.1 lo st = none ∧ dheap E b d r i len st h cs ss = some g ∧ drun E b n d r (pc + len) lo g.1 g.2.1 g.2.2.1 g.2.2.2 = some z) ∨
     (∃ v, dpure i len pc r.2.2.1 lo st = none ∧ dheap E b d r i len st h cs ss = none ∧ dret r i len st = some v ∧ z = (v, h, cs, ss)) ∨
     (∃ d' y w, d = d' + 1 ∧ dpure i len pc r.2.2.1 lo st = none ∧ dheap E b (d' + 1) r i len st h cs ss = none ∧ dret r i len st = none ∧ dinv E r.2.2.2.2.2.1 i len st h = some y ∧ drun E b n d' y.1 0 (dent y.2.1) [] h 0 0 = some w ∧ drun E b n (d' + 1) r (pc + 3) lo (w.1.toList ++ y.2.2) w.2.1 (cs + w.2.2.1) (ss + w.2.2.2) = some z)) := by
  rw [drun] at hh
  cases hd : decode r.2.1 pc with
  | error x => rw [hd] at hh; cases hh
  | ok x =>
    obtain ⟨i, len⟩ := x
    rw [hd] at hh
    refine ⟨i, len, rfl, ?_⟩
    dsimp only at hh
    cases h1 : dpure i len pc r.2.2.1 lo st with
    | some w => rw [h1] at hh; exact Or.inl ⟨w, rfl, hh⟩
    | none =>
      rw [h1] at hh
      dsimp only at hh
      cases h2 : dheap E b d r i len st h cs ss with
      | some g => rw [h2] at hh; exact Or.inr (Or.inl ⟨g, rfl, rfl, hh⟩)
      | none =>
        rw [h2] at hh
        dsimp only at hh
        cases h3 : dret r i len st with
        | some v => rw [h3] at hh; cases hh; exact Or.inr (Or.inr (Or.inl ⟨v, rfl, rfl, rfl, rfl⟩))
        | none =>
          rw [h3] at hh
          dsimp only at hh
          cases d with
          | zero => cases hh
          | succ d =>
            dsimp only at hh
            cases h4 : dinv E r.2.2.2.2.2.1 i len st h with
            | none => rw [h4] at hh; cases hh
            | some y =>
              rw [h4] at hh
              dsimp only at hh
              cases h5 : drun E b n d y.1 0 (dent y.2.1) [] h 0 0 with
              | none => rw [h5] at hh; cases hh
              | some w => rw [h5] at hh; exact Or.inr (Or.inr (Or.inr ⟨d, y, w, rfl, rfl, h2, rfl, rfl, h5, hh⟩))
theorem drun_more {E : dE} {b : Nat} : ∀ (n d : Nat) (r : dM) (pc : Nat) (lo : dL0) (st : List Value) (h : dH) (cs ss : Nat) (z : dZ), drun E b n d r pc lo st h cs ss = some z → drun E b (n + 1) d r pc lo st h cs ss = some z := by
  intro n
  induction n with
  | zero => intro d r pc lo st h cs ss z hh; cases hh
  | succ n ih =>
    intro d r pc lo st h cs ss z hh
    obtain ⟨i, len, hd, ⟨w, h1, h2⟩ | ⟨g, h0, h1, h2⟩ | ⟨v, h0, h1, h2, rfl⟩ | ⟨d', y, w, rfl, h0, h1, h2, h3, h4, h5⟩⟩ := drun_split hh
    · rw [drun_pure hd h1]; exact ih _ _ _ _ _ _ _ _ _ h2
    · rw [drun_heap hd h0 h1]; exact ih _ _ _ _ _ _ _ _ _ h2
    · exact drun_ret hd h0 h1 h2
    · rw [drun_call hd h0 h1 h2 h3 (ih _ _ _ _ _ _ _ _ _ h4)]; exact ih _ _ _ _ _ _ _ _ _ h5
theorem drun_le {E : dE} {b n m d : Nat} {r : dM} {pc : Nat} {lo : dL0} {st : List Value} {h : dH} {cs ss : Nat} {z : dZ} (hle : n ≤ m) (hh : drun E b n d r pc lo st h cs ss = some z) : drun E b m d r pc lo st h cs ss = some z := by
  induction m with
  | zero => obtain rfl : n = 0 := by omega
            exact hh
  | succ m ih =>
    by_cases e : n = m + 1
    · subst e; exact hh
    · exact drun_more _ _ _ _ _ _ _ _ _ _ (ih (by omega))
section DGO2
variable {E : dE} {b d : Nat} {r : dM} {pc : Nat} {lo : dL0} {st : List Value} {h : dH} {cs ss : Nat} {z : dZ} {i : Instr} {len : Nat}
theorem go_pure {w : dP} (hd : decode r.2.1 pc = .ok (i, len)) (hw : dpure i len pc r.2.2.1 lo st = some w) (k : dGo E b d r w.1 w.2.1 w.2.2 h cs ss z) : dGo E b d r pc lo st h cs ss z := by
  obtain ⟨n, hn⟩ := k; exact ⟨n + 1, by rw [drun_pure hd hw]; exact hn⟩
theorem go_heap {g : dG} (hd : decode r.2.1 pc = .ok (i, len)) (h0 : dpure i len pc r.2.2.1 lo st = none) (hg : dheap E b d r i len st h cs ss = some g) (k : dGo E b d r (pc + len) lo g.1 g.2.1 g.2.2.1 g.2.2.2 z) : dGo E b d r pc lo st h cs ss z := by
  obtain ⟨n, hn⟩ := k; exact ⟨n + 1, by rw [drun_heap hd h0 hg]; exact hn⟩
theorem go_ret {v : Option Value} (hd : decode r.2.1 pc = .ok (i, len)) (h0 : dpure i len pc r.2.2.1 lo st = none) (h1 : dheap E b d r i len st h cs ss = none) (hv : dret r i len st = some v) : dGo E b d r pc lo st h cs ss (v, h, cs, ss) := ⟨1, drun_ret hd h0 h1 hv⟩
theorem go_call {y : dV} {w : dZ} (hd : decode r.2.1 pc = .ok (i, len)) (h0 : dpure i len pc r.2.2.1 lo st = none) (h1 : dheap E b (d + 1) r i len st h cs ss = none) (h2 : dret r i len st = none) (hy : dinv E r.2.2.2.2.2.1 i len st h = some y) (hw : dGo E b d y.1 0 (dent y.2.1) [] h 0 0 w) (k : dGo E b (d + 1) r (pc + 3) lo (w.1.toList ++ y.2.2) w.2.1 (cs + w.2.2.1) (ss + w.2.2.2) z) : dGo E b (d + 1) r pc lo st h cs ss z := by
  obtain ⟨n, hn⟩ := hw
  obtain ⟨n2, hn2⟩ := k
  refine ⟨max n n2 + 1, ?_⟩
  rw [drun_call hd h0 h1 h2 hy (drun_le (Nat.le_max_left _ _) hn)]
  exact drun_le (Nat.le_max_right _ _) hn2
end DGO2
