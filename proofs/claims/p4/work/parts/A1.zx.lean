/-! runs that return or throw, without their fuel -/
def dGoX (E : dE) (X : dX) (b d : Nat) (r : dM) (pc : Nat) (lo : dL0) (st : List Value) (h : dH) (cs ss : Nat) (z : dY) : Prop := ∃ n, drunX E X b n d r pc lo st h cs ss = some z
/-- what is made to be thrown is made by no other way -/
def xApart (E : dE) (X : dX) : Prop := ∀ o i cls, X.1 o i = some cls → eNW E o i = none
theorem dxat_no {E : dE} {X : dX} {r : dM} {pc : Nat} {i : Instr} {len : Nat} (hd : decode r.2.1 pc = .ok (i, len)) (hi : ∀ ik, i = .new ik → X.1 r.2.2.2.2.2.1 ik = none) : dxat E X r pc = none := by
  cases h : dxat E X r pc with
  | none => rfl
  | some cls =>
    obtain ⟨ik, is, ic, sa, h1, -, h3, -⟩ := dxat_inv h
    rw [hd] at h1
    have e : i = .new ik := by cases h1; rfl
    rw [hi ik e] at h3
    cases h3
theorem dinv_ret {E : dE} {o : Nat} {i : Instr} {len : Nat} {st : List Value} {h : dH} {y : dV} {r : dM} (hh : dinv E o i len st h = some y) : dret r i len st = none := by
  cases i <;> first | rfl | cases hh
theorem drun_zero {E : dE} {b d : Nat} {r : dM} {pc : Nat} {lo : dL0} {st : List Value} {h : dH} {cs ss : Nat} : drun E b 0 d r pc lo st h cs ss = none := rfl
/-- a run that throws doesn't return -/
theorem drunX_not {E : dE} {X : dX} (hX : xApart E X) {b : Nat} : ∀ (n d : Nat) (r : dM) (pc : Nat) (lo : dL0) (st : List Value) (h : dH) (cs ss : Nat) (z : dY), drunX E X b n d r pc lo st h cs ss = some z → ∀ m, drun E b m d r pc lo st h cs ss = none := by
  intro n
  induction n with
  | zero => intro d r pc lo st h cs ss z hh; cases hh
  | succ n ih =>
    intro d r pc lo st h cs ss z hh m
    cases m with
    | zero => rfl
    | succ m =>
      cases hq : drun E b (m + 1) d r pc lo st h cs ss with
      | none => rfl
      | some q =>
        exfalso
        obtain ⟨i, len, hd, hs⟩ := drun_split hq
        rw [drunX] at hh
        cases hxa : dxat E X r pc with
        | some cls =>
          obtain ⟨ik, is, ic, sa, h1, -, h3, -⟩ := dxat_inv hxa
          rw [h1] at hd
          have e : i = .new ik := by cases hd; rfl
          subst e
          have hn : eNW E r.2.2.2.2.2.1 ik = none := hX _ _ _ h3
          rcases hs with ⟨w, g1, -⟩ | ⟨g, -, g1, -⟩ | ⟨v, -, -, g1, -⟩ | ⟨d', y, w, -, -, -, -, g1, -⟩
          · cases g1
          · have g1 : dnewo E r.2.2.2.2.2.1 len ik st h cs ss = some g := g1
            unfold dnewo at g1
            rw [hn] at g1
            cases g1
          · cases g1
          · cases g1
        | none =>
          rw [hxa] at hh
          dsimp only at hh
          rw [hd] at hh
          dsimp only at hh
          rcases hs with ⟨w, g1, g2⟩ | ⟨g, g0, g1, g2⟩ | ⟨v, g0, g1, g2, -⟩ | ⟨d', y, w, rfl, g0, g1, g2, g3, g4, g5⟩
          · rw [g1] at hh
            dsimp only at hh
            rw [ih _ _ _ _ _ _ _ _ _ hh m] at g2
            cases g2
          · rw [g0] at hh
            dsimp only at hh
            rw [g1] at hh
            dsimp only at hh
            rw [ih _ _ _ _ _ _ _ _ _ hh m] at g2
            cases g2
          · rw [g0] at hh
            dsimp only at hh
            rw [g1] at hh
            dsimp only at hh
            cases d with
            | zero => cases hh
            | succ d =>
              dsimp only at hh
              cases hy : dinv E r.2.2.2.2.2.1 i len st h with
              | none => rw [hy] at hh; cases hh
              | some y => rw [dinv_ret (r := r) hy] at g2; cases g2
          · rw [g0] at hh
            dsimp only at hh
            rw [g1] at hh
            dsimp only at hh
            rw [g3] at hh
            dsimp only at hh
            cases hw : drun E b n d' y.1 0 (dent y.2.1) [] h 0 0 with
            | some w2 =>
              rw [hw] at hh
              dsimp only at hh
              have e : w2 = w := by
                have a1 := drun_le (Nat.le_max_left n m) hw
                have a2 := drun_le (Nat.le_max_right n m) g4
                rw [a1] at a2
                exact Option.some.inj a2
              subst e
              rw [ih _ _ _ _ _ _ _ _ _ hh m] at g5
              cases g5
            | none =>
              rw [hw] at hh
              dsimp only at hh
              cases i with
              | invokevirtual idx =>
                dsimp only at hh
                cases hz : drunX E X b n d' y.1 0 (dent y.2.1) [] h 0 0 with
                | none => rw [hz] at hh; cases hh
                | some z2 => rw [ih _ _ _ _ _ _ _ _ _ hz m] at g4; cases g4
              | _ => cases hh
section DX
variable {E : dE} {X : dX} {b d : Nat} {r : dM} {pc : Nat} {lo : dL0} {st : List Value} {h : dH} {cs ss : Nat} {z : dY} {i : Instr} {len : Nat}
theorem dx_pure {n : Nat} {w : dP} (hx : dxat E X r pc = none) (hd : decode r.2.1 pc = .ok (i, len)) (hw : dpure i len pc r.2.2.1 lo st = some w) : drunX E X b (n + 1) d r pc lo st h cs ss = drunX E X b n d r w.1 w.2.1 w.2.2 h cs ss := by
  rw [drunX, hx]; dsimp only; rw [hd]; dsimp only; rw [hw]
theorem dx_heap {n : Nat} {g : dG} (hx : dxat E X r pc = none) (hd : decode r.2.1 pc = .ok (i, len)) (h0 : dpure i len pc r.2.2.1 lo st = none) (hg : dheap E b d r i len st h cs ss = some g) : drunX E X b (n + 1) d r pc lo st h cs ss = drunX E X b n d r (pc + len) lo g.1 g.2.1 g.2.2.1 g.2.2.2 := by
  rw [drunX, hx]; dsimp only; rw [hd]; dsimp only; rw [h0]; dsimp only; rw [hg]
theorem dx_call {n : Nat} {y : dV} {w : dZ} (hx : dxat E X r pc = none) (hd : decode r.2.1 pc = .ok (i, len)) (h0 : dpure i len pc r.2.2.1 lo st = none) (h1 : dheap E b (d + 1) r i len st h cs ss = none) (hy : dinv E r.2.2.2.2.2.1 i len st h = some y) (hw : drun E b n d y.1 0 (dent y.2.1) [] h 0 0 = some w) : drunX E X b (n + 1) (d + 1) r pc lo st h cs ss = drunX E X b n (d + 1) r (pc + 3) lo (w.1.toList ++ y.2.2) w.2.1 (cs + w.2.2.1) (ss + w.2.2.2) := by
  rw [drunX, hx]; dsimp only; rw [hd]; dsimp only; rw [h0]; dsimp only; rw [h1]; dsimp only; rw [hy]; dsimp only; rw [hw]
theorem dx_callx {n idx : Nat} {y : dV} {w : dY} (hx : dxat E X r pc = none) (hd : decode r.2.1 pc = .ok (.invokevirtual idx, 3)) (h1 : dheap E b (d + 1) r (.invokevirtual idx) 3 st h cs ss = none) (hy : dinv E r.2.2.2.2.2.1 (.invokevirtual idx) 3 st h = some y) (h2 : drun E b n d y.1 0 (dent y.2.1) [] h 0 0 = none) (hw : drunX E X b n d y.1 0 (dent y.2.1) [] h 0 0 = some w) : drunX E X b (n + 1) (d + 1) r pc lo st h cs ss = some (w.1, w.2.1, cs + w.2.2.1, ss + w.2.2.2) := by
  rw [drunX, hx]; dsimp only; rw [hd]; dsimp only
  rw [show dpure (.invokevirtual idx) 3 pc r.2.2.1 lo st = none from rfl]; dsimp only; rw [h1]; dsimp only; rw [hy]; dsimp only; rw [h2]; dsimp only; rw [hw]
end DX
theorem drunX_more {E : dE} {X : dX} (hX : xApart E X) {b : Nat} : ∀ (n d : Nat) (r : dM) (pc : Nat) (lo : dL0) (st : List Value) (h : dH) (cs ss : Nat) (z : dY), drunX E X b n d r pc lo st h cs ss = some z → drunX E X b (n + 1) d r pc lo st h cs ss = some z := by
  intro n
  induction n with
  | zero => intro d r pc lo st h cs ss z hh; cases hh
  | succ n ih =>
    intro d r pc lo st h cs ss z hh
    have hh0 := hh
    rw [drunX] at hh
    cases hxa : dxat E X r pc with
    | some cls => rw [hxa] at hh; rw [drunX, hxa]; exact hh
    | none =>
      rw [hxa] at hh
      dsimp only at hh
      cases hd : decode r.2.1 pc with
      | error x => rw [hd] at hh; cases hh
      | ok x =>
        obtain ⟨i, len⟩ := x
        rw [hd] at hh
        dsimp only at hh
        cases h1 : dpure i len pc r.2.2.1 lo st with
        | some w => rw [h1] at hh; rw [dx_pure hxa hd h1]; exact ih _ _ _ _ _ _ _ _ _ hh
        | none =>
          rw [h1] at hh
          dsimp only at hh
          cases h2 : dheap E b d r i len st h cs ss with
          | some g => rw [h2] at hh; rw [dx_heap hxa hd h1 h2]; exact ih _ _ _ _ _ _ _ _ _ hh
          | none =>
            rw [h2] at hh
            dsimp only at hh
            cases d with
            | zero => cases hh
            | succ d =>
              dsimp only at hh
              cases h4 : dinv E r.2.2.2.2.2.1 i len st h with
              | none => rw [h4] at hh; cases hh
              | some y =>
                rw [h4] at hh
                dsimp only at hh
                cases h5 : drun E b n d y.1 0 (dent y.2.1) [] h 0 0 with
                | some w => rw [h5] at hh; rw [dx_call hxa hd h1 h2 h4 (drun_more _ _ _ _ _ _ _ _ _ _ h5)]; exact ih _ _ _ _ _ _ _ _ _ hh
                | none =>
                  rw [h5] at hh
                  dsimp only at hh
                  cases i with
                  | invokevirtual idx =>
                    dsimp only at hh
                    cases hz : drunX E X b n d y.1 0 (dent y.2.1) [] h 0 0 with
                    | none => rw [hz] at hh; cases hh
                    | some z2 =>
                      rw [hz] at hh
                      have hl : len = 3 := by
                        have h4 : dinvV E r.2.2.2.2.2.1 len idx st h = some y := h4
                        unfold dinvV at h4
                        split at h4
                        · split at h4
                          · split at h4
                            · split at h4
                              next e9 => exact e9.1
                              · cases h4
                            · cases h4
                          · cases h4
                        · cases h4
                      subst hl
                      rw [dx_callx hxa hd h2 h4 (drunX_not hX _ _ _ _ _ _ _ _ _ _ hz _) (ih _ _ _ _ _ _ _ _ _ hz)]
                      exact hh
                  | _ => cases hh
theorem drunX_le {E : dE} {X : dX} (hX : xApart E X) {b n m d : Nat} {r : dM} {pc : Nat} {lo : dL0} {st : List Value} {h : dH} {cs ss : Nat} {z : dY} (hle : n ≤ m) (hh : drunX E X b n d r pc lo st h cs ss = some z) : drunX E X b m d r pc lo st h cs ss = some z := by
  induction m with
  | zero => obtain rfl : n = 0 := by omega
            exact hh
  | succ m ih =>
    by_cases e : n = m + 1
    · subst e; exact hh
    · exact drunX_more hX _ _ _ _ _ _ _ _ _ _ (ih (by omega))
/-- both: what a run comes to -/
abbrev dW : Type := dZ ⊕ dY
def dGG (E : dE) (X : dX) (b d : Nat) (r : dM) (pc : Nat) (lo : dL0) (st : List Value) (h : dH) (cs ss : Nat) (z : dW) : Prop := match z with
  | .inl z => dGo E b d r pc lo st h cs ss z
  | .inr z => dGoX E X b d r pc lo st h cs ss z
section DG2
variable {E : dE} {X : dX} {b d : Nat} {r : dM} {pc : Nat} {lo : dL0} {st : List Value} {h : dH} {cs ss : Nat} {z : dW} {i : Instr} {len : Nat}
theorem gg_pure {w : dP} (hx : dxat E X r pc = none) (hd : decode r.2.1 pc = .ok (i, len)) (hw : dpure i len pc r.2.2.1 lo st = some w) (k : dGG E X b d r w.1 w.2.1 w.2.2 h cs ss z) : dGG E X b d r pc lo st h cs ss z := by
  cases z with
  | inl z => exact go_pure hd hw k
  | inr z => obtain ⟨n, hn⟩ := k; exact ⟨n + 1, by rw [dx_pure hx hd hw]; exact hn⟩
theorem gg_heap {g : dG} (hx : dxat E X r pc = none) (hd : decode r.2.1 pc = .ok (i, len)) (h0 : dpure i len pc r.2.2.1 lo st = none) (hg : dheap E b d r i len st h cs ss = some g) (k : dGG E X b d r (pc + len) lo g.1 g.2.1 g.2.2.1 g.2.2.2 z) : dGG E X b d r pc lo st h cs ss z := by
  cases z with
  | inl z => exact go_heap hd h0 hg k
  | inr z => obtain ⟨n, hn⟩ := k; exact ⟨n + 1, by rw [dx_heap hx hd h0 hg]; exact hn⟩
theorem gg_call (hX : xApart E X) {y : dV} {w : dZ} (hx : dxat E X r pc = none) (hd : decode r.2.1 pc = .ok (i, len)) (h0 : dpure i len pc r.2.2.1 lo st = none) (h1 : dheap E b (d + 1) r i len st h cs ss = none) (hy : dinv E r.2.2.2.2.2.1 i len st h = some y) (hw : dGo E b d y.1 0 (dent y.2.1) [] h 0 0 w) (k : dGG E X b (d + 1) r (pc + 3) lo (w.1.toList ++ y.2.2) w.2.1 (cs + w.2.2.1) (ss + w.2.2.2) z) : dGG E X b (d + 1) r pc lo st h cs ss z := by
  cases z with
  | inl z => exact go_call hd h0 h1 (dinv_ret hy) hy hw k
  | inr z =>
    obtain ⟨n, hn⟩ := hw
    obtain ⟨n2, hn2⟩ := k
    refine ⟨max n n2 + 1, ?_⟩
    rw [dx_call hx hd h0 h1 hy (drun_le (Nat.le_max_left _ _) hn)]
    exact drunX_le hX (Nat.le_max_right _ _) hn2
theorem gg_callx (hX : xApart E X) {idx : Nat} {y : dV} {w : dY} (hx : dxat E X r pc = none) (hd : decode r.2.1 pc = .ok (.invokevirtual idx, 3)) (h1 : dheap E b (d + 1) r (.invokevirtual idx) 3 st h cs ss = none) (hy : dinv E r.2.2.2.2.2.1 (.invokevirtual idx) 3 st h = some y) (hw : dGoX E X b d y.1 0 (dent y.2.1) [] h 0 0 w) : dGG E X b (d + 1) r pc lo st h cs ss (.inr (w.1, w.2.1, cs + w.2.2.1, ss + w.2.2.2)) := by
  obtain ⟨n, hn⟩ := hw
  exact ⟨n + 1, dx_callx hx hd h1 hy (drunX_not hX _ _ _ _ _ _ _ _ _ _ hn _) hn⟩
theorem gg_thr {cls : String} (hx : dxat E X r pc = some cls) (h8 : 8 ≤ d) (hc : (st.map fun v => v.category).sum ≤ 8) : dGG E X b d r pc lo st h cs ss (.inr (cls, (none, h.2), cs + 1, ss + 6)) := ⟨1, by rw [drunX, hx]; dsimp only; rw [if_pos ⟨h8, hc⟩]⟩
end DG2
theorem dXX_apart (sa : Nat → Nat) (TL : List (Nat × Nat × List Int32)) : xApart (dEE sa TL) dXX := by
  intro o i cls h
  have key : ∀ q ∈ osA, ∀ y ∈ tX1 q, (tNW q).lookup y.1 = none := by decide +kernel
  have h : (tX1 o).lookup i = some cls := h
  show (tNW o).lookup i = none
  have hm := d_lk h
  by_cases e : o ∈ osA
  · exact key o e _ hm
  · have e2 : tX1 o = [] := by
      unfold tX1
      split <;> first | rfl | exact absurd (by decide) e
    rw [e2] at hm
    cases hm
/-! runs with more room for calls -/
theorem drunX_up {E : dE} {X : dX} (hX : xApart E X) {b : Nat} : ∀ (n d : Nat) (r : dM) (pc : Nat) (lo : dL0) (st : List Value) (h : dH) (cs ss : Nat) (z : dY), drunX E X b n d r pc lo st h cs ss = some z → drunX E X b n (d + 1) r pc lo st h cs ss = some z := by
  intro n
  induction n with
  | zero => intro d r pc lo st h cs ss z hh; cases hh
  | succ n ih =>
    intro d r pc lo st h cs ss z hh
    rw [drunX] at hh
    cases hxa : dxat E X r pc with
    | some cls =>
      rw [hxa] at hh
      dsimp only at hh
      by_cases e9 : 8 ≤ d ∧ (st.map fun v => v.category).sum ≤ 8
      · rw [if_pos e9] at hh
        rw [drunX, hxa]
        dsimp only
        rw [if_pos ⟨Nat.le_succ_of_le e9.1, e9.2⟩]
        exact hh
      · rw [if_neg e9] at hh; cases hh
    | none =>
      rw [hxa] at hh
      dsimp only at hh
      cases hd : decode r.2.1 pc with
      | error x => rw [hd] at hh; cases hh
      | ok x =>
        obtain ⟨i, len⟩ := x
        rw [hd] at hh
        dsimp only at hh
        cases h1 : dpure i len pc r.2.2.1 lo st with
        | some w => rw [h1] at hh; rw [dx_pure hxa hd h1]; exact ih _ _ _ _ _ _ _ _ _ hh
        | none =>
          rw [h1] at hh
          dsimp only at hh
          cases h2 : dheap E b d r i len st h cs ss with
          | some g =>
            rw [h2] at hh
            have h2' : dheap E b (d + 1) r i len st h cs ss = some g := by
              cases d with
              | zero => exact dheap_up0 h2
              | succ d => rw [← dheap_up]; exact h2
            rw [dx_heap hxa hd h1 h2']; exact ih _ _ _ _ _ _ _ _ _ hh
          | none =>
            rw [h2] at hh
            dsimp only at hh
            cases d with
            | zero => cases hh
            | succ d =>
              dsimp only at hh
              have h2' : dheap E b (d + 2) r i len st h cs ss = none := by rw [← dheap_up]; exact h2
              cases h4 : dinv E r.2.2.2.2.2.1 i len st h with
              | none => rw [h4] at hh; cases hh
              | some y =>
                rw [h4] at hh
                dsimp only at hh
                cases h5 : drun E b n d y.1 0 (dent y.2.1) [] h 0 0 with
                | some w => rw [h5] at hh; rw [dx_call hxa hd h1 h2' h4 (drun_up _ _ _ _ _ _ _ _ _ _ h5)]; exact ih _ _ _ _ _ _ _ _ _ hh
                | none =>
                  rw [h5] at hh
                  dsimp only at hh
                  cases i with
                  | invokevirtual idx =>
                    dsimp only at hh
                    cases hz : drunX E X b n d y.1 0 (dent y.2.1) [] h 0 0 with
                    | none => rw [hz] at hh; cases hh
                    | some z2 =>
                      rw [hz] at hh
                      have hl : len = 3 := by
                        have h4 : dinvV E r.2.2.2.2.2.1 len idx st h = some y := h4
                        unfold dinvV at h4
                        split at h4
                        · split at h4
                          · split at h4
                            · split at h4
                              next e9 => exact e9.1
                              · cases h4
                            · cases h4
                          · cases h4
                        · cases h4
                      subst hl
                      rw [dx_callx hxa hd h2' h4 (drunX_not hX _ _ _ _ _ _ _ _ _ _ (ih _ _ _ _ _ _ _ _ _ hz) _) (ih _ _ _ _ _ _ _ _ _ hz)]
                      exact hh
                  | _ => cases hh
theorem gox_up {E : dE} {X : dX} (hX : xApart E X) {b d d' : Nat} {r : dM} {pc : Nat} {lo : dL0} {st : List Value} {h : dH} {cs ss : Nat} {z : dY} (hle : d ≤ d') (hh : dGoX E X b d r pc lo st h cs ss z) : dGoX E X b d' r pc lo st h cs ss z := by
  induction d' with
  | zero => obtain rfl : d = 0 := by omega
            exact hh
  | succ m ih =>
    by_cases e : d = m + 1
    · subst e; exact hh
    · obtain ⟨n, hn⟩ := ih (by omega)
      exact ⟨n, drunX_up hX _ _ _ _ _ _ _ _ _ _ hn⟩
