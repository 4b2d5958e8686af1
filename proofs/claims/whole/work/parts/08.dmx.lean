/-! throws: runs of the small machine that end with one -/
def xnm : List String := ["java/lang/RuntimeException", "java/lang/Exception"]
def xB (cls : String) : List Cond := [.castable cls cls, .declares (Bundle.initS "java/lang/RuntimeException"), .declares (Bundle.initS "java/lang/Exception"), .declares (Bundle.initS "java/lang/Throwable")]
/-- which classes are made to be thrown (by the entry of 'new', of <init>) -/
abbrev dX : Type := (Nat → Nat → Option String) × (Nat → Nat → Option String)
def dxat (E : dE) (X : dX) (r : dM) (pc : Nat) : Option String := match decode r.2.1 pc with
  | .ok (.new ik, 3) => match X.1 r.2.2.2.2.2.1 ik with
    | some cls => match decode r.2.1 (pc + 3) with
      | .ok (.dup, 1) => match decode r.2.1 (pc + 4) with
        | .ok (.ldc is, 2) => match decode r.2.1 (pc + 6) with
          | .ok (.invokespecial ic, 3) => match decode r.2.1 (pc + 9) with
            | .ok (.athrow, 1) => if X.2 r.2.2.2.2.2.1 ic = some cls ∧ (eSR E r.2.2.2.2.2.1 is).isSome = true then some cls else none
            | _ => none
          | _ => none
        | .ok (.ldc_w is, 3) => match decode r.2.1 (pc + 7) with
          | .ok (.invokespecial ic, 3) => match decode r.2.1 (pc + 10) with
            | .ok (.athrow, 1) => if X.2 r.2.2.2.2.2.1 ic = some cls ∧ (eSR E r.2.2.2.2.2.1 is).isSome = true then some cls else none
            | _ => none
          | _ => none
        | _ => none
      | _ => none
    | none => none
  | _ => none
theorem dxat_inv {E : dE} {X : dX} {r : dM} {pc : Nat} {cls : String} (hh : dxat E X r pc = some cls) : ∃ ik is ic sa, decode r.2.1 pc = .ok (.new ik, 3) ∧ decode r.2.1 (pc + 3) = .ok (.dup, 1) ∧ X.1 r.2.2.2.2.2.1 ik = some cls ∧ X.2 r.2.2.2.2.2.1 ic = some cls ∧ eSR E r.2.2.2.2.2.1 is = some sa ∧
    ((decode r.2.1 (pc + 4) = .ok (.ldc is, 2) ∧ decode r.2.1 (pc + 6) = .ok (.invokespecial ic, 3) ∧ decode r.2.1 (pc + 9) = .ok (.athrow, 1)) ∨ (decode r.2.1 (pc + 4) = .ok (.ldc_w is, 3) ∧ decode r.2.1 (pc + 7) = .ok (.invokespecial ic, 3) ∧ decode r.2.1 (pc + 10) = .ok (.athrow, 1))) := by
  unfold dxat at hh
  split at hh
  next ik h1 =>
    split at hh
    next c2 h2 =>
      split at hh
      next h3 =>
        split at hh
        next is h4 =>
          split at hh
          next ic h5 =>
            split at hh
            next h6 =>
              by_cases e9 : X.2 r.2.2.2.2.2.1 ic = some c2 ∧ (eSR E r.2.2.2.2.2.1 is).isSome = true
              · rw [if_pos e9] at hh
                cases hh
                obtain ⟨sa, hsa⟩ := Option.isSome_iff_exists.mp e9.2
                exact ⟨ik, is, ic, sa, h1, h3, h2, e9.1, hsa, Or.inl ⟨h4, h5, h6⟩⟩
              · rw [if_neg e9] at hh; cases hh
            next => cases hh
          next => cases hh
        next is h4 =>
          split at hh
          next ic h5 =>
            split at hh
            next h6 =>
              by_cases e9 : X.2 r.2.2.2.2.2.1 ic = some c2 ∧ (eSR E r.2.2.2.2.2.1 is).isSome = true
              · rw [if_pos e9] at hh
                cases hh
                obtain ⟨sa, hsa⟩ := Option.isSome_iff_exists.mp e9.2
                exact ⟨ik, is, ic, sa, h1, h3, h2, e9.1, hsa, Or.inr ⟨h4, h5, h6⟩⟩
              · rw [if_neg e9] at hh; cases hh
            next => cases hh
          next => cases hh
        next => cases hh
      next => cases hh
    next => cases hh
  next => cases hh
abbrev dY : Type := String × dH × Nat × Nat
def drunX (E : dE) (X : dX) (b : Nat) : Nat → Nat → dM → Nat → dL0 → List Value → dH → Nat → Nat → Option dY
  | 0, _, _, _, _, _, _, _, _ => none
  | n + 1, d, r, pc, lo, st, h, cs, ss => match dxat E X r pc with
    | some cls => if 8 ≤ d ∧ (st.map fun v => v.category).sum ≤ 8 then some (cls, (none, h.2), cs + 1, ss + 6) else none
    | none => match decode r.2.1 pc with
      | .error _ => none
      | .ok (i, len) => match dpure i len pc r.2.2.1 lo st with
        | some z => drunX E X b n d r z.1 z.2.1 z.2.2 h cs ss
        | none => match dheap E b d r i len st h cs ss with
          | some g => drunX E X b n d r (pc + len) lo g.1 g.2.1 g.2.2.1 g.2.2.2
          | none => match d with
            | 0 => none
            | d + 1 => match dinv E r.2.2.2.2.2.1 i len st h with
              | none => none
              | some y => match drun E b n d y.1 0 (dent y.2.1) [] h 0 0 with
                | some z => drunX E X b n (d + 1) r (pc + 3) lo (z.1.toList ++ y.2.2) z.2.1 (cs + z.2.2.1) (ss + z.2.2.2)
                | none => match i with
                  | .invokevirtual _ => match drunX E X b n d y.1 0 (dent y.2.1) [] h 0 0 with
                    | some z => some (z.1, z.2.1, cs + z.2.2.1, ss + z.2.2.2)
                    | none => none
                  | _ => none
theorem drunX_step {E : dE} {X : dX} {b n d : Nat} {r : dM} {pc : Nat} {lo : dL0} {st : List Value} {h : dH} {cs ss : Nat} {z : dY} (hh : drunX E X b (n + 1) d r pc lo st h cs ss = some z) :
    (∃ cls, dxat E X r pc = some cls ∧ 8 ≤ d ∧ (st.map fun v => v.category).sum ≤ 8 ∧ z = (cls, (none, h.2), cs + 1, ss + 6)) ∨ ∃ i len, decode r.2.1 pc = .ok (i, len) ∧
    ((∃ w, dpure i len pc r.2.2.1 lo st = some w ∧ drunX E X b n d r w.1 w.2.1 w.2.2 h cs ss = some z) ∨
     (∃ g, dheap E b d r i len st h cs ss = some g ∧ drunX E X b n d r (pc + len) lo g.1 g.2.1 g.2.2.1 g.2.2.2 = some z) ∨
     (∃ d' y w, d = d' + 1 ∧ dinv E r.2.2.2.2.2.1 i len st h = some y ∧ drun E b n d' y.1 0 (dent y.2.1) [] h 0 0 = some w ∧ drunX E X b n (d' + 1) r (pc + 3) lo (w.1.toList ++ y.2.2) w.2.1 (cs + w.2.2.1) (ss + w.2.2.2) = some z) ∨
     (∃ d' y w idx, d = d' + 1 ∧ i = .invokevirtual idx ∧ dinv E r.2.2.2.2.2.1 i len st h = some y ∧ drunX E X b n d' y.1 0 (dent y.2.1) [] h 0 0 = some w ∧ z = (w.1, w.2.1, cs + w.2.2.1, ss + w.2.2.2))) := by
  rw [drunX] at hh
  cases hxa : dxat E X r pc with
  | some cls =>
    rw [hxa] at hh
    dsimp only at hh
    by_cases e9 : 8 ≤ d ∧ (st.map fun v => v.category).sum ≤ 8
    · rw [if_pos e9] at hh; cases hh; exact Or.inl ⟨cls, rfl, e9.1, e9.2, rfl⟩
    · rw [if_neg e9] at hh; cases hh
  | none =>
    rw [hxa] at hh
    dsimp only at hh
    cases hd : decode r.2.1 pc with
    | error x => rw [hd] at hh; cases hh
    | ok x =>
      obtain ⟨i, len⟩ := x
      rw [hd] at hh
      refine Or.inr ⟨i, len, rfl, ?_⟩
      dsimp only at hh
      cases h1 : dpure i len pc r.2.2.1 lo st with
      | some w => rw [h1] at hh; exact Or.inl ⟨w, rfl, hh⟩
      | none =>
        rw [h1] at hh
        dsimp only at hh
        cases h2 : dheap E b d r i len st h cs ss with
        | some g => rw [h2] at hh; exact Or.inr (Or.inl ⟨g, rfl, hh⟩)
        | none =>
          rw [h2] at hh
          dsimp only at hh
          cases d with
          | zero => cases hh
          | succ d =>
            dsimp only at hh
            cases h4 : dinv E r.2.2.2.2.2.1 i len st h with
            | none => rw [h4] at hh; cases hh
            | some y =>
              rw [h4] at hh
              dsimp only at hh
              cases h5 : drun E b n d y.1 0 (dent y.2.1) [] h 0 0 with
              | some w => rw [h5] at hh; exact Or.inr (Or.inr (Or.inl ⟨d, y, w, rfl, rfl, h5, hh⟩))
              | none =>
                rw [h5] at hh
                dsimp only at hh
                split at hh
                next idx =>
                  cases h6 : drunX E X b n d y.1 0 (dent y.2.1) [] h 0 0 with
                  | none => rw [h6] at hh; cases hh
                  | some w => rw [h6] at hh; cases hh; exact Or.inr (Or.inr (Or.inr ⟨d, y, w, idx, rfl, rfl, rfl, h6, rfl⟩))
                next => cases hh
theorem drunX_mono {E : dE} {X : dX} {b : Nat} : ∀ (n d : Nat) (r : dM) (pc : Nat) (lo : dL0) (st : List Value) (h : dH) (cs ss : Nat) (z : dY), drunX E X b n d r pc lo st h cs ss = some z → cs ≤ z.2.2.1 ∧ ss ≤ z.2.2.2 := by
  intro n
  induction n with
  | zero => intro d r pc lo st h cs ss z hh; cases hh
  | succ n ih =>
    intro d r pc lo st h cs ss z hh
    obtain ⟨cls, h1, h2, h3, rfl⟩ | ⟨i, len, hd, ⟨w, h1, h2⟩ | ⟨g, h1, h2⟩ | ⟨d', y, w, rfl, h1, h2, h3⟩ | ⟨d', y, w, idx, rfl, rfl, h1, h2, rfl⟩⟩ := drunX_step hh
    · exact ⟨Nat.le_succ _, Nat.le_add_right _ _⟩
    · exact ih _ _ _ _ _ _ _ _ _ h2
    · have a := dheap_mono h1
      have b := ih _ _ _ _ _ _ _ _ _ h2
      exact ⟨Nat.le_trans a.1 b.1, Nat.le_trans a.2 b.2⟩
    · have b := ih _ _ _ _ _ _ _ _ _ h3
      exact ⟨Nat.le_trans (Nat.le_add_right _ _) b.1, Nat.le_trans (Nat.le_add_right _ _) b.2⟩
    · exact ⟨Nat.le_add_right _ _, Nat.le_add_right _ _⟩
