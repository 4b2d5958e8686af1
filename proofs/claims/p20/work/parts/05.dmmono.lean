theorem dgetf_inv {E : dE} {o len idx : Nat} {st : List Value} {h : dH} {cs ss : Nat} {g : dG} (hh : dgetf E o len idx st h cs ss = some g) : ∃ a r ci fs k v, st = .ref a :: r ∧ h.2 a = some (.inr (ci, fs)) ∧ E.2.1 o idx = some (ci, k) ∧ len = 3 ∧ fs[k]? = some v ∧ g = (v :: r, h, cs, ss) := by
  unfold dgetf at hh
  split at hh
  next a r =>
    split at hh
    next q hq =>
      split at hh
      next w hw =>
        by_cases e9 : len = 3 ∧ w.1 = q.1
        · rw [if_pos e9] at hh
          cases hv : q.2[w.2]? with
          | none => rw [hv] at hh; cases hh
          | some v => rw [hv] at hh; cases hh; exact ⟨a, r, q.1, q.2, w.2, v, rfl, hq, by rw [hw, ← e9.2], e9.1, hv, rfl⟩
        · rw [if_neg e9] at hh; cases hh
      next => cases hh
    next => cases hh
  next => cases hh
theorem dputf_inv {E : dE} {o len idx : Nat} {st : List Value} {h : dH} {cs ss : Nat} {g : dG} (hh : dputf E o len idx st h cs ss = some g) : ∃ v a r ci fs k ty, st = v :: .ref a :: r ∧ h.2 a = some (.inr (ci, fs)) ∧ E.2.1 o idx = some (ci, k) ∧ E.2.2.2.2.2 ci k = some (ty, false) ∧ len = 3 ∧ narrow ty v = v ∧ fits ty v = true ∧ k < fs.length ∧ g = (r, dupd h a (.inr (ci, fs.set k v)), cs, ss) := by
  unfold dputf at hh
  split at hh
  next v a r =>
    split at hh
    next q hq =>
      split at hh
      next w hw =>
        split at hh
        next f hf =>
          by_cases e9 : len = 3 ∧ w.1 = q.1 ∧ f.2 = false ∧ narrow f.1 v = v ∧ fits f.1 v = true ∧ w.2 < q.2.length
          · rw [if_pos e9] at hh
            cases hh
            obtain ⟨e1, e2, e3, e4, e5, e6⟩ := e9
            exact ⟨v, a, r, q.1, q.2, w.2, f.1, rfl, hq, by rw [hw, ← e2], by rw [← e2, hf, ← e3], e1, e4, e5, e6, rfl⟩
          · rw [if_neg e9] at hh; cases hh
        next => cases hh
      next => cases hh
    next => cases hh
  next => cases hh
theorem daldI_inv {t len : Nat} {st : List Value} {h : dH} {cs ss : Nat} {g : dG} (hh : daldI t len st h cs ss = some g) : ∃ i a r n f, st = .int i :: .ref a :: r ∧ h.2 a = some (.inl (t, n, .inl f)) ∧ len = 1 ∧ vp_in i n ∧ g = (.int (f i.toNatClampNeg) :: r, h, cs, ss) := by
  unfold daldI at hh
  split at hh
  next i a r =>
    split at hh
    next t' n f hq =>
      by_cases e9 : len = 1 ∧ t' = t ∧ ¬ (i < 0 ∨ n ≤ i.toNatClampNeg)
      · rw [if_pos e9] at hh
        cases hh
        obtain ⟨e1, e2, e3⟩ := e9
        subst e2
        exact ⟨i, a, r, n, f, rfl, hq, e1, e3, rfl⟩
      · rw [if_neg e9] at hh; cases hh
    next => cases hh
  next => cases hh
theorem daldL_inv {len : Nat} {st : List Value} {h : dH} {cs ss : Nat} {g : dG} (hh : daldL len st h cs ss = some g) : ∃ i a r n f, st = .int i :: .ref a :: r ∧ h.2 a = some (.inl (2, n, .inr (.inl f))) ∧ len = 1 ∧ vp_in i n ∧ g = (.long (f i.toNatClampNeg) :: r, h, cs, ss) := by
  unfold daldL at hh
  split at hh
  next i a r =>
    split at hh
    next t' n f hq =>
      by_cases e9 : len = 1 ∧ t' = 2 ∧ ¬ (i < 0 ∨ n ≤ i.toNatClampNeg)
      · rw [if_pos e9] at hh
        cases hh
        obtain ⟨e1, e2, e3⟩ := e9
        subst e2
        exact ⟨i, a, r, n, f, rfl, hq, e1, e3, rfl⟩
      · rw [if_neg e9] at hh; cases hh
    next => cases hh
  next => cases hh
theorem dastI_inv {t len : Nat} {nr : Int32 → Int32} {st : List Value} {h : dH} {cs ss : Nat} {g : dG} (hh : dastI t len nr st h cs ss = some g) : ∃ x i a r n f, st = .int x :: .int i :: .ref a :: r ∧ h.2 a = some (.inl (t, n, .inl f)) ∧ len = 1 ∧ vp_in i n ∧ g = (r, dupd h a (.inl (t, n, .inl (upd f i.toNatClampNeg (nr x)))), cs, ss) := by
  unfold dastI at hh
  split at hh
  next x i a r =>
    split at hh
    next t' n f hq =>
      by_cases e9 : len = 1 ∧ t' = t ∧ ¬ (i < 0 ∨ n ≤ i.toNatClampNeg)
      · rw [if_pos e9] at hh
        cases hh
        obtain ⟨e1, e2, e3⟩ := e9
        subst e2
        exact ⟨x, i, a, r, n, f, rfl, hq, e1, e3, rfl⟩
      · rw [if_neg e9] at hh; cases hh
    next => cases hh
  next => cases hh
theorem dastL_inv {len : Nat} {st : List Value} {h : dH} {cs ss : Nat} {g : dG} (hh : dastL len st h cs ss = some g) : ∃ x i a r n f, st = .long x :: .int i :: .ref a :: r ∧ h.2 a = some (.inl (2, n, .inr (.inl f))) ∧ len = 1 ∧ vp_in i n ∧ g = (r, dupd h a (.inl (2, n, .inr (.inl (vp_updL f i.toNatClampNeg x)))), cs, ss) := by
  unfold dastL at hh
  split at hh
  next x i a r =>
    split at hh
    next t' n f hq =>
      by_cases e9 : len = 1 ∧ t' = 2 ∧ ¬ (i < 0 ∨ n ≤ i.toNatClampNeg)
      · rw [if_pos e9] at hh
        cases hh
        obtain ⟨e1, e2, e3⟩ := e9
        subst e2
        exact ⟨x, i, a, r, n, f, rfl, hq, e1, e3, rfl⟩
      · rw [if_neg e9] at hh; cases hh
    next => cases hh
  next => cases hh
theorem dalen_inv {len : Nat} {st : List Value} {h : dH} {cs ss : Nat} {g : dG} (hh : dalen len st h cs ss = some g) : ∃ a r t x ty, st = .ref a :: r ∧ h.2 a = some (.inl (t, x)) ∧ dty t = some ty ∧ len = 1 ∧ g = (.int (Int32.ofNat x.1) :: r, h, cs, ss) := by
  unfold dalen at hh
  split at hh
  next a r =>
    split at hh
    next t x hq =>
      by_cases e9 : len = 1 ∧ (dty t).isSome = true
      · rw [if_pos e9] at hh
        cases hh
        obtain ⟨ty, hty⟩ := Option.isSome_iff_exists.mp e9.2
        exact ⟨a, r, t, x, ty, rfl, hq, hty, e9.1, rfl⟩
      · rw [if_neg e9] at hh; cases hh
    next => cases hh
  next => cases hh
theorem dnewa_inv {len : Nat} {at0 : ArrayType} {st : List Value} {h : dH} {cs ss : Nat} {g : dG} (hh : dnewa len at0 st h cs ss = some g) : ∃ n r t z0, st = .int n :: r ∧ dnty at0 = some (t, z0) ∧ len = 2 ∧ ¬ n < 0 ∧ n.toNatClampNeg * componentBytes (newarray.typeOf at0) ≤ 536870912 ∧ g = (.ref h.1 :: r, dnew h (.inl (t, n.toNatClampNeg, z0)), cs + 1, ss + n.toNatClampNeg) := by
  unfold dnewa at hh
  split at hh
  next n r =>
    split at hh
    next t z0 hq =>
      by_cases e9 : len = 2 ∧ ¬ n < 0 ∧ n.toNatClampNeg * componentBytes (newarray.typeOf at0) ≤ 536870912
      · rw [if_pos e9] at hh
        cases hh
        exact ⟨n, r, t, z0, rfl, hq, e9.1, e9.2.1, e9.2.2, rfl⟩
      · rw [if_neg e9] at hh; cases hh
    next => cases hh
  next => cases hh
theorem dldc_inv {len n : Nat} {o : Option Value} {st : List Value} {h : dH} {cs ss : Nat} {g : dG} (hh : dldc len n o st h cs ss = some g) : ∃ v, o = some v ∧ len = n ∧ g = (v :: st, h, cs, ss) := by
  unfold dldc at hh
  split at hh
  next v =>
    by_cases e9 : len = n
    · rw [if_pos e9] at hh; cases hh; exact ⟨v, rfl, e9, rfl⟩
    · rw [if_neg e9] at hh; cases hh
  next => cases hh
def dmo (g : dG) (h : dH) (cs ss : Nat) : Prop := cs ≤ g.2.2.1 ∧ ss ≤ g.2.2.2 ∧ ∀ q, dA g.2.1 q → dA h q
theorem dheap_mono {E : dE} {o : Nat} {i : Instr} {len : Nat} {st : List Value} {h : dH} {cs ss : Nat} {g : dG} (hh : dheap E o i len st h cs ss = some g) : dmo g h cs ss := by
  cases i with
  | getfield idx => obtain ⟨a, r, ci, fs, k, v, rfl, h1, h2, h3, h4, rfl⟩ := dgetf_inv hh; exact ⟨Nat.le_refl _, Nat.le_refl _, fun _ h => h⟩
  | putfield idx => obtain ⟨v, a, r, ci, fs, k, ty, rfl, h1, h2, h3, h4, h5, h6, h7, rfl⟩ := dputf_inv hh; exact ⟨Nat.le_refl _, Nat.le_refl _, dA_upd h1⟩
  | iaload => obtain ⟨i, a, r, n, f, rfl, h1, h2, h3, rfl⟩ := daldI_inv hh; exact ⟨Nat.le_refl _, Nat.le_refl _, fun _ h => h⟩
  | laload => obtain ⟨i, a, r, n, f, rfl, h1, h2, h3, rfl⟩ := daldL_inv hh; exact ⟨Nat.le_refl _, Nat.le_refl _, fun _ h => h⟩
  | baload =>
    cases e1 : daldI 1 len st h cs ss with
    | some g' =>
      have hh : (match daldI 1 len st h cs ss with
        | some g => some g
        | none => daldI 3 len st h cs ss) = some g := hh
      rw [e1] at hh
      cases hh
      obtain ⟨i, a, r, n, f, rfl, h1, h2, h3, rfl⟩ := daldI_inv e1; exact ⟨Nat.le_refl _, Nat.le_refl _, fun _ h => h⟩
    | none =>
      have hh : (match daldI 1 len st h cs ss with
        | some g => some g
        | none => daldI 3 len st h cs ss) = some g := hh
      rw [e1] at hh
      have hh : daldI 3 len st h cs ss = some g := hh
      obtain ⟨i, a, r, n, f, rfl, h1, h2, h3, rfl⟩ := daldI_inv hh; exact ⟨Nat.le_refl _, Nat.le_refl _, fun _ h => h⟩
  | iastore => obtain ⟨x, i, a, r, n, f, rfl, h1, h2, h3, rfl⟩ := dastI_inv hh; exact ⟨Nat.le_refl _, Nat.le_refl _, dA_upd h1⟩
  | lastore => obtain ⟨x, i, a, r, n, f, rfl, h1, h2, h3, rfl⟩ := dastL_inv hh; exact ⟨Nat.le_refl _, Nat.le_refl _, dA_upd h1⟩
  | bastore =>
    cases e1 : dastI 1 len (vp_nar .byte) st h cs ss with
    | some g' =>
      have hh : (match dastI 1 len (vp_nar .byte) st h cs ss with
        | some g => some g
        | none => dastI 3 len (vp_nar .boolean) st h cs ss) = some g := hh
      rw [e1] at hh
      cases hh
      obtain ⟨x, i, a, r, n, f, rfl, h1, h2, h3, rfl⟩ := dastI_inv e1; exact ⟨Nat.le_refl _, Nat.le_refl _, dA_upd h1⟩
    | none =>
      have hh : (match dastI 1 len (vp_nar .byte) st h cs ss with
        | some g => some g
        | none => dastI 3 len (vp_nar .boolean) st h cs ss) = some g := hh
      rw [e1] at hh
      have hh : dastI 3 len (vp_nar .boolean) st h cs ss = some g := hh
      obtain ⟨x, i, a, r, n, f, rfl, h1, h2, h3, rfl⟩ := dastI_inv hh; exact ⟨Nat.le_refl _, Nat.le_refl _, dA_upd h1⟩
  | arraylength => obtain ⟨a, r, t, x, ty, rfl, h1, h2, h3, rfl⟩ := dalen_inv hh; exact ⟨Nat.le_refl _, Nat.le_refl _, fun _ h => h⟩
  | newarray at0 => obtain ⟨n, r, t, z0, rfl, h1, h2, h3, h4, rfl⟩ := dnewa_inv hh; exact ⟨Nat.le_succ _, Nat.le_add_right _ _, dA_new⟩
  | ldc idx => obtain ⟨v, h1, h2, rfl⟩ := dldc_inv hh; exact ⟨Nat.le_refl _, Nat.le_refl _, fun _ h => h⟩
  | ldc_w idx => obtain ⟨v, h1, h2, rfl⟩ := dldc_inv hh; exact ⟨Nat.le_refl _, Nat.le_refl _, fun _ h => h⟩
  | ldc2_w idx => obtain ⟨v, h1, h2, rfl⟩ := dldc_inv hh; exact ⟨Nat.le_refl _, Nat.le_refl _, fun _ h => h⟩
  | _ => cases hh
/-- a run's step, told as a choice -/
theorem drun_step {E : dE} {n d : Nat} {r : dM} {pc : Nat} {lo : dL0} {st : List Value} {h : dH} {cs ss : Nat} {z : dZ} (hh : drun E (n + 1) d r pc lo st h cs ss = some z) : ∃ i len, decode r.2.1 pc = .ok (i, len) ∧
    ((∃ w, dpure i len pc r.2.2.1 lo st = some w ∧ drun E n d r w.1 w.2.1 w.2.2 h cs ss = some z) ∨
     (∃ g, dheap E r.2.2.2.2.2.1 i len st h cs ss = some g ∧ drun E n d r (pc + len) lo g.1 g.2.1 g.2.2.1 g.2.2.2 = some z) ∨
     (∃ v, dret r i len st = some v ∧ z = (v, h, cs, ss)) ∨
     (∃ d' y w, d = d' + 1 ∧ dinv E r.2.2.2.2.2.1 i len st h = some y ∧ drun E n d' y.1 0 (dent y.2.1) [] h 0 0 = some w ∧ drun E n (d' + 1) r (pc + 3) lo (w.1.toList ++ y.2.2) w.2.1 (cs + w.2.2.1) (ss + w.2.2.2) = some z)) := by
  rw [drun] at hh
  cases hd : decode r.2.1 pc with
  | error x => rw [hd] at hh; cases hh
  | ok x =>
    obtain ⟨i, len⟩ := x
    rw [hd] at hh
    refine ⟨i, len, rfl, ?_⟩
    dsimp only at hh
    cases h1 : dpure i len pc r.2.2.1 lo st with
    | some w => rw [h1] at hh; exact Or.inl ⟨w, rfl, hh⟩
    | none =>
      rw [h1] at hh
      dsimp only at hh
      cases h2 : dheap E r.2.2.2.2.2.1 i len st h cs ss with
      | some g => rw [h2] at hh; exact Or.inr (Or.inl ⟨g, rfl, hh⟩)
      | none =>
        rw [h2] at hh
        dsimp only at hh
        cases h3 : dret r i len st with
        | some v => rw [h3] at hh; cases hh; exact Or.inr (Or.inr (Or.inl ⟨v, rfl, rfl⟩))
        | none =>
          rw [h3] at hh
          dsimp only at hh
          cases d with
          | zero => cases hh
          | succ d =>
            dsimp only at hh
            cases h4 : dinv E r.2.2.2.2.2.1 i len st h with
            | none => rw [h4] at hh; cases hh
            | some y =>
              rw [h4] at hh
              dsimp only at hh
              cases h5 : drun E n d y.1 0 (dent y.2.1) [] h 0 0 with
              | none => rw [h5] at hh; cases hh
              | some w => rw [h5] at hh; exact Or.inr (Or.inr (Or.inr ⟨d, y, w, rfl, rfl, h5, hh⟩))
theorem drun_mono {E : dE} : ∀ (n d : Nat) (r : dM) (pc : Nat) (lo : dL0) (st : List Value) (h : dH) (cs ss : Nat) (z : dZ), drun E n d r pc lo st h cs ss = some z → cs ≤ z.2.2.1 ∧ ss ≤ z.2.2.2 ∧ ∀ q, dA z.2.1 q → dA h q := by
  intro n
  induction n with
  | zero => intro d r pc lo st h cs ss z hh; cases hh
  | succ n ih =>
    intro d r pc lo st h cs ss z hh
    obtain ⟨i, len, hd, ⟨w, h1, h2⟩ | ⟨g, h1, h2⟩ | ⟨v, h1, rfl⟩ | ⟨d', y, w, rfl, h1, h2, h3⟩⟩ := drun_step hh
    · exact ih _ _ _ _ _ _ _ _ _ h2
    · have a := dheap_mono h1
      have b := ih _ _ _ _ _ _ _ _ _ h2
      exact ⟨Nat.le_trans a.1 b.1, Nat.le_trans a.2.1 b.2.1, fun q hq => a.2.2 q (b.2.2 q hq)⟩
    · exact ⟨Nat.le_refl _, Nat.le_refl _, fun _ h => h⟩
    · have a := ih _ _ _ _ _ _ _ _ _ h2
      have b := ih _ _ _ _ _ _ _ _ _ h3
      exact ⟨Nat.le_trans (Nat.le_add_right _ _) b.1, Nat.le_trans (Nat.le_add_right _ _) b.2.1, fun q hq => a.2.2 q (b.2.2 q hq)⟩
