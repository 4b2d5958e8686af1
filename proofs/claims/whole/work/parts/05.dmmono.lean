theorem dgetf_inv {E : dE} {o len idx : Nat} {st : List Value} {h : dH} {cs ss : Nat} {g : dG} (hh : dgetf E o len idx st h cs ss = some g) : ∃ a r ci fs k v, st = .ref a :: r ∧ h.2 a = some (.inr (ci, fs)) ∧ eFL E o idx = some (ci, k) ∧ len = 3 ∧ fs[k]? = some v ∧ g = (v :: r, h, cs, ss) := by
  unfold dgetf at hh
  split at hh
  next a r =>
    split at hh
    next q hq =>
      split at hh
      next w hw =>
        by_cases e9 : len = 3 ∧ w.1 = q.1
        · rw [if_pos e9] at hh
          cases hv : q.2[w.2]? with
          | none => rw [hv] at hh; cases hh
          | some v => rw [hv] at hh; cases hh; exact ⟨a, r, q.1, q.2, w.2, v, rfl, hq, by rw [hw, ← e9.2], e9.1, hv, rfl⟩
        · rw [if_neg e9] at hh; cases hh
      next => cases hh
    next => cases hh
  next => cases hh
theorem dputf_inv {E : dE} {b o len idx : Nat} {ini : Bool} {st : List Value} {h : dH} {cs ss : Nat} {g : dG} (hh : dputf E b o len idx ini st h cs ss = some g) : ∃ v a r ci fs k ty fin, st = v :: .ref a :: r ∧ h.2 a = some (.inr (ci, fs)) ∧ eFL E o idx = some (ci, k) ∧ eFT E ci k = some (ty, fin) ∧ len = 3 ∧ b ≤ a ∧ (fin = false ∨ (ini = true ∧ o = ci)) ∧ narrow ty v = v ∧ fits ty v = true ∧ k < fs.length ∧ g = (r, dupd h a (.inr (ci, fs.set k v)), cs, ss) := by
  unfold dputf at hh
  split at hh
  next v a r =>
    split at hh
    next q hq =>
      split at hh
      next w hw =>
        split at hh
        next f hf =>
          by_cases e9 : len = 3 ∧ b ≤ a ∧ w.1 = q.1 ∧ (f.2 = false ∨ (ini = true ∧ o = q.1)) ∧ narrow f.1 v = v ∧ fits f.1 v = true ∧ w.2 < q.2.length
          · rw [if_pos e9] at hh
            cases hh
            obtain ⟨e1, e0, e2, e3, e4, e5, e6⟩ := e9
            exact ⟨v, a, r, q.1, q.2, w.2, f.1, f.2, rfl, hq, by rw [hw, ← e2], by rw [← e2]; exact hf, e1, e0, e3, e4, e5, e6, rfl⟩
          · rw [if_neg e9] at hh; cases hh
        next => cases hh
      next => cases hh
    next => cases hh
  next => cases hh
theorem daldI_inv {t len : Nat} {st : List Value} {h : dH} {cs ss : Nat} {g : dG} (hh : daldI t len st h cs ss = some g) : ∃ i a r n f, st = .int i :: .ref a :: r ∧ h.2 a = some (.inl (t, n, .inl f)) ∧ len = 1 ∧ vp_in i n ∧ g = (.int (f i.toNatClampNeg) :: r, h, cs, ss) := by
  unfold daldI at hh
  split at hh
  next i a r =>
    split at hh
    next t' n f hq =>
      by_cases e9 : len = 1 ∧ t' = t ∧ ¬ (i < 0 ∨ n ≤ i.toNatClampNeg)
      · rw [if_pos e9] at hh
        cases hh
        obtain ⟨e1, e2, e3⟩ := e9
        subst e2
        exact ⟨i, a, r, n, f, rfl, hq, e1, e3, rfl⟩
      · rw [if_neg e9] at hh; cases hh
    next => cases hh
  next => cases hh
theorem daldL_inv {len : Nat} {st : List Value} {h : dH} {cs ss : Nat} {g : dG} (hh : daldL len st h cs ss = some g) : ∃ i a r n f, st = .int i :: .ref a :: r ∧ h.2 a = some (.inl (2, n, .inr (.inl f))) ∧ len = 1 ∧ vp_in i n ∧ g = (.long (f i.toNatClampNeg) :: r, h, cs, ss) := by
  unfold daldL at hh
  split at hh
  next i a r =>
    split at hh
    next t' n f hq =>
      by_cases e9 : len = 1 ∧ t' = 2 ∧ ¬ (i < 0 ∨ n ≤ i.toNatClampNeg)
      · rw [if_pos e9] at hh
        cases hh
        obtain ⟨e1, e2, e3⟩ := e9
        subst e2
        exact ⟨i, a, r, n, f, rfl, hq, e1, e3, rfl⟩
      · rw [if_neg e9] at hh; cases hh
    next => cases hh
  next => cases hh
theorem dastI_inv {b t len : Nat} {nr : Int32 → Int32} {st : List Value} {h : dH} {cs ss : Nat} {g : dG} (hh : dastI b t len nr st h cs ss = some g) : ∃ x i a r n f, st = .int x :: .int i :: .ref a :: r ∧ h.2 a = some (.inl (t, n, .inl f)) ∧ len = 1 ∧ b ≤ a ∧ vp_in i n ∧ g = (r, dupd h a (.inl (t, n, .inl (upd f i.toNatClampNeg (nr x)))), cs, ss) := by
  unfold dastI at hh
  split at hh
  next x i a r =>
    split at hh
    next t' n f hq =>
      by_cases e9 : len = 1 ∧ b ≤ a ∧ t' = t ∧ ¬ (i < 0 ∨ n ≤ i.toNatClampNeg)
      · rw [if_pos e9] at hh
        cases hh
        obtain ⟨e1, e0, e2, e3⟩ := e9
        subst e2
        exact ⟨x, i, a, r, n, f, rfl, hq, e1, e0, e3, rfl⟩
      · rw [if_neg e9] at hh; cases hh
    next => cases hh
  next => cases hh
theorem dastL_inv {b len : Nat} {st : List Value} {h : dH} {cs ss : Nat} {g : dG} (hh : dastL b len st h cs ss = some g) : ∃ x i a r n f, st = .long x :: .int i :: .ref a :: r ∧ h.2 a = some (.inl (2, n, .inr (.inl f))) ∧ len = 1 ∧ b ≤ a ∧ vp_in i n ∧ g = (r, dupd h a (.inl (2, n, .inr (.inl (vp_updL f i.toNatClampNeg x)))), cs, ss) := by
  unfold dastL at hh
  split at hh
  next x i a r =>
    split at hh
    next t' n f hq =>
      by_cases e9 : len = 1 ∧ b ≤ a ∧ t' = 2 ∧ ¬ (i < 0 ∨ n ≤ i.toNatClampNeg)
      · rw [if_pos e9] at hh
        cases hh
        obtain ⟨e1, e0, e2, e3⟩ := e9
        subst e2
        exact ⟨x, i, a, r, n, f, rfl, hq, e1, e0, e3, rfl⟩
      · rw [if_neg e9] at hh; cases hh
    next => cases hh
  next => cases hh
theorem dalen_inv {len : Nat} {st : List Value} {h : dH} {cs ss : Nat} {g : dG} (hh : dalen len st h cs ss = some g) : ∃ a r t x ty, st = .ref a :: r ∧ h.2 a = some (.inl (t, x)) ∧ dty t = some ty ∧ len = 1 ∧ g = (.int (Int32.ofNat x.1) :: r, h, cs, ss) := by
  unfold dalen at hh
  split at hh
  next a r =>
    split at hh
    next t x hq =>
      by_cases e9 : len = 1 ∧ (dty t).isSome = true
      · rw [if_pos e9] at hh
        cases hh
        obtain ⟨ty, hty⟩ := Option.isSome_iff_exists.mp e9.2
        exact ⟨a, r, t, x, ty, rfl, hq, hty, e9.1, rfl⟩
      · rw [if_neg e9] at hh; cases hh
    next => cases hh
  next => cases hh
theorem dnewa_inv {len : Nat} {at0 : ArrayType} {st : List Value} {h : dH} {cs ss : Nat} {g : dG} (hh : dnewa len at0 st h cs ss = some g) : ∃ n r t z0 w, st = .int n :: r ∧ dnty at0 = some (t, z0) ∧ h.1 = some w ∧ len = 2 ∧ ¬ n < 0 ∧ n.toNatClampNeg * componentBytes (newarray.typeOf at0) ≤ 536870912 ∧ g = (.ref w :: r, dnew h w (.inl (t, n.toNatClampNeg, z0)), cs + 1, ss + n.toNatClampNeg) := by
  unfold dnewa at hh
  split at hh
  next n r =>
    split at hh
    next t z0 hq =>
      split at hh
      next w hw =>
        by_cases e9 : len = 2 ∧ ¬ n < 0 ∧ n.toNatClampNeg * componentBytes (newarray.typeOf at0) ≤ 536870912
        · rw [if_pos e9] at hh
          cases hh
          exact ⟨n, r, t, z0, w, rfl, hq, hw, e9.1, e9.2.1, e9.2.2, rfl⟩
        · rw [if_neg e9] at hh; cases hh
      next => cases hh
    next => cases hh
  next => cases hh
theorem dnewo_inv {E : dE} {o len idx : Nat} {st : List Value} {h : dH} {cs ss : Nat} {g : dG} (hh : dnewo E o len idx st h cs ss = some g) : ∃ ci fs w, eNW E o idx = some ci ∧ eND E ci = some fs ∧ h.1 = some w ∧ len = 3 ∧ g = (.ref w :: st, dnew h w (.inr (ci, fs)), cs + 1, ss + fs.length) := by
  unfold dnewo at hh
  split at hh
  next ci h1 =>
    split at hh
    next fs h2 =>
      split at hh
      next w h3 =>
        by_cases e9 : len = 3
        · rw [if_pos e9] at hh; cases hh; exact ⟨ci, fs, w, h1, h2, h3, e9, rfl⟩
        · rw [if_neg e9] at hh; cases hh
      next => cases hh
    next => cases hh
  next => cases hh
theorem dnewq_inv {E : dE} {o len idx : Nat} {st : List Value} {h : dH} {cs ss : Nat} {g : dG} (hh : dnewq E o len idx st h cs ss = some g) : ∃ t n r w, eAN E o idx = some t ∧ st = .int n :: r ∧ h.1 = some w ∧ len = 3 ∧ ¬ n < 0 ∧ n.toNatClampNeg * 4 ≤ 536870912 ∧ g = (.ref w :: r, dnew h w (.inl (t, n.toNatClampNeg, .inr (.inr (.inr (.inr fun _ => none))))), cs + 1, ss + n.toNatClampNeg) := by
  unfold dnewq at hh
  cases h1 : eAN E o idx with
  | none => rw [h1] at hh; cases hh
  | some t =>
    rw [h1] at hh
    dsimp only at hh
    split at hh
    next n r =>
      split at hh
      next w hw =>
        by_cases e9 : len = 3 ∧ ¬ n < 0 ∧ n.toNatClampNeg * 4 ≤ 536870912
        · rw [if_pos e9] at hh; cases hh; exact ⟨t, n, r, w, rfl, rfl, hw, e9.1, e9.2.1, e9.2.2, rfl⟩
        · rw [if_neg e9] at hh; cases hh
      next => cases hh
    next => cases hh
theorem daldQ_inv {len : Nat} {st : List Value} {h : dH} {cs ss : Nat} {g : dG} (hh : daldQ len st h cs ss = some g) : ∃ i a r t n f ci, st = .int i :: .ref a :: r ∧ h.2 a = some (.inl (t, n, .inr (.inr (.inr (.inr f))))) ∧ dobj t = some ci ∧ len = 1 ∧ vp_in i n ∧ g = (va_rf (f i.toNatClampNeg) :: r, h, cs, ss) := by
  unfold daldQ at hh
  split at hh
  next i a r =>
    split at hh
    next t' n f hq =>
      by_cases e9 : len = 1 ∧ (dobj t').isSome = true ∧ ¬ (i < 0 ∨ n ≤ i.toNatClampNeg)
      · rw [if_pos e9] at hh
        cases hh
        obtain ⟨ci, hci⟩ := Option.isSome_iff_exists.mp e9.2.1
        exact ⟨i, a, r, t', n, f, ci, rfl, hq, hci, e9.1, e9.2.2, rfl⟩
      · rw [if_neg e9] at hh; cases hh
    next => cases hh
  next => cases hh
theorem dastQ_inv {b len : Nat} {st : List Value} {h : dH} {cs ss : Nat} {g : dG} (hh : dastQ b len st h cs ss = some g) : ∃ v i a r t n f ci vs, st = .ref v :: .int i :: .ref a :: r ∧ h.2 a = some (.inl (t, n, .inr (.inr (.inr (.inr f))))) ∧ h.2 v = some (.inr (ci, vs)) ∧ len = 1 ∧ b ≤ a ∧ dobj t = some ci ∧ vp_in i n ∧ g = (r, dupd h a (.inl (t, n, .inr (.inr (.inr (.inr (va_up f i.toNatClampNeg (some v))))))), cs, ss) := by
  unfold dastQ at hh
  split at hh
  next v i a r =>
    split at hh
    next t' n f hq =>
      split at hh
      next q hv =>
        by_cases e9 : len = 1 ∧ b ≤ a ∧ dobj t' = some q.1 ∧ ¬ (i < 0 ∨ n ≤ i.toNatClampNeg)
        · rw [if_pos e9] at hh
          cases hh
          exact ⟨v, i, a, r, t', n, f, q.1, q.2, rfl, hq, hv, e9.1, e9.2.1, e9.2.2.1, e9.2.2.2, rfl⟩
        · rw [if_neg e9] at hh; cases hh
      next => cases hh
    next => cases hh
  next => cases hh
theorem dmin_inv {len d : Nat} {st : List Value} {h : dH} {cs ss : Nat} {g : dG} (hh : dmin len d st h cs ss = some g) : ∃ x y r, st = .int y :: .int x :: r ∧ len = 3 ∧ 1 ≤ d ∧ (r.map fun v => v.category).sum ≤ 8 ∧ g = (.int (if y < x then y else x) :: r, h, cs, ss) := by
  unfold dmin at hh
  split at hh
  next y x r =>
    by_cases e9 : len = 3 ∧ 1 ≤ d ∧ (r.map fun v => v.category).sum ≤ 8
    · rw [if_pos e9] at hh; cases hh; exact ⟨x, y, r, rfl, e9.1, e9.2.1, e9.2.2, rfl⟩
    · rw [if_neg e9] at hh; cases hh
  next => cases hh
theorem dmax_inv {len d : Nat} {st : List Value} {h : dH} {cs ss : Nat} {g : dG} (hh : dmax len d st h cs ss = some g) : ∃ x y r, st = .int y :: .int x :: r ∧ len = 3 ∧ 1 ≤ d ∧ (r.map fun v => v.category).sum ≤ 8 ∧ g = (.int (if x < y then y else x) :: r, h, cs, ss) := by
  unfold dmax at hh
  split at hh
  next y x r =>
    by_cases e9 : len = 3 ∧ 1 ≤ d ∧ (r.map fun v => v.category).sum ≤ 8
    · rw [if_pos e9] at hh; cases hh; exact ⟨x, y, r, rfl, e9.1, e9.2.1, e9.2.2, rfl⟩
    · rw [if_neg e9] at hh; cases hh
  next => cases hh
theorem dminL_inv {len d : Nat} {st : List Value} {h : dH} {cs ss : Nat} {g : dG} (hh : dminL len d st h cs ss = some g) : ∃ x y r, st = .long y :: .long x :: r ∧ len = 3 ∧ 1 ≤ d ∧ (r.map fun v => v.category).sum ≤ 8 ∧ g = (.long (if y < x then y else x) :: r, h, cs, ss) := by
  unfold dminL at hh
  split at hh
  next y x r =>
    by_cases e9 : len = 3 ∧ 1 ≤ d ∧ (r.map fun v => v.category).sum ≤ 8
    · rw [if_pos e9] at hh; cases hh; exact ⟨x, y, r, rfl, e9.1, e9.2.1, e9.2.2, rfl⟩
    · rw [if_neg e9] at hh; cases hh
  next => cases hh
theorem dabsL_inv {len d : Nat} {st : List Value} {h : dH} {cs ss : Nat} {g : dG} (hh : dabsL len d st h cs ss = some g) : ∃ x r, st = .long x :: r ∧ len = 3 ∧ 1 ≤ d ∧ (r.map fun v => v.category).sum ≤ 8 ∧ g = (.long (if 0 < x then x else -x) :: r, h, cs, ss) := by
  unfold dabsL at hh
  split at hh
  next x r =>
    by_cases e9 : len = 3 ∧ 1 ≤ d ∧ (r.map fun v => v.category).sum ≤ 8
    · rw [if_pos e9] at hh; cases hh; exact ⟨x, r, rfl, e9.1, e9.2.1, e9.2.2, rfl⟩
    · rw [if_neg e9] at hh; cases hh
  next => cases hh
theorem dcpy_inv {b len d : Nat} {st : List Value} {h : dH} {cs ss : Nat} {g : dG} (hh : dcpy b len d st h cs ss = some g) : ∃ n dp a sp a0 r t n0 f n1 f1, st = .int n :: .int dp :: .ref a :: .int sp :: .ref a0 :: r ∧ h.2 a0 = some (.inl (t, n0, .inl f)) ∧ h.2 a = some (.inl (t, n1, .inl f1)) ∧ len = 3 ∧ 1 ≤ d ∧ b ≤ a ∧ dfit t f sp.toNatClampNeg n.toNatClampNeg = true ∧ ¬ sp < 0 ∧ ¬ dp < 0 ∧ ¬ n < 0 ∧ sp.toNatClampNeg + n.toNatClampNeg ≤ n0 ∧ dp.toNatClampNeg + n.toNatClampNeg ≤ n1 ∧ (r.map fun v => v.category).sum ≤ 8 ∧ g = (r, dupd h a (.inl (t, n1, .inl (va_cpy f f1 sp.toNatClampNeg dp.toNatClampNeg n.toNatClampNeg))), cs, ss) := by
  unfold dcpy at hh
  split at hh
  next n dp a sp a0 r =>
    split at hh
    next t n0 f h0 =>
      split at hh
      next t' n1 f1 h1 =>
        by_cases e9 : len = 3 ∧ 1 ≤ d ∧ b ≤ a ∧ t' = t ∧ dfit t f sp.toNatClampNeg n.toNatClampNeg = true ∧ ¬ sp < 0 ∧ ¬ dp < 0 ∧ ¬ n < 0 ∧ sp.toNatClampNeg + n.toNatClampNeg ≤ n0 ∧ dp.toNatClampNeg + n.toNatClampNeg ≤ n1 ∧ (r.map fun v => v.category).sum ≤ 8
        · rw [if_pos e9] at hh
          cases hh
          obtain ⟨e1, e2, e3, e4, e5⟩ := e9
          subst e4
          exact ⟨n, dp, a, sp, a0, r, t', n0, f, n1, f1, rfl, h0, h1, e1, e2, e3, e5.1, e5.2.1, e5.2.2.1, e5.2.2.2.1, e5.2.2.2.2.1, e5.2.2.2.2.2.1, e5.2.2.2.2.2.2, rfl⟩
        · rw [if_neg e9] at hh; cases hh
      next => cases hh
    next => cases hh
  next => cases hh
theorem dbi_inv {E : dE} {b d o len idx : Nat} {st : List Value} {h : dH} {cs ss : Nat} {g : dG} (hh : dbi E b d o len idx st h cs ss = some g) : (eBI E o idx = some 1 ∧ dmin len d st h cs ss = some g) ∨ (eBI E o idx = some 2 ∧ dmax len d st h cs ss = some g) ∨ (eBI E o idx = some 3 ∧ dminL len d st h cs ss = some g) ∨ (eBI E o idx = some 4 ∧ dabsL len d st h cs ss = some g) ∨ (eBI E o idx = some 5 ∧ dcpy b len d st h cs ss = some g) := by
  unfold dbi at hh
  split at hh
  next h1 => exact Or.inl ⟨h1, hh⟩
  next h1 => exact Or.inr (Or.inl ⟨h1, hh⟩)
  next h1 => exact Or.inr (Or.inr (Or.inl ⟨h1, hh⟩))
  next h1 => exact Or.inr (Or.inr (Or.inr (Or.inl ⟨h1, hh⟩)))
  next h1 => exact Or.inr (Or.inr (Or.inr (Or.inr ⟨h1, hh⟩)))
  next => cases hh
theorem doi_inv {E : dE} {d o len idx : Nat} {st : List Value} {h : dH} {cs ss : Nat} {g : dG} (hh : doi E d o len idx st h cs ss = some g) : ∃ a r, eBI E o idx = some 0 ∧ st = .ref a :: r ∧ len = 3 ∧ 1 ≤ d ∧ (r.map fun v => v.category).sum ≤ 8 ∧ g = (r, h, cs, ss) := by
  unfold doi at hh
  by_cases h1 : eBI E o idx = some 0
  · rw [if_pos h1] at hh
    unfold doi0 at hh
    split at hh
    next a r =>
      by_cases e9 : len = 3 ∧ 1 ≤ d ∧ (r.map fun v => v.category).sum ≤ 8
      · rw [if_pos e9] at hh; cases hh; exact ⟨a, r, h1, rfl, e9.1, e9.2.1, e9.2.2, rfl⟩
      · rw [if_neg e9] at hh; cases hh
    next => cases hh
  · rw [if_neg h1] at hh; cases hh
theorem dldc_inv {len n : Nat} {o : Option Value} {st : List Value} {h : dH} {cs ss : Nat} {g : dG} (hh : dldc len n o st h cs ss = some g) : ∃ v, o = some v ∧ len = n ∧ g = (v :: st, h, cs, ss) := by
  unfold dldc at hh
  split at hh
  next v =>
    by_cases e9 : len = n
    · rw [if_pos e9] at hh; cases hh; exact ⟨v, rfl, e9, rfl⟩
    · rw [if_neg e9] at hh; cases hh
  next => cases hh
theorem dor_inv {a b : Option dG} {g : dG} (h : dor a b = some g) : a = some g ∨ b = some g := by
  unfold dor at h
  cases a with
  | some x => exact Or.inl h
  | none => exact Or.inr h
theorem d_find {l : List (Nat × Nat × List Int32)} {p : Nat × Nat × List Int32 → Bool} {x : Nat × Nat × List Int32} (h : l.find? p = some x) : x ∈ l ∧ p x = true := ⟨List.mem_of_find?_eq_some h, List.find?_some h⟩
theorem dgets_inv {E : dE} {o len idx : Nat} {st : List Value} {h : dH} {cs ss : Nat} {g : dG} (hh : dgets E o len idx st h cs ss = some g) : ∃ x r, x ∈ eTL E ∧ st = .ref x.1 :: r ∧ len = 3 ∧ ((eSF E o idx = some true ∧ g = (.ref x.2.1 :: r, h, cs, ss)) ∨ (eSF E o idx = some false ∧ g = (.int 0 :: r, h, cs, ss))) := by
  unfold dgets at hh
  split at hh
  next a r =>
    split at hh
    next x hx =>
      obtain ⟨h1, h2⟩ := d_find hx
      have h2 : x.1 = a := by simpa using h2
      subst h2
      split at hh
      next h3 =>
        by_cases e9 : len = 3
        · rw [if_pos e9] at hh; cases hh; exact ⟨x, r, h1, rfl, e9, Or.inl ⟨h3, rfl⟩⟩
        · rw [if_neg e9] at hh; cases hh
      next h3 =>
        by_cases e9 : len = 3
        · rw [if_pos e9] at hh; cases hh; exact ⟨x, r, h1, rfl, e9, Or.inr ⟨h3, rfl⟩⟩
        · rw [if_neg e9] at hh; cases hh
      next => cases hh
    next => cases hh
  next => cases hh
theorem dslen_inv {E : dE} {len : Nat} {st : List Value} {h : dH} {cs ss : Nat} {g : dG} (hh : dslen E len st h cs ss = some g) : ∃ x r, x ∈ eTL E ∧ st = .ref x.2.1 :: r ∧ len = 1 ∧ g = (.int (Int32.ofNat x.2.2.length) :: r, h, cs, ss) := by
  unfold dslen at hh
  split at hh
  next a r =>
    split at hh
    next x hx =>
      obtain ⟨h1, h2⟩ := d_find hx
      have h2 : x.2.1 = a := by simpa using h2
      subst h2
      by_cases e9 : len = 1
      · rw [if_pos e9] at hh; cases hh; exact ⟨x, r, h1, rfl, e9, rfl⟩
      · rw [if_neg e9] at hh; cases hh
    next => cases hh
  next => cases hh
theorem dsld_inv {E : dE} {len : Nat} {st : List Value} {h : dH} {cs ss : Nat} {g : dG} (hh : dsld E len st h cs ss = some g) : ∃ x i r, x ∈ eTL E ∧ st = .int i :: .ref x.2.1 :: r ∧ len = 1 ∧ vp_in i x.2.2.length ∧ g = (.int (x.2.2.getD i.toNatClampNeg 0) :: r, h, cs, ss) := by
  unfold dsld at hh
  split at hh
  next i a r =>
    split at hh
    next x hx =>
      obtain ⟨h1, h2⟩ := d_find hx
      have h2 : x.2.1 = a := by simpa using h2
      subst h2
      by_cases e9 : len = 1 ∧ ¬ (i < 0 ∨ x.2.2.length ≤ i.toNatClampNeg)
      · rw [if_pos e9] at hh; cases hh; exact ⟨x, i, r, h1, rfl, e9.1, e9.2, rfl⟩
      · rw [if_neg e9] at hh; cases hh
    next => cases hh
  next => cases hh
def dmo (g : dG) (cs ss : Nat) : Prop := cs ≤ g.2.2.1 ∧ ss ≤ g.2.2.2
theorem dmo_rf (st : List Value) (h : dH) (cs ss : Nat) : dmo (st, h, cs, ss) cs ss := ⟨Nat.le_refl _, Nat.le_refl _⟩
theorem dheap_mono {E : dE} {b d : Nat} {r : dM} {i : Instr} {len : Nat} {st : List Value} {h : dH} {cs ss : Nat} {g : dG} (hh : dheap E b d r i len st h cs ss = some g) : dmo g cs ss := by
  cases i with
  | getfield idx =>
    rcases dor_inv hh with hh | hh
    · obtain ⟨a, r, ci, fs, k, v, rfl, h1, h2, h3, h4, rfl⟩ := dgetf_inv hh; exact dmo_rf _ _ _ _
    · obtain ⟨x, r, h1, rfl, h2, ⟨h3, rfl⟩ | ⟨h3, rfl⟩⟩ := dgets_inv hh <;> exact dmo_rf _ _ _ _
  | putfield idx => obtain ⟨v, a, r, ci, fs, k, ty, fin, rfl, h1, h2, h3, h4, h5, h6, h7, h8, h9, rfl⟩ := dputf_inv hh; exact dmo_rf _ _ _ _
  | iaload => obtain ⟨i, a, r, n, f, rfl, h1, h2, h3, rfl⟩ := daldI_inv hh; exact dmo_rf _ _ _ _
  | laload => obtain ⟨i, a, r, n, f, rfl, h1, h2, h3, rfl⟩ := daldL_inv hh; exact dmo_rf _ _ _ _
  | baload =>
    rcases dor_inv hh with hh | hh
    · obtain ⟨i, a, r, n, f, rfl, h1, h2, h3, rfl⟩ := daldI_inv hh; exact dmo_rf _ _ _ _
    rcases dor_inv hh with hh | hh
    · obtain ⟨i, a, r, n, f, rfl, h1, h2, h3, rfl⟩ := daldI_inv hh; exact dmo_rf _ _ _ _
    · obtain ⟨x, i, r, h1, rfl, h2, h3, rfl⟩ := dsld_inv hh; exact dmo_rf _ _ _ _
  | iastore => obtain ⟨x, i, a, r, n, f, rfl, h1, h2, h0, h3, rfl⟩ := dastI_inv hh; exact dmo_rf _ _ _ _
  | lastore => obtain ⟨x, i, a, r, n, f, rfl, h1, h2, h0, h3, rfl⟩ := dastL_inv hh; exact dmo_rf _ _ _ _
  | bastore =>
    have hh : (match dastI b 1 len (vp_nar .byte) st h cs ss with
      | some g => some g
      | none => dastI b 3 len (vp_nar .boolean) st h cs ss) = some g := hh
    cases e1 : dastI b 1 len (vp_nar .byte) st h cs ss with
    | some g' =>
      rw [e1] at hh
      cases hh
      obtain ⟨x, i, a, r, n, f, rfl, h1, h2, h0, h3, rfl⟩ := dastI_inv e1; exact dmo_rf _ _ _ _
    | none =>
      rw [e1] at hh
      have hh : dastI b 3 len (vp_nar .boolean) st h cs ss = some g := hh
      obtain ⟨x, i, a, r, n, f, rfl, h1, h2, h0, h3, rfl⟩ := dastI_inv hh; exact dmo_rf _ _ _ _
  | arraylength =>
    rcases dor_inv hh with hh | hh
    · obtain ⟨a, r, t, x, ty, rfl, h1, h2, h3, rfl⟩ := dalen_inv hh; exact dmo_rf _ _ _ _
    · obtain ⟨x, r, h1, rfl, h2, rfl⟩ := dslen_inv hh; exact dmo_rf _ _ _ _
  | newarray at0 => obtain ⟨n, r, t, z0, w, rfl, h1, h0, h2, h3, h4, rfl⟩ := dnewa_inv hh; exact ⟨Nat.le_succ _, Nat.le_add_right _ _⟩
  | new idx => obtain ⟨ci, fs, w, h1, h2, h3, h4, rfl⟩ := dnewo_inv hh; exact ⟨Nat.le_succ _, Nat.le_add_right _ _⟩
  | anewarray idx => obtain ⟨t, n, r, w, h1, rfl, h2, h3, h4, h5, rfl⟩ := dnewq_inv hh; exact ⟨Nat.le_succ _, Nat.le_add_right _ _⟩
  | aaload => obtain ⟨i, a, r, t, n, f, ci, rfl, h1, h2, h3, h4, rfl⟩ := daldQ_inv hh; exact dmo_rf _ _ _ _
  | aastore => obtain ⟨v, i, a, r, t, n, f, ci, vs, rfl, h1, h2, h3, h4, h5, h6, rfl⟩ := dastQ_inv hh; exact dmo_rf _ _ _ _
  | invokestatic idx =>
    rcases dbi_inv hh with ⟨h1, h2⟩ | ⟨h1, h2⟩ | ⟨h1, h2⟩ | ⟨h1, h2⟩ | ⟨h1, h2⟩
    · obtain ⟨x, y, r, rfl, h3, h4, h5, rfl⟩ := dmin_inv h2; exact dmo_rf _ _ _ _
    · obtain ⟨x, y, r, rfl, h3, h4, h5, rfl⟩ := dmax_inv h2; exact dmo_rf _ _ _ _
    · obtain ⟨x, y, r, rfl, h3, h4, h5, rfl⟩ := dminL_inv h2; exact dmo_rf _ _ _ _
    · obtain ⟨x, r, rfl, h3, h4, h5, rfl⟩ := dabsL_inv h2; exact dmo_rf _ _ _ _
    · obtain ⟨n, dp, a, sp, a0, r, t, n0, f, n1, f1, rfl, h3, h4, h5, h6, h7, h8, h9, h10, h11, h12, h13, h14, rfl⟩ := dcpy_inv h2; exact dmo_rf _ _ _ _
  | invokespecial idx => obtain ⟨a, r, h1, rfl, h2, h3, h4, rfl⟩ := doi_inv hh; exact dmo_rf _ _ _ _
  | getstatic idx => obtain ⟨v, h1, h2, rfl⟩ := dldc_inv hh; exact dmo_rf _ _ _ _
  | ldc idx =>
    have hh : (match dldc len 2 ((eCN E r.2.2.2.2.2.1 idx).map Value.int) st h cs ss with
      | some g => some g
      | none => dldc len 2 ((eSR E r.2.2.2.2.2.1 idx).map Value.ref) st h cs ss) = some g := hh
    cases e1 : dldc len 2 ((eCN E r.2.2.2.2.2.1 idx).map Value.int) st h cs ss with
    | some g' => rw [e1] at hh; cases hh; obtain ⟨v, h1, h2, rfl⟩ := dldc_inv e1; exact dmo_rf _ _ _ _
    | none =>
      rw [e1] at hh
      have hh : dldc len 2 ((eSR E r.2.2.2.2.2.1 idx).map Value.ref) st h cs ss = some g := hh
      obtain ⟨v, h1, h2, rfl⟩ := dldc_inv hh; exact dmo_rf _ _ _ _
  | ldc_w idx => obtain ⟨v, h1, h2, rfl⟩ := dldc_inv hh; exact dmo_rf _ _ _ _
  | ldc2_w idx => obtain ⟨v, h1, h2, rfl⟩ := dldc_inv hh; exact dmo_rf _ _ _ _
  | _ => cases hh
/-- a run's step, told as a choice -/
theorem drun_step {E : dE} {b n d : Nat} {r : dM} {pc : Nat} {lo : dL0} {st : List Value} {h : dH} {cs ss : Nat} {z : dZ} (hh : drun E b (n + 1) d r pc lo st h cs ss = some z) : ∃ i len, decode r.2.1 pc = .ok (i, len) ∧
    ((∃ w, dpure i len pc r.2.2.1 lo st = some w ∧ drun E b n d r w.1 w.2.1 w.2.2 h cs ss = some z) ∨
     (∃ g, dheap E b d r i len st h cs ss = some g ∧ drun E b n d r (pc + len) lo g.1 g.2.1 g.2.2.1 g.2.2.2 = some z) ∨
     (∃ v, dret r i len st = some v ∧ z = (v, h, cs, ss)) ∨
     (∃ d' y w, d = d' + 1 ∧ dinv E r.2.2.2.2.2.1 i len st h = some y ∧ drun E b n d' y.1 0 (dent y.2.1) [] h 0 0 = some w ∧ drun E b n (d' + 1) r (pc + 3) lo (w.1.toList ++ y.2.2) w.2.1 (cs + w.2.2.1) (ss + w.2.2.2) = some z)) := by
  rw [drun] at hh
  cases hd : decode r.2.1 pc with
  | error x => rw [hd] at hh; cases hh
  | ok x =>
    obtain ⟨i, len⟩ := x
    rw [hd] at hh
    refine ⟨i, len, rfl, ?_⟩
    dsimp only at hh
    cases h1 : dpure i len pc r.2.2.1 lo st with
    | some w => rw [h1] at hh; exact Or.inl ⟨w, rfl, hh⟩
    | none =>
      rw [h1] at hh
      dsimp only at hh
      cases h2 : dheap E b d r i len st h cs ss with
      | some g => rw [h2] at hh; exact Or.inr (Or.inl ⟨g, rfl, hh⟩)
      | none =>
        rw [h2] at hh
        dsimp only at hh
        cases h3 : dret r i len st with
        | some v => rw [h3] at hh; cases hh; exact Or.inr (Or.inr (Or.inl ⟨v, rfl, rfl⟩))
        | none =>
          rw [h3] at hh
          dsimp only at hh
          cases d with
          | zero => cases hh
          | succ d =>
            dsimp only at hh
            cases h4 : dinv E r.2.2.2.2.2.1 i len st h with
            | none => rw [h4] at hh; cases hh
            | some y =>
              rw [h4] at hh
              dsimp only at hh
              cases h5 : drun E b n d y.1 0 (dent y.2.1) [] h 0 0 with
              | none => rw [h5] at hh; cases hh
              | some w => rw [h5] at hh; exact Or.inr (Or.inr (Or.inr ⟨d, y, w, rfl, rfl, h5, hh⟩))
theorem drun_mono {E : dE} {b : Nat} : ∀ (n d : Nat) (r : dM) (pc : Nat) (lo : dL0) (st : List Value) (h : dH) (cs ss : Nat) (z : dZ), drun E b n d r pc lo st h cs ss = some z → cs ≤ z.2.2.1 ∧ ss ≤ z.2.2.2 := by
  intro n
  induction n with
  | zero => intro d r pc lo st h cs ss z hh; cases hh
  | succ n ih =>
    intro d r pc lo st h cs ss z hh
    obtain ⟨i, len, hd, ⟨w, h1, h2⟩ | ⟨g, h1, h2⟩ | ⟨v, h1, rfl⟩ | ⟨d', y, w, rfl, h1, h2, h3⟩⟩ := drun_step hh
    · exact ih _ _ _ _ _ _ _ _ _ h2
    · have a := dheap_mono h1
      have b := ih _ _ _ _ _ _ _ _ _ h2
      exact ⟨Nat.le_trans a.1 b.1, Nat.le_trans a.2 b.2⟩
    · exact ⟨Nat.le_refl _, Nat.le_refl _⟩
    · have b := ih _ _ _ _ _ _ _ _ _ h3
      exact ⟨Nat.le_trans (Nat.le_add_right _ _) b.1, Nat.le_trans (Nat.le_add_right _ _) b.2⟩
