/-! runs with more room for calls are the same -/
theorem dheap_up {E : dE} {b d : Nat} {r : dM} {i : Instr} {len : Nat} {st : List Value} {h : dH} {cs ss : Nat} : dheap E b (d + 1) r i len st h cs ss = dheap E b (d + 2) r i len st h cs ss := by
  have h1 : (1 ≤ d + 1) = True := eq_true (by omega)
  have h2 : (1 ≤ d + 2) = True := eq_true (by omega)
  cases i <;> try rfl
  all_goals (unfold dheap; dsimp only)
  · unfold doi doi0
    simp only [h1, h2]
  · unfold dbi dmin dmax dminL dabsL dcpy
    simp only [h1, h2]
theorem dheap_up0 {E : dE} {b : Nat} {r : dM} {i : Instr} {len : Nat} {st : List Value} {h : dH} {cs ss : Nat} {g : dG} (hh : dheap E b 0 r i len st h cs ss = some g) : dheap E b 1 r i len st h cs ss = some g := by
  have h1 : (1 ≤ 0) = False := eq_false (by omega)
  cases i <;> try exact hh
  · unfold dheap doi doi0 at hh
    simp only [h1, false_and, and_false, if_false] at hh
    split at hh
    · split at hh <;> cases hh
    · cases hh
  · unfold dheap dbi dmin dmax dminL dabsL dcpy at hh
    simp only [h1, false_and, and_false, if_false] at hh
    split at hh
    all_goals first
      | cases hh; done
      | (split at hh <;> first | (cases hh; done) | (split at hh <;> first | (cases hh; done) | (split at hh <;> cases hh)))
theorem drun_up {E : dE} {b : Nat} : ∀ (n d : Nat) (r : dM) (pc : Nat) (lo : dL0) (st : List Value) (h : dH) (cs ss : Nat) (z : dZ), drun E b n d r pc lo st h cs ss = some z → drun E b n (d + 1) r pc lo st h cs ss = some z := by
  intro n
  induction n with
  | zero => intro d r pc lo st h cs ss z hh; cases hh
  | succ n ih =>
    intro d r pc lo st h cs ss z hh
    obtain ⟨i, len, hd, ⟨w, h1, h2⟩ | ⟨g, h0, h1, h2⟩ | ⟨v, h0, h1, h2, rfl⟩ | ⟨d', y, w, rfl, h0, h1, h2, h3, h4, h5⟩⟩ := drun_split hh
    · rw [drun_pure hd h1]; exact ih _ _ _ _ _ _ _ _ _ h2
    · have h1' : dheap E b (d + 1) r i len st h cs ss = some g := by
        cases d with
        | zero => exact dheap_up0 h1
        | succ d => rw [← dheap_up]; exact h1
      rw [drun_heap hd h0 h1']; exact ih _ _ _ _ _ _ _ _ _ h2
    · have h1' : dheap E b (d + 1) r i len st h cs ss = none := by
        have hi : i = .ireturn ∨ i = .lreturn ∨ i = .areturn ∨ i = .return_ := by
          cases i <;> first | (cases h2; done) | simp
        rcases hi with rfl | rfl | rfl | rfl <;> rfl
      exact drun_ret hd h0 h1' h2
    · rw [drun_call hd h0 (by rw [← dheap_up]; exact h1) h2 h3 (ih _ _ _ _ _ _ _ _ _ h4)]; exact ih _ _ _ _ _ _ _ _ _ h5
theorem go_up {E : dE} {b d d' : Nat} {r : dM} {pc : Nat} {lo : dL0} {st : List Value} {h : dH} {cs ss : Nat} {z : dZ} (hle : d ≤ d') (hh : dGo E b d r pc lo st h cs ss z) : dGo E b d' r pc lo st h cs ss z := by
  induction d' with
  | zero => obtain rfl : d = 0 := by omega
            exact hh
  | succ m ih =>
    by_cases e : d = m + 1
    · subst e; exact hh
    · obtain ⟨n, hn⟩ := ih (by omega)
      exact ⟨n, drun_up _ _ _ _ _ _ _ _ _ _ hn⟩
/-! what is known of the locals -/
def lA (lo : dL0) (L : List (Option Value)) : Prop := ∀ j v, L[j]? = some (some v) → lo j = some v
def lkill (L : List (Option Value)) (i : Nat) : List (Option Value) := match i with
  | 0 => L
  | j + 1 => match L[j]? with
    | some (some w) => if w.category = 2 then L.set j none else L
    | _ => L
def lset1 (L : List (Option Value)) (i : Nat) (v : Value) : List (Option Value) := (lkill L i).set i (some v)
def lset2 (L : List (Option Value)) (i : Nat) (v : Value) : List (Option Value) := ((lkill L i).set i (some v)).set (i + 1) none
theorem lkill_at {L : List (Option Value)} {i j : Nat} {v : Value} (h : (lkill L i)[j]? = some (some v)) : L[j]? = some (some v) ∧ ¬ (j + 1 = i ∧ v.category = 2) := by
  cases i with
  | zero => exact ⟨h, by omega⟩
  | succ k =>
    unfold lkill at h
    dsimp only at h
    split at h
    next w hw =>
      by_cases e : w.category = 2
      · rw [if_pos e] at h
        by_cases ej : j = k
        · subst ej
          rw [List.getElem?_set_self' , hw] at h
          simp at h
        · rw [List.getElem?_set_ne (fun q => ej q.symm)] at h
          exact ⟨h, by omega⟩
      · rw [if_neg e] at h
        refine ⟨h, fun ⟨q1, q2⟩ => ?_⟩
        obtain rfl : j = k := by omega
        rw [hw] at h
        obtain rfl : w = v := by simpa using h
        exact e q2
    next hw =>
      refine ⟨h, fun ⟨q1, q2⟩ => ?_⟩
      obtain rfl : j = k := by omega
      exact hw v h
theorem lA_set1 {lo : dL0} {L : List (Option Value)} {i : Nat} {v : Value} (h : lA lo L) : lA (dset1 lo i v) (lset1 L i v) := by
  intro j w hw
  unfold lset1 at hw
  unfold dset1
  by_cases e : j = i
  · subst e
    rw [if_pos rfl]
    rw [List.getElem?_set_self'] at hw
    cases hq : (lkill L j)[j]? with
    | none => rw [hq] at hw; cases hw
    | some q => rw [hq] at hw; simpa using hw
  · rw [if_neg e]
    rw [List.getElem?_set_ne (fun q => e q.symm)] at hw
    obtain ⟨h1, h2⟩ := lkill_at hw
    rw [h j w h1]
    dsimp only
    rw [if_neg h2]
theorem lA_set2 {lo : dL0} {L : List (Option Value)} {i : Nat} {v : Value} (h : lA lo L) : lA (dset2 lo i v) (lset2 L i v) := by
  intro j w hw
  unfold lset2 at hw
  unfold dset2
  by_cases e2 : j = i + 1
  · subst e2
    rw [List.getElem?_set_self'] at hw
    cases hq : ((lkill L i).set i (some v))[i + 1]? with
    | none => rw [hq] at hw; cases hw
    | some q => rw [hq] at hw; simp at hw
  · rw [List.getElem?_set_ne (fun q => e2 q.symm)] at hw
    by_cases e : j = i
    · subst e
      rw [if_pos rfl]
      rw [List.getElem?_set_self'] at hw
      cases hq : (lkill L j)[j]? with
      | none => rw [hq] at hw; cases hw
      | some q => rw [hq] at hw; simpa using hw
    · rw [if_neg e, if_neg e2]
      rw [List.getElem?_set_ne (fun q => e q.symm)] at hw
      obtain ⟨h1, h2⟩ := lkill_at hw
      rw [h j w h1]
      dsimp only
      rw [if_neg h2]
/-- less is known -/
def lsub : List (Option Value) → List (Option Value) → Prop
  | [], _ => True
  | none :: t, L => lsub t L.tail
  | some v :: t, L => L.head? = some (some v) ∧ lsub t L.tail
theorem lsub_at : ∀ {A B : List (Option Value)}, lsub A B → ∀ {j : Nat} {v : Value}, A[j]? = some (some v) → B[j]? = some (some v)
  | [], _, _, j, v, h => by cases h
  | none :: t, B, hs, j, v, h => by
    cases j with
    | zero => cases h
    | succ j =>
      have := lsub_at (A := t) (B := B.tail) hs (j := j) (v := v) h
      rw [List.getElem?_tail] at this
      exact this
  | some w :: t, B, hs, j, v, h => by
    cases j with
    | zero =>
      obtain rfl : w = v := by simpa using h
      have := hs.1
      rw [List.head?_eq_getElem?] at this
      exact this
    | succ j =>
      have := lsub_at (A := t) (B := B.tail) hs.2 (j := j) (v := v) h
      rw [List.getElem?_tail] at this
      exact this
theorem lA_sub {lo : dL0} {A B : List (Option Value)} (hs : lsub A B) (h : lA lo B) : lA lo A := fun j v hv => h j v (lsub_at hs hv)
