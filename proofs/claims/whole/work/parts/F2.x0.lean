set_option maxHeartbeats 1600000
/-! the reference's constructor on the small machine -/
def mX139 : dM := (yX13_init, cX13_init, 1, none, false, 16, 0)
def x0R9 (q : Nat × Nat × Nat) : dC := if q.2.1 = 2 then .inl (2, q.2.2, .inr (.inl (fun _ => 0))) else .inl (q.2.1, q.2.2, .inl (fun _ => 0))
/-- a field's value before its row is made -/
def df9 (m : Bool) (i : Nat) : Value := if m = true ∧ i = 106 then .int (-1) else defaultValue (nY 16 i)
/-- behind j rows -/
def xS9 (hb : dH) (o j : Nat) (m : Bool) (h : dH) : Prop := h.1 = some (o + 1 + j) ∧ (∃ vf : Nat → Value, h.2 o = some (.inr (16, (List.range 126).map vf)) ∧ (∀ p q, p < j → ROWS13[p]? = some q → vf q.1 = .ref (o + 1 + p)) ∧ ∀ i, (∀ p q, p < j → ROWS13[p]? = some q → q.1 ≠ i) → vf i = df9 m i) ∧ (∀ p q, p < j → ROWS13[p]? = some q → h.2 (o + 1 + p) = some (x0R9 q)) ∧ ∀ a, a ≠ o → (a < o ∨ o + j < a) → h.2 a = hb.2 a
theorem ls_set9 {vf : Nat → Value} {k n : Nat} {v : Value} : ((List.range n).map vf).set k v = (List.range n).map (fun i => if i = k then v else vf i) := by
  refine List.ext_getElem? (fun i => ?_)
  rw [List.getElem?_set]
  simp only [List.length_map, List.length_range, List.getElem?_map]
  by_cases e : k = i
  · rw [if_pos e]
    by_cases l : k < n
    · rw [if_pos l, ← e, List.getElem?_range l]
      simp
    · rw [if_neg l, List.getElem?_eq_none (by simp; omega)]
      rfl
  · rw [if_neg e]
    cases f : (List.range n)[i]? with
    | none => rfl
    | some x =>
      have z0 : i < n := by
        have z := (List.getElem?_eq_some_iff.mp f).1
        simpa using z
      have y : (List.range n)[i]? = some i := List.getElem?_range z0
      rw [f] at y
      have z : x = i := Option.some.inj y
      show some (vf x) = some (if x = k then v else vf x)
      rw [if_neg (by omega)]
theorem r_apart9 {p p' : Nat} {q q' : Nat × Nat × Nat} (h : ROWS13[p]? = some q) (h' : ROWS13[p']? = some q') (e : q.1 = q'.1) : p = p' := by
  have key : ∀ i, i < 75 → ∀ j, j < 75 → (ROWS13.map fun q => q.1)[i]? = (ROWS13.map fun q => q.1)[j]? → i = j := by decide +kernel
  have l : ROWS13.length = 75 := by decide +kernel
  have l1 : p < 75 := by rw [← l]; exact (List.getElem?_eq_some_iff.mp h).1
  have l2 : p' < 75 := by rw [← l]; exact (List.getElem?_eq_some_iff.mp h').1
  refine key p l1 p' l2 ?_
  rw [List.getElem?_map, List.getElem?_map, h, h']
  show some q.1 = some q'.1
  rw [e]
/-- the run comes to the end, all rows made -/
def xG9 (sa : Nat → Nat) (TL : List (Nat × Nat × List Int32)) (b d : Nat) (hb : dH) (o pc : Nat) (st : List Value) (h : dH) (cs ss : Nat) : Prop := ∃ hf, xS9 hb o 75 true hf ∧ dGo (dEE sa TL) b d mX139 pc (dent [.ref o]) st h cs ss (none, hf, 75, 3196409)
section XR
variable {sa : Nat → Nat} {TL : List (Nat × Nat × List Int32)} {b d pc cs ss : Nat} {st : List Value} {hb h : dH} {o j : Nat} {m : Bool}
theorem xg_p9 {i : Instr} {len pc' : Nat} {st' : List Value} (hd : decode cX13_init pc = .ok (i, len)) (hw : dpure i len pc 1 (dent [.ref o]) st = some (pc', dent [.ref o], st')) (K : xG9 sa TL b d hb o pc' st' h cs ss) : xG9 sa TL b d hb o pc st h cs ss := by
  obtain ⟨hf, q, g⟩ := K
  exact ⟨hf, q, go_pure (r := mX139) (w := (pc', dent [.ref o], st')) hd hw g⟩
theorem xg_h9 {i : Instr} {len : Nat} {g : dG} (hd : decode cX13_init pc = .ok (i, len)) (h0 : dpure i len pc 1 (dent [.ref o]) st = none) (hg : dheap (dEE sa TL) b d mX139 i len st h cs ss = some g) (K : xG9 sa TL b d hb o (pc + len) g.1 g.2.1 g.2.2.1 g.2.2.2) : xG9 sa TL b d hb o pc st h cs ss := by
  obtain ⟨hf, q, k⟩ := K
  exact ⟨hf, q, go_heap (r := mX139) hd h0 hg k⟩
theorem xl_9 {i : Instr} {len pc' : Nat} {st' : List Value} (hd : decode cX13_init pc = .ok (i, len)) (h0 : dpure i len pc 1 (dent [.ref o]) st = none) (hpc : pc + len = pc') (hg : dheap (dEE sa TL) b d mX139 i len st h cs ss = some (st', h, cs, ss)) (K : xG9 sa TL b d hb o pc' st' h cs ss) : xG9 sa TL b d hb o pc st h cs ss := by
  subst hpc
  exact xg_h9 hd h0 hg K
/-- a row is made for a field -/
theorem xr_9 {k t n idx pc' pc2 cs' ss' : Nat} {nI : Int32} {at0 : ArrayType} {z0 : (Nat → Int32) ⊕ (Nat → Int64) ⊕ (Nat → UInt32) ⊕ (Nat → UInt64) ⊕ (Nat → Option Nat)} (H : xS9 hb o j m h) (hbo : b ≤ o) (hq : ROWS13[j]? = some (k, t, n)) (hn : nI.toNatClampNeg = n ∧ ¬ nI < 0 ∧ nI.toNatClampNeg * componentBytes (newarray.typeOf at0) ≤ 536870912) (dn : decode cX13_init pc = .ok (.newarray at0, 2)) (ht : dnty at0 = some (t, z0)) (hz : x0R9 (k, t, n) = .inl (t, n, z0)) (hpc : pc + 2 = pc2 ∧ pc2 + 3 = pc' ∧ cs + 1 = cs' ∧ ss + n = ss') (dp : decode cX13_init pc2 = .ok (.putfield idx, 3)) (hf : (tFL 16).lookup idx = some (16, k)) (hk : k < 126) (hv : ∀ w, narrow (nY 16 k) (.ref w) = .ref w ∧ fits (nY 16 k) (.ref w) = true) (K : ∀ h', xS9 hb o (j + 1) m h' → xG9 sa TL b d hb o pc' [] h' cs' ss') : xG9 sa TL b d hb o pc [.int nI, .ref o] h cs ss := by
  obtain ⟨rfl, rfl, rfl, rfl⟩ := hpc
  obtain ⟨h1, ⟨vf, h2, h3, h4⟩, h5, h6⟩ := H
  have w : o + 1 + j ≠ o := by omega
  refine xg_h9 (g := ([.ref (o + 1 + j), .ref o], dnew h (o + 1 + j) (x0R9 (k, t, n)), cs + 1, ss + n)) dn rfl ?_ ?_
  · show dnewa 2 at0 [.int nI, .ref o] h cs ss = _
    unfold dnewa
    dsimp only
    rw [ht, h1]
    dsimp only
    rw [if_pos ⟨rfl, hn.2⟩, hn.1, hz]
  refine xg_h9 (g := ([], dupd (dnew h (o + 1 + j) (x0R9 (k, t, n))) o (.inr (16, (List.range 126).map (fun i => if i = k then .ref (o + 1 + j) else vf i))), cs + 1, ss + n)) dp rfl ?_ ?_
  · show dputf (dEE sa TL) b 16 3 idx true [.ref (o + 1 + j), .ref o] (dnew h (o + 1 + j) (x0R9 (k, t, n))) (cs + 1) (ss + n) = _
    have e1 : (dnew h (o + 1 + j) (x0R9 (k, t, n))).2 o = some (.inr (16, (List.range 126).map vf)) := by
      show (if o = o + 1 + j then _ else h.2 o) = _
      rw [if_neg (by omega), h2]
    have e2 : eFL (dEE sa TL) 16 idx = some (16, k) := hf
    have e3 : eFT (dEE sa TL) 16 k = some (nY 16 k, (nT 16 k).2.2.2) := if_pos hk
    unfold dputf
    dsimp only
    rw [e1]
    dsimp only
    rw [e2]
    dsimp only
    rw [e3]
    dsimp only
    rw [if_pos ⟨rfl, hbo, rfl, Or.inr ⟨rfl, rfl⟩, (hv _).1, (hv _).2, by simp; exact hk⟩, ls_set9]
  · refine K _ ⟨rfl, ⟨fun i => if i = k then .ref (o + 1 + j) else vf i, ?_, fun p q hp hqp => ?_, fun i hi => ?_⟩, fun p q hp hqp => ?_, fun a ha hr => ?_⟩
    · show (if o = o then _ else _) = _
      rw [if_pos rfl]
    · by_cases e : p = j
      · rw [e, hq] at hqp
        have y : q = (k, t, n) := (Option.some.inj hqp).symm
        rw [y, e]
        exact if_pos rfl
      · have ne : q.1 ≠ k := fun y => e (r_apart9 hqp hq y)
        show (if q.1 = k then _ else vf q.1) = _
        rw [if_neg ne]
        exact h3 p q (by omega) hqp
    · have ne : ¬ i = k := fun y => hi j (k, t, n) (by omega) hq y.symm
      show (if i = k then _ else vf i) = _
      rw [if_neg ne]
      exact h4 i (fun p q hp hqp => hi p q (by omega) hqp)
    · show (if o + 1 + p = o then _ else if o + 1 + p = o + 1 + j then some (x0R9 (k, t, n)) else h.2 (o + 1 + p)) = _
      rw [if_neg (by omega)]
      by_cases e : p = j
      · rw [e, if_pos rfl]
        rw [e, hq] at hqp
        rw [Option.some.inj hqp]
      · rw [if_neg (by omega)]
        exact h5 p q (by omega) hqp
    · show (if a = o then _ else if a = o + 1 + j then some (x0R9 (k, t, n)) else h.2 a) = _
      rw [if_neg ha, if_neg (by omega)]
      exact h6 a ha (by omega)
/-- the number of the field 106 -/
theorem xm_9 {idx : Nat} (H : xS9 hb o j m h) (hbo : b ≤ o) (dp : decode cX13_init pc = .ok (.putfield idx, 3)) (hf : (tFL 16).lookup idx = some (16, 106)) (hv : narrow (nY 16 106) (.int (-1)) = .int (-1) ∧ fits (nY 16 106) (.int (-1)) = true) (hr : ∀ q ∈ ROWS13, q.1 ≠ 106) (K : ∀ h', xS9 hb o j true h' → xG9 sa TL b d hb o (pc + 3) [] h' cs ss) : xG9 sa TL b d hb o pc [.int (-1), .ref o] h cs ss := by
  obtain ⟨h1, ⟨vf, h2, h3, h4⟩, h5, h6⟩ := H
  refine xg_h9 (g := ([], dupd h o (.inr (16, (List.range 126).map (fun i => if i = 106 then .int (-1) else vf i))), cs, ss)) dp rfl ?_ ?_
  · show dputf (dEE sa TL) b 16 3 idx true [.int (-1), .ref o] h cs ss = _
    have e2 : eFL (dEE sa TL) 16 idx = some (16, 106) := hf
    have e3 : eFT (dEE sa TL) 16 106 = some (nY 16 106, (nT 16 106).2.2.2) := by
      show tFT 16 106 = _
      unfold tFT
      rw [if_pos (by decide)]
    unfold dputf
    dsimp only
    rw [h2]
    dsimp only
    rw [e2]
    dsimp only
    rw [e3]
    dsimp only
    rw [if_pos ⟨rfl, hbo, rfl, Or.inr ⟨rfl, rfl⟩, hv.1, hv.2, by simp⟩, ls_set9]
  · refine K _ ⟨h1, ⟨fun i => if i = 106 then .int (-1) else vf i, if_pos rfl, fun p q hp hqp => ?_, fun i hi => ?_⟩, fun p q hp hqp => ?_, fun a ha hr => ?_⟩
    · show (if q.1 = 106 then _ else vf q.1) = _
      rw [if_neg (hr q (List.mem_of_getElem? hqp))]
      exact h3 p q hp hqp
    · show (if i = 106 then .int (-1) else vf i) = df9 true i
      unfold df9
      by_cases e : i = 106
      · rw [if_pos e, if_pos ⟨rfl, e⟩]
      · rw [if_neg e, if_neg (fun y => e y.2), h4 i hi]
        unfold df9
        rw [if_neg (fun y => e y.2)]
    · show (if o + 1 + p = o then _ else h.2 (o + 1 + p)) = _
      rw [if_neg (by omega)]
      exact h5 p q hp hqp
    · show (if a = o then _ else h.2 a) = _
      rw [if_neg ha]
      exact h6 a ha hr
end XR
