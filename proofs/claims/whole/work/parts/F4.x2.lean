set_option maxHeartbeats 1600000
/-! the reference at its start: its heap in the form that its contracts speak of -/
def ixr9 (k : Nat) : Nat := ROWS13.findIdx (fun q => q.1 == k)
def ad9 (o k : Nat) : Nat := o + 1 + ixr9 k
def sg9 : rS := (fun k => if k = 106 then -1 else 0, fun _ => 0, fun _ _ => 0, fun _ _ => 0)
theorem r_len9 : ROWS13.length = 75 := by decide +kernel
theorem ix_p9 {p : Nat} {q : Nat × Nat × Nat} (h : ROWS13[p]? = some q) : ixr9 q.1 = p ∧ p < 75 := by
  have l1 : p < 75 := by rw [← r_len9]; exact (List.getElem?_eq_some_iff.mp h).1
  have key : ∀ p, p < 75 → (match ROWS13[p]? with | some q => decide (ROWS13.findIdx (fun z => z.1 == q.1) = p) | none => false) = true := by decide +kernel
  have k := key p l1
  rw [h] at k
  exact ⟨of_decide_eq_true k, l1⟩
theorem ix_m9 {k : Nat} {q : Nat × Nat} (h : rT k = some q) : ∃ p, ROWS13[p]? = some (k, q) ∧ ixr9 k = p ∧ p < 75 := by
  obtain ⟨p, hp⟩ := List.getElem?_of_mem (r_lk h)
  have i := ix_p9 hp
  exact ⟨p, hp, i.1, i.2⟩
theorem ra_9 {b o : Nat} (hb : b ≤ o) : rA b o (ad9 o) := by
  refine ⟨hb, fun k q _ => ⟨by unfold ad9; omega, by unfold ad9; omega⟩, fun k k' q q' h h' e => ?_⟩
  obtain ⟨p, h1, h2, _⟩ := ix_m9 h
  obtain ⟨p', h1', h2', _⟩ := ix_m9 h'
  unfold ad9 at e
  have z : p = p' := by omega
  rw [z, h1'] at h1
  exact (congrArg (fun x : Nat × Nat × Nat => x.1) (Option.some.inj h1)).symm
theorem df_v9 : ∀ i, i < 126 → rT i = none → df9 true i = (if i = 110 ∨ i = 112 then Value.long 0 else Value.int (if i = 106 then -1 else 0)) := by decide +kernel
theorem x13_h9 {hb h : dH} {o : Nat} (H : xS9 hb o 75 true h) : h = rH (some (o + 76), hb.2) o (ad9 o) sg9 := by
  obtain ⟨h1, ⟨vf, h2, h3, h4⟩, h5, h6⟩ := H
  refine Prod.ext h1 ?_
  funext a
  show h.2 a = if a = o then some (.inr (16, rF (ad9 o) sg9)) else match (ROWS13.find? fun q => ad9 o q.1 == a) with
    | some q => some (rRow sg9 q.1 q.2)
    | none => hb.2 a
  by_cases e : a = o
  · rw [if_pos e, e, h2]
    unfold rF
    have c : (List.range 126).map vf = (List.range 126).map (rV (ad9 o) sg9) := List.map_congr_left (fun i hi => by
      have li : i < 126 := List.mem_range.mp hi
      unfold rV
      cases ht : rT i with
      | some q =>
        obtain ⟨p, g1, g2, g3⟩ := ix_m9 ht
        have y := h3 p (i, q) g3 g1
        show vf i = if (some q).isSome = true then _ else _
        rw [if_pos (show (some q).isSome = true from rfl)]
        unfold ad9
        rw [g2]
        exact y
      | none =>
        show vf i = if (none : Option (Nat × Nat)).isSome = true then _ else _
        rw [if_neg (by decide), h4 i (fun p q hp hq z => by
          have m := r_lk2 q (List.mem_of_getElem? hq)
          rw [z, ht] at m
          cases m)]
        exact df_v9 i li ht)
    rw [c]
  · rw [if_neg e]
    cases hf : ROWS13.find? (fun q => ad9 o q.1 == a) with
    | some q =>
      have m : q ∈ ROWS13 := List.mem_of_find?_eq_some hf
      have e2 : ad9 o q.1 = a := by simpa using List.find?_some hf
      obtain ⟨p, hp⟩ := List.getElem?_of_mem m
      have i := ix_p9 hp
      unfold ad9 at e2
      rw [i.1] at e2
      rw [← e2, h5 p q i.2 hp]
      rfl
    | none =>
      refine h6 a e ?_
      by_cases l : a < o
      · exact Or.inl l
      · right
        by_cases l2 : o + 75 < a
        · exact l2
        · exfalso
          have lp : a - o - 1 < ROWS13.length := by rw [r_len9]; omega
          have g : ROWS13[a - o - 1]? = some (ROWS13[a - o - 1]) := List.getElem?_eq_getElem lp
          have i := ix_p9 g
          have n := List.find?_eq_none.mp hf _ (List.getElem_mem lp)
          apply n
          show (ad9 o _ == a) = true
          unfold ad9
          rw [i.1]
          have z : o + 1 + (a - o - 1) = a := by omega
          rw [z]
          exact beq_self_eq_true a
