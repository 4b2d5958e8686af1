/-! THE CLAIM OUT OF A STATEMENT ON THE SMALL MACHINE ALONE: from every start (b cells, the script at scr, three texts) the law's run comes to 1 within the room -/
def lawPost (v : Option Value) (cs ss : Nat) : Prop := v = some (.int 1) ∧ cs ≤ 601024 ∧ ss ≤ 7293034
def LawRuns : Prop := ∀ (b scr L : Nat) (xs : Nat → Int32) (sa : Nat → Nat) (v0 v1 v2 : Nat), L ≤ 3072 → scr < b → (sa 0 < b ∧ sa 1 < b ∧ sa 3 < b) → (v0 < b ∧ v1 < b ∧ v2 < b) → (sa 0 ≠ sa 1 ∧ sa 0 ≠ sa 3 ∧ sa 1 ≠ sa 3) → (v0 ≠ v1 ∧ v0 ≠ v2 ∧ v1 ≠ v2) →
  ∃ n d, d ≤ 800 ∧ dwp (dEE sa (TLs sa v0 v1 v2)) dXX dKK b scr L xs lawPost n d rLaw 0 (dent [.ref scr]) [] (some b, fun _ => none) 0 0
theorem law_end {i : Instr} {len : Nat} {st : List Value} {x9 : Int32} (h : dret rLaw i len st = some (some (.int x9))) : i = .ireturn ∧ len = 1 ∧ st = [.int x9] := by
  cases i with
  | ireturn =>
    unfold dret at h
    dsimp only at h
    split at h
    next v =>
      have h : (if len = 1 ∧ narrow .boolean (.int v) = .int v then some (some (Value.int v)) else none) = some (some (.int x9)) := h
      by_cases e : len = 1 ∧ narrow .boolean (.int v) = .int v
      · rw [if_pos e] at h; cases h; exact ⟨rfl, e.1, rfl⟩
      · rw [if_neg e] at h; cases h
    next => cases h
  | lreturn =>
    unfold dret at h
    dsimp only at h
    split at h
    next v => exact absurd h (by show ¬ (none : Option (Option Value)) = _; exact fun h => by cases h)
    next => cases h
  | areturn =>
    unfold dret at h
    dsimp only at h
    split at h
    next v => exact absurd h (by show ¬ (none : Option (Option Value)) = _; exact fun h => by cases h)
    next => cases h
    next => cases h
  | return_ =>
    unfold dret at h
    dsimp only at h
    split at h
    next => exact absurd h (by show ¬ (none : Option (Option Value)) = _; exact fun h => by cases h)
    next => cases h
  | _ => cases h
theorem whole_start (hrun : LawRuns) {p : Program} {e : Env} {s : State} {m : MethodId} {below : List Frame} {meth : Method} {c : Code} (l : Launch) (hst : l.stackTraces = false) (hmn : meth.name = x.name) {b L : Nat} {xs : Nat → Int32} (hL : L ≤ 3072) (C0 : lw_At p s m meth c b L xs) : W p l e room_1 s m #[Value.ref b] below meth c s.heap [] 0 0 (lw_Z below #[Value.ref b] s) (entryFrame m ([Value.ref b] : List Value).toArray 8) := by
  obtain ⟨D, cy, hK⟩ := st_K C0
  obtain ⟨sa, v0, v1, v2, hT, g1, g2, g3, g4⟩ := st_T C0
  obtain ⟨hx, hb, hr, hml, hown, hts, hX, hbl, hlocks, hgv⟩ := C0
  obtain ⟨n, d, hd, hw⟩ := hrun s.heap.size b L xs sa v0 v1 v2 hL hbl g1 g2 g3 g4
  rw [lg_entry_eq]
  refine dwp_sim (ok_all sa _) (ok_x sa _) (ok_law sa _) (ok_k sa _) hst (fun v c' s' h => ⟨h.2.1, h.2.2⟩) hx hb hml hown (fun w h => hts w (in_all w h)) hmn hK hT hX hbl (Nat.not_le.mpr hbl) ?_ n d 0 _ _ _ 0 0 hw (Nat.le_trans hd (by decide)) (Nat.le_trans (Nat.mul_le_mul_left _ hd) (by decide)) s.heap [] _ ⟨fun q hq => Option.some.inj hq, fun a x9 h => by cases h⟩ va_S.rf (dL_entry (Nat.le_of_ble_eq_true rfl))
  intro v cs ss pc H locs ls st i len hp h1 h2 hS
  obtain ⟨rfl, h3, h4⟩ := hp
  obtain ⟨rfl, rfl, rfl⟩ := law_end h1
  refine va_forget (fun q hq => hS.2.2 q hq) ?_
  refine W.widen h3 h4 ?_
  exact lw_ret hx hb hr hlocks h2
