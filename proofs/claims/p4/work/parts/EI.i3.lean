set_option maxHeartbeats 1600000
/-! the class: an object whose rows are all made can be finished -/
theorem zOk_r9 {κ : zS} {w ci : Nat} {l : List (Nat × Nat × Nat × Nat)} (H : rwK9 κ w l) (hc : ∀ p ∈ zRT, p.1 / 100 = ci → p ∈ l.map (fun q => (q.1, q.2.1))) (hz : ∀ f, f ∈ zZT → f / 100 = ci → nb (zI κ f w)) : zOk κ w ci := by
  refine ⟨fun f t h1 h2 => ?_, hz⟩
  obtain ⟨q, h3, h4⟩ := List.mem_map.mp (hc (f, t) (d_lk h1) h2)
  obtain ⟨r1, r2, r3, r4, r5, r6⟩ := H q h3
  have e1 : q.1 = f := congrArg Prod.fst h4
  have e2 : q.2.1 = t := congrArg Prod.snd h4
  rw [← e1, ← e2, r1]
  exact ⟨r2, fun _ => r4⟩
/-- Web's rows -/
def lWe9 (m : Nat) : List (Nat × Nat × Nat × Nat) := [(weHeap, 20, m + 13, 0), (wePath, 20, m + 12, 0), (weCursor, 20, m + 11, 0), (weLow, 20, m + 10, 0), (weSeen, 20, m + 9, 0), (weOrder, 20, m + 8, 0), (weKnotOf, 20, m + 7, 0), (weKnotFirsts, 20, m + 6, 1), (weOpen, 23, m + 5, 0), (weEdges, 20, m + 4, 64), (weSources, 20, m + 3, 64), (weBackFirsts, 20, m + 2, 1), (weTargets, 20, m + 1, 64), (weFirsts, 20, m, 1)]
def lHo9 (m : Nat) : List (Nat × Nat × Nat × Nat) := [(hoPool, 20, m + 2, 16), (hoTable, 20, m + 1, 0), (hoStarts, 20, m, 1)]
theorem lWe_z9 {m : Nat} : ∀ p ∈ zRT, p.1 / 100 = 14 → p ∈ (lWe9 m).map (fun q => (q.1, q.2.1)) := by
  show ∀ p ∈ zRT, p.1 / 100 = 14 → p ∈ [(weHeap, 20), (wePath, 20), (weCursor, 20), (weLow, 20), (weSeen, 20), (weOrder, 20), (weKnotOf, 20), (weKnotFirsts, 20), (weOpen, 23), (weEdges, 20), (weSources, 20), (weBackFirsts, 20), (weTargets, 20), (weFirsts, 20)]
  decide +kernel
theorem lHo_z9 {m : Nat} : ∀ p ∈ zRT, p.1 / 100 = 6 → p ∈ (lHo9 m).map (fun q => (q.1, q.2.1)) := by
  show ∀ p ∈ zRT, p.1 / 100 = 6 → p ∈ [(hoPool, 20), (hoTable, 20), (hoStarts, 20)]
  decide +kernel
