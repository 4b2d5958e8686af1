set_option maxHeartbeats 1600000
/-! the claim: the law's run is what the small machine was asked for -/
theorem tx_9 {sa : Nat → Nat} {b v0 v1 v2 : Nat} (g1 : sa 0 < b ∧ sa 1 < b ∧ sa 3 < b) (g2 : v0 < b ∧ v1 < b ∧ v2 < b) (g3 : sa 0 ≠ sa 1 ∧ sa 0 ≠ sa 3 ∧ sa 1 ≠ sa 3) (g4 : v0 ≠ v1 ∧ v0 ≠ v2 ∧ v1 ≠ v2) : cTx (c09 sa (TLs sa v0 v1 v2) b) := by
  obtain ⟨l0, l1, l3⟩ := g1
  obtain ⟨w0, w1, w2⟩ := g2
  obtain ⟨n01, n03, n13⟩ := g3
  obtain ⟨m01, m02, m12⟩ := g4
  have q0 : (TLs sa v0 v1 v2).find? (fun x => x.1 == sa 0) = some (sa 0, v0, bs0) := by simp [TLs, List.find?]
  have q1 : (TLs sa v0 v1 v2).find? (fun x => x.1 == sa 1) = some (sa 1, v1, bs1) := by simp [TLs, List.find?, n01]
  have z13 : (sa 1 == sa 3) = false := beq_eq_false_iff_ne.mpr n13
  have y12 : (v1 == v2) = false := beq_eq_false_iff_ne.mpr m12
  have q3 : (TLs sa v0 v1 v2).find? (fun x => x.1 == sa 3) = some (sa 3, v2, bs2) := by
    simp [TLs, List.find?, n03, n13]
    rw [z13]
  have h0 : (TLs sa v0 v1 v2).find? (fun x => x.2.1 == v0) = some (sa 0, v0, bs0) := by simp [TLs, List.find?]
  have h1 : (TLs sa v0 v1 v2).find? (fun x => x.2.1 == v1) = some (sa 1, v1, bs1) := by simp [TLs, List.find?, m01]
  have h2 : (TLs sa v0 v1 v2).find? (fun x => x.2.1 == v2) = some (sa 3, v2, bs2) := by
    simp [TLs, List.find?, m02, m12]
    rw [y12]
  intro k hk
  rcases hk with rfl | rfl | rfl
  · exact ⟨(congrArg Option.isSome q0).trans rfl, ⟨l0, _, _, q0, h0, w0, rfl, (show bs0.length ≤ 65536 by decide)⟩, rfl⟩
  · exact ⟨(congrArg Option.isSome q1).trans rfl, ⟨l1, _, _, q1, h1, w1, rfl, (show bs1.length ≤ 65536 by decide)⟩, rfl⟩
  · exact ⟨(congrArg Option.isSome q3).trans rfl, ⟨l3, _, _, q3, h2, w2, rfl, (show bs2.length ≤ 65536 by decide)⟩, rfl⟩
theorem tx5_9 {sa : Nat → Nat} {b v0 v1 v2 : Nat} (g3 : sa 0 ≠ sa 1 ∧ sa 0 ≠ sa 3 ∧ sa 1 ≠ sa 3) (g4 : v0 ≠ v1 ∧ v0 ≠ v2 ∧ v1 ≠ v2) : tx5 (c59 sa (TLs sa v0 v1 v2) b) := by
  obtain ⟨n01, n03, n13⟩ := g3
  obtain ⟨m01, m02, m12⟩ := g4
  have q0 : (TLs sa v0 v1 v2).find? (fun x => x.1 == sa 0) = some (sa 0, v0, bs0) := by simp [TLs, List.find?]
  have q1 : (TLs sa v0 v1 v2).find? (fun x => x.1 == sa 1) = some (sa 1, v1, bs1) := by simp [TLs, List.find?, n01]
  have z13 : (sa 1 == sa 3) = false := beq_eq_false_iff_ne.mpr n13
  have y12 : (v1 == v2) = false := beq_eq_false_iff_ne.mpr m12
  have q3 : (TLs sa v0 v1 v2).find? (fun x => x.1 == sa 3) = some (sa 3, v2, bs2) := by
    simp [TLs, List.find?, n03, n13]
    rw [z13]
  have h0 : (TLs sa v0 v1 v2).find? (fun x => x.2.1 == v0) = some (sa 0, v0, bs0) := by simp [TLs, List.find?]
  have h1 : (TLs sa v0 v1 v2).find? (fun x => x.2.1 == v1) = some (sa 1, v1, bs1) := by simp [TLs, List.find?, m01]
  have h2 : (TLs sa v0 v1 v2).find? (fun x => x.2.1 == v2) = some (sa 3, v2, bs2) := by
    simp [TLs, List.find?, m02, m12]
    rw [y12]
  refine ⟨?_, ?_, ?_⟩
  · show (match (TLs sa v0 v1 v2).find? (fun x => x.1 == sa 0) with | some x => (match (TLs sa v0 v1 v2).find? (fun z => z.2.1 == x.2.1) with | some y => y.2.2 | none => []) | none => []) = wt5
    rw [q0]
    show (match (TLs sa v0 v1 v2).find? (fun z => z.2.1 == v0) with | some y => y.2.2 | none => []) = wt5
    rw [h0]
    show bs0 = wt5
    decide
  · show (match (TLs sa v0 v1 v2).find? (fun x => x.1 == sa 1) with | some x => (match (TLs sa v0 v1 v2).find? (fun z => z.2.1 == x.2.1) with | some y => y.2.2 | none => []) | none => []) = sn5
    rw [q1]
    show (match (TLs sa v0 v1 v2).find? (fun z => z.2.1 == v1) with | some y => y.2.2 | none => []) = sn5
    rw [h1]
    show bs1 = sn5
    decide
  · show (match (TLs sa v0 v1 v2).find? (fun x => x.1 == sa 3) with | some x => (match (TLs sa v0 v1 v2).find? (fun z => z.2.1 == x.2.1) with | some y => y.2.2 | none => []) | none => []) = mn5
    rw [q3]
    show (match (TLs sa v0 v1 v2).find? (fun z => z.2.1 == v2) with | some y => y.2.2 | none => []) = mn5
    rw [h2]
    show bs2 = mn5
    decide
theorem law_runs9 : LawRuns := by
  intro b scr L xs sa v0 v1 v2 hL hs g1 g2 g3 g4
  obtain ⟨n, h⟩ := law_99 (sa := sa) (TL := TLs sa v0 v1 v2) (b := b) (scr := scr) (L := L) (xs := xs) (by omega) (tx_9 g1 g2 g3 g4) (tx5_9 g3 g4) hL
  have e : lawP9 = lawPost := rfl
  rw [e] at h
  exact ⟨n, 16, by decide, h⟩
theorem i_vc : Claimed_1_1 ∧ Claimed_1_2 := i_vc_open law_runs9
