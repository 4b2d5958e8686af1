set_option maxHeartbeats 1600000
/-! the class: what all rows allow, at most -/
theorem nT_o9 {C : zC} {n0 t : Nat} {F : Nat → Nat → Prop} {κ τ : zS} (W : zW C n0 κ) (Z : zF F κ τ) (ht : 3 ≤ t ∧ t < 20) (h8 : t ≠ 8) (h11 : t ≠ 11) : nT9 t τ ≤ nT9 t κ := by
  have key : ∀ b, zT τ b = t → zT κ b = t := fun b e => by
    rcases Z.2.2.2.1.2 b t ht.1 ht.2 e with q | q
    · exact q
    · exact (q.1.elim h8 h11).elim
  unfold nT9
  rw [zSum_z9 (m := zn κ) Z.2.2.2.2.2.2 (fun b h1 h2 => if_neg (fun e => by
    have l := (W.2.1 b (by rw [key b e]; omega)).2
    omega))]
  refine zSum_le9 (fun b _ => ?_)
  show (if zT τ b = t then 1 else 0) ≤ if zT κ b = t then 1 else 0
  by_cases e : zT τ b = t
  · rw [if_pos e, if_pos (key b e)]
    exact Nat.le_refl _
  · rw [if_neg e]
    exact Nat.zero_le _
/-- how many objects there are of each other class -/
def oT9 (κ : zS) : Prop := nT9 3 κ ≤ 1 ∧ nT9 4 κ ≤ 1 ∧ nT9 5 κ ≤ 2 ∧ nT9 6 κ ≤ 3 ∧ nT9 7 κ ≤ 1 ∧ nT9 9 κ ≤ 1 ∧ nT9 10 κ ≤ 1 ∧ nT9 12 κ ≤ 1 ∧ nT9 13 κ ≤ 1 ∧ nT9 14 κ ≤ 1 ∧ nT9 15 κ ≤ 1
theorem oT_z9 {C : zC} {n0 : Nat} {F : Nat → Nat → Prop} {κ τ : zS} (W : zW C n0 κ) (Z : zF F κ τ) (O : oT9 κ) : oT9 τ := by
  obtain ⟨o3, o4, o5, o6, o7, o9, o10, o12, o13, o14, o15⟩ := O
  exact ⟨Nat.le_trans (nT_o9 W Z (by decide) (by decide) (by decide)) o3, Nat.le_trans (nT_o9 W Z (by decide) (by decide) (by decide)) o4, Nat.le_trans (nT_o9 W Z (by decide) (by decide) (by decide)) o5, Nat.le_trans (nT_o9 W Z (by decide) (by decide) (by decide)) o6, Nat.le_trans (nT_o9 W Z (by decide) (by decide) (by decide)) o7, Nat.le_trans (nT_o9 W Z (by decide) (by decide) (by decide)) o9, Nat.le_trans (nT_o9 W Z (by decide) (by decide) (by decide)) o10, Nat.le_trans (nT_o9 W Z (by decide) (by decide) (by decide)) o12, Nat.le_trans (nT_o9 W Z (by decide) (by decide) (by decide)) o13, Nat.le_trans (nT_o9 W Z (by decide) (by decide) (by decide)) o14, Nat.le_trans (nT_o9 W Z (by decide) (by decide) (by decide)) o15⟩
theorem oT_st9 {k : Nat} {κ : zS} (H : lgH9 k κ 138 clF9) : oT9 κ := by
  have e : ∀ t c, t ≠ 0 → zSum 138 (fun b => if lgT9 clF9 b = t then 1 else 0) = c → nT9 t κ ≤ c := fun t c ht hc => Nat.le_of_eq ((lg_c9 ht H (by decide +kernel)).trans hc)
  exact ⟨e 3 1 (by decide) (by decide +kernel), e 4 1 (by decide) (by decide +kernel), e 5 2 (by decide) (by decide +kernel), e 6 3 (by decide) (by decide +kernel), e 7 1 (by decide) (by decide +kernel), e 9 1 (by decide) (by decide +kernel), e 10 1 (by decide) (by decide +kernel), e 12 1 (by decide) (by decide +kernel), e 13 1 (by decide) (by decide +kernel), e 14 1 (by decide) (by decide +kernel), e 15 1 (by decide) (by decide +kernel)⟩
theorem fS_09 {N : Nat} {P : Nat → Bool} {g : Nat → Nat} (h : ∀ b, P b = true → g b = 0) : fS9 N P g = 0 := by
  unfold fS9
  rw [zSum_z9 (m := 0) (Nat.zero_le _) (fun i _ _ => ?_)]
  · rfl
  · by_cases e : P i = true
    · rw [if_pos e]; exact h i e
    · exact if_neg e
theorem fS_c9 {N c : Nat} {P : Nat → Bool} {g : Nat → Nat} (h : ∀ b, P b = true → g b ≤ c) : fS9 N P g ≤ c * fS9 N P (fun _ => 1) := by
  unfold fS9
  induction N with
  | zero => exact Nat.zero_le _
  | succ n ih =>
    show zSum n _ + (if P n = true then g n else 0) ≤ c * (zSum n _ + (if P n = true then 1 else 0))
    rw [Nat.mul_add]
    by_cases e : P n = true
    · rw [if_pos e, if_pos e]
      have q := h n e
      omega
    · rw [if_neg e, if_neg e]
      omega
theorem nn_l9 {κ : zS} {x : Nat} : nn9 κ x ≤ zN κ x := by
  have q := zSum_c9 (f := fun i => if zQ κ x i = none then 0 else 1) (c := 1) (n := zN κ x) (fun i _ => by
    show (if zQ κ x i = none then 0 else 1) ≤ 1
    split <;> decide)
  unfold nn9
  omega
theorem wS_19 {f n : Nat} (h0 : f ≠ 0) (h1 : f ≠ 605) (h2 : f ≠ 800) : wS f n ≤ 3 * n := (wS_le h0 h1 h2).2
theorem wC_19 {f n : Nat} (h0 : f ≠ 0) (h1 : f ≠ 605) (h2 : f ≠ 800) : wC f n ≤ 2 * n + 8 := (wC_le h0 h1 h2).2
theorem wS_59 {n : Nat} : wS 605 n ≤ 4 * n := by
  unfold wS
  rw [if_neg (by decide), if_pos rfl]
  split <;> omega
theorem wC_59 {n : Nat} : wC 605 n ≤ 2 * n + 8 := by
  unfold wC
  rw [if_neg (by decide), if_pos rfl]
  split <;> omega
theorem w0_9 {c : Nat} (h : c ≠ 11) : wS 0 c = 0 ∧ wC 0 c = 0 := ⟨by unfold wS; rw [if_pos rfl, if_neg h], by unfold wC; rw [if_pos rfl, if_neg h]⟩
theorem arF_39 : arF 3 = [atFirsts, atTotals, atGains, atPlan, atChooses, atHopeless, atSorts, atNumbers, atWeights] := by decide +kernel
theorem arF_49 : arF 4 = [caFactors] := by decide +kernel
theorem arF_59 : arF 5 = [coVarStarts, coArrayBases, coArraySizes, coFirstStatements, coNameCounts, coOwnCounts, coRows, coOps, coArgs] := by decide +kernel
theorem arF_69 : arF 6 = [hoStarts, hoTable, hoPool] := by decide +kernel
theorem arF_79 : arF 7 = [maMemory, maStack, maWorked, maValues, maWeights] := by decide +kernel
theorem arF_99 : arF 9 = [odKey, odLefts, odRights, odBases, odRanks, odCellOf, odHeads, odLinks, odEdges] := by decide +kernel
theorem arF_109 : arF 10 = [paVarNames, paArrayNames, paFunctionNames, paOwnNames, paOwners, paLasts, paElses, paWaiting] := by decide +kernel
theorem arF_129 : arF 12 = [soVisits, soWorths, soCells, soRows, soTaken] := by decide +kernel
theorem arF_139 : arF 13 = [taBytes, taKinds, taPlaces, taLengths] := by decide +kernel
theorem arF_149 : arF 14 = [weFirsts, weTargets, weBackFirsts, weSources, weEdges, weOpen, weKnotFirsts, weKnotOf, weOrder, weSeen, weLow, weCursor, wePath, weHeap] := by decide +kernel
theorem arF_159 : arF 15 = [chTold, chRecord, chLastShared, chDrawnWeights, chDrawnTotals] := by decide +kernel
theorem po_S39 {κ : zS} {x : Nat} (T : zT κ x = 3) (h : zN κ (zR κ atFirsts x) ≤ 1001 ∧ zN κ (zR κ atTotals x) ≤ 1000 ∧ zN κ (zR κ atGains x) ≤ 1000 ∧ zN κ (zR κ atPlan x) ≤ 1000 ∧ zN κ (zR κ atChooses x) ≤ 1000 ∧ zN κ (zR κ atHopeless x) ≤ 1000 ∧ zN κ (zR κ atSorts x) ≤ 20000 ∧ zN κ (zR κ atNumbers x) ≤ 20000 ∧ zN κ (zR κ atWeights x) ≤ 20000) : po wS κ x ≤ 198003 := by
  obtain ⟨h0, h1, h2, h3, h4, h5, h6, h7, h8⟩ := h
  unfold po
  rw [T, arF_39, (w0_9 (c := 3) (by decide)).1]
  simp only [List.map_cons, List.map_nil, List.sum_cons, List.sum_nil]
  have k0 := wS_19 (f := atFirsts) (n := zN κ (zR κ atFirsts x)) (by decide) (by decide) (by decide)
  have k1 := wS_19 (f := atTotals) (n := zN κ (zR κ atTotals x)) (by decide) (by decide) (by decide)
  have k2 := wS_19 (f := atGains) (n := zN κ (zR κ atGains x)) (by decide) (by decide) (by decide)
  have k3 := wS_19 (f := atPlan) (n := zN κ (zR κ atPlan x)) (by decide) (by decide) (by decide)
  have k4 := wS_19 (f := atChooses) (n := zN κ (zR κ atChooses x)) (by decide) (by decide) (by decide)
  have k5 := wS_19 (f := atHopeless) (n := zN κ (zR κ atHopeless x)) (by decide) (by decide) (by decide)
  have k6 := wS_19 (f := atSorts) (n := zN κ (zR κ atSorts x)) (by decide) (by decide) (by decide)
  have k7 := wS_19 (f := atNumbers) (n := zN κ (zR κ atNumbers x)) (by decide) (by decide) (by decide)
  have k8 := wS_19 (f := atWeights) (n := zN κ (zR κ atWeights x)) (by decide) (by decide) (by decide)
  omega
theorem po_S49 {κ : zS} {x : Nat} (T : zT κ x = 4) (h : zN κ (zR κ caFactors x) ≤ 4) : po wS κ x ≤ 12 := by
  have h0 := h
  unfold po
  rw [T, arF_49, (w0_9 (c := 4) (by decide)).1]
  simp only [List.map_cons, List.map_nil, List.sum_cons, List.sum_nil]
  have k0 := wS_19 (f := caFactors) (n := zN κ (zR κ caFactors x)) (by decide) (by decide) (by decide)
  omega
theorem po_S59 {κ : zS} {x : Nat} (T : zT κ x = 5) (h : zN κ (zR κ coVarStarts x) ≤ 10 ∧ zN κ (zR κ coArrayBases x) ≤ 3 ∧ zN κ (zR κ coArraySizes x) ≤ 3 ∧ zN κ (zR κ coFirstStatements x) ≤ 10 ∧ zN κ (zR κ coNameCounts x) ≤ 10 ∧ zN κ (zR κ coOwnCounts x) ≤ 10 ∧ zN κ (zR κ coRows x) ≤ 3322 ∧ zN κ (zR κ coOps x) ≤ 41000 ∧ zN κ (zR κ coArgs x) ≤ 41000) : po wS κ x ≤ 256104 := by
  obtain ⟨h0, h1, h2, h3, h4, h5, h6, h7, h8⟩ := h
  unfold po
  rw [T, arF_59, (w0_9 (c := 5) (by decide)).1]
  simp only [List.map_cons, List.map_nil, List.sum_cons, List.sum_nil]
  have k0 := wS_19 (f := coVarStarts) (n := zN κ (zR κ coVarStarts x)) (by decide) (by decide) (by decide)
  have k1 := wS_19 (f := coArrayBases) (n := zN κ (zR κ coArrayBases x)) (by decide) (by decide) (by decide)
  have k2 := wS_19 (f := coArraySizes) (n := zN κ (zR κ coArraySizes x)) (by decide) (by decide) (by decide)
  have k3 := wS_19 (f := coFirstStatements) (n := zN κ (zR κ coFirstStatements x)) (by decide) (by decide) (by decide)
  have k4 := wS_19 (f := coNameCounts) (n := zN κ (zR κ coNameCounts x)) (by decide) (by decide) (by decide)
  have k5 := wS_19 (f := coOwnCounts) (n := zN κ (zR κ coOwnCounts x)) (by decide) (by decide) (by decide)
  have k6 := wS_19 (f := coRows) (n := zN κ (zR κ coRows x)) (by decide) (by decide) (by decide)
  have k7 := wS_19 (f := coOps) (n := zN κ (zR κ coOps x)) (by decide) (by decide) (by decide)
  have k8 := wS_19 (f := coArgs) (n := zN κ (zR κ coArgs x)) (by decide) (by decide) (by decide)
  omega
theorem po_S79 {κ : zS} {x : Nat} (T : zT κ x = 7) (h : zN κ (zR κ maMemory x) ≤ 142 ∧ zN κ (zR κ maStack x) ≤ 256 ∧ zN κ (zR κ maWorked x) ≤ 16 ∧ zN κ (zR κ maValues x) ≤ 64 ∧ zN κ (zR κ maWeights x) ≤ 64) : po wS κ x ≤ 1626 := by
  obtain ⟨h0, h1, h2, h3, h4⟩ := h
  unfold po
  rw [T, arF_79, (w0_9 (c := 7) (by decide)).1]
  simp only [List.map_cons, List.map_nil, List.sum_cons, List.sum_nil]
  have k0 := wS_19 (f := maMemory) (n := zN κ (zR κ maMemory x)) (by decide) (by decide) (by decide)
  have k1 := wS_19 (f := maStack) (n := zN κ (zR κ maStack x)) (by decide) (by decide) (by decide)
  have k2 := wS_19 (f := maWorked) (n := zN κ (zR κ maWorked x)) (by decide) (by decide) (by decide)
  have k3 := wS_19 (f := maValues) (n := zN κ (zR κ maValues x)) (by decide) (by decide) (by decide)
  have k4 := wS_19 (f := maWeights) (n := zN κ (zR κ maWeights x)) (by decide) (by decide) (by decide)
  omega
theorem po_S99 {κ : zS} {x : Nat} (T : zT κ x = 9) (h : zN κ (zR κ odKey x) ≤ 3 ∧ zN κ (zR κ odLefts x) ≤ 3000 ∧ zN κ (zR κ odRights x) ≤ 3000 ∧ zN κ (zR κ odBases x) ≤ 3000 ∧ zN κ (zR κ odRanks x) ≤ 3000 ∧ zN κ (zR κ odCellOf x) ≤ 1000 ∧ zN κ (zR κ odHeads x) ≤ 1000 ∧ zN κ (zR κ odLinks x) ≤ 20000 ∧ zN κ (zR κ odEdges x) ≤ 31) : po wS κ x ≤ 102102 := by
  obtain ⟨h0, h1, h2, h3, h4, h5, h6, h7, h8⟩ := h
  unfold po
  rw [T, arF_99, (w0_9 (c := 9) (by decide)).1]
  simp only [List.map_cons, List.map_nil, List.sum_cons, List.sum_nil]
  have k0 := wS_19 (f := odKey) (n := zN κ (zR κ odKey x)) (by decide) (by decide) (by decide)
  have k1 := wS_19 (f := odLefts) (n := zN κ (zR κ odLefts x)) (by decide) (by decide) (by decide)
  have k2 := wS_19 (f := odRights) (n := zN κ (zR κ odRights x)) (by decide) (by decide) (by decide)
  have k3 := wS_19 (f := odBases) (n := zN κ (zR κ odBases x)) (by decide) (by decide) (by decide)
  have k4 := wS_19 (f := odRanks) (n := zN κ (zR κ odRanks x)) (by decide) (by decide) (by decide)
  have k5 := wS_19 (f := odCellOf) (n := zN κ (zR κ odCellOf x)) (by decide) (by decide) (by decide)
  have k6 := wS_19 (f := odHeads) (n := zN κ (zR κ odHeads x)) (by decide) (by decide) (by decide)
  have k7 := wS_19 (f := odLinks) (n := zN κ (zR κ odLinks x)) (by decide) (by decide) (by decide)
  have k8 := wS_19 (f := odEdges) (n := zN κ (zR κ odEdges x)) (by decide) (by decide) (by decide)
  omega
theorem po_S109 {κ : zS} {x : Nat} (T : zT κ x = 10) (h : zN κ (zR κ paVarNames x) ≤ 10 ∧ zN κ (zR κ paArrayNames x) ≤ 3 ∧ zN κ (zR κ paFunctionNames x) ≤ 10 ∧ zN κ (zR κ paOwnNames x) ≤ 8 ∧ zN κ (zR κ paOwners x) ≤ 41 ∧ zN κ (zR κ paLasts x) ≤ 41 ∧ zN κ (zR κ paElses x) ≤ 41 ∧ zN κ (zR κ paWaiting x) ≤ 41000) : po wS κ x ≤ 123462 := by
  obtain ⟨h0, h1, h2, h3, h4, h5, h6, h7⟩ := h
  unfold po
  rw [T, arF_109, (w0_9 (c := 10) (by decide)).1]
  simp only [List.map_cons, List.map_nil, List.sum_cons, List.sum_nil]
  have k0 := wS_19 (f := paVarNames) (n := zN κ (zR κ paVarNames x)) (by decide) (by decide) (by decide)
  have k1 := wS_19 (f := paArrayNames) (n := zN κ (zR κ paArrayNames x)) (by decide) (by decide) (by decide)
  have k2 := wS_19 (f := paFunctionNames) (n := zN κ (zR κ paFunctionNames x)) (by decide) (by decide) (by decide)
  have k3 := wS_19 (f := paOwnNames) (n := zN κ (zR κ paOwnNames x)) (by decide) (by decide) (by decide)
  have k4 := wS_19 (f := paOwners) (n := zN κ (zR κ paOwners x)) (by decide) (by decide) (by decide)
  have k5 := wS_19 (f := paLasts) (n := zN κ (zR κ paLasts x)) (by decide) (by decide) (by decide)
  have k6 := wS_19 (f := paElses) (n := zN κ (zR κ paElses x)) (by decide) (by decide) (by decide)
  have k7 := wS_19 (f := paWaiting) (n := zN κ (zR κ paWaiting x)) (by decide) (by decide) (by decide)
  omega
theorem po_S129 {κ : zS} {x : Nat} (T : zT κ x = 12) (h : zN κ (zR κ soVisits x) ≤ 1000 ∧ zN κ (zR κ soWorths x) ≤ 1000 ∧ zN κ (zR κ soCells x) ≤ 1056 ∧ zN κ (zR κ soRows x) ≤ 1000 ∧ zN κ (zR κ soTaken x) ≤ 1000) : po wS κ x ≤ 15168 := by
  obtain ⟨h0, h1, h2, h3, h4⟩ := h
  unfold po
  rw [T, arF_129, (w0_9 (c := 12) (by decide)).1]
  simp only [List.map_cons, List.map_nil, List.sum_cons, List.sum_nil]
  have k0 := wS_19 (f := soVisits) (n := zN κ (zR κ soVisits x)) (by decide) (by decide) (by decide)
  have k1 := wS_19 (f := soWorths) (n := zN κ (zR κ soWorths x)) (by decide) (by decide) (by decide)
  have k2 := wS_19 (f := soCells) (n := zN κ (zR κ soCells x)) (by decide) (by decide) (by decide)
  have k3 := wS_19 (f := soRows) (n := zN κ (zR κ soRows x)) (by decide) (by decide) (by decide)
  have k4 := wS_19 (f := soTaken) (n := zN κ (zR κ soTaken x)) (by decide) (by decide) (by decide)
  omega
theorem po_S139 {κ : zS} {x : Nat} (T : zT κ x = 13) (h : zN κ (zR κ taBytes x) ≤ 20480 ∧ zN κ (zR κ taKinds x) ≤ 20490 ∧ zN κ (zR κ taPlaces x) ≤ 20490 ∧ zN κ (zR κ taLengths x) ≤ 20490) : po wS κ x ≤ 245850 := by
  obtain ⟨h0, h1, h2, h3⟩ := h
  unfold po
  rw [T, arF_139, (w0_9 (c := 13) (by decide)).1]
  simp only [List.map_cons, List.map_nil, List.sum_cons, List.sum_nil]
  have k0 := wS_19 (f := taBytes) (n := zN κ (zR κ taBytes x)) (by decide) (by decide) (by decide)
  have k1 := wS_19 (f := taKinds) (n := zN κ (zR κ taKinds x)) (by decide) (by decide) (by decide)
  have k2 := wS_19 (f := taPlaces) (n := zN κ (zR κ taPlaces x)) (by decide) (by decide) (by decide)
  have k3 := wS_19 (f := taLengths) (n := zN κ (zR κ taLengths x)) (by decide) (by decide) (by decide)
  omega
theorem po_S149 {κ : zS} {x : Nat} (T : zT κ x = 14) (h : zN κ (zR κ weFirsts x) ≤ 1001 ∧ zN κ (zR κ weTargets x) ≤ 20000 ∧ zN κ (zR κ weBackFirsts x) ≤ 1001 ∧ zN κ (zR κ weSources x) ≤ 20000 ∧ zN κ (zR κ weEdges x) ≤ 20000 ∧ zN κ (zR κ weOpen x) ≤ 1000 ∧ zN κ (zR κ weKnotFirsts x) ≤ 1001 ∧ zN κ (zR κ weKnotOf x) ≤ 1000 ∧ zN κ (zR κ weOrder x) ≤ 1000 ∧ zN κ (zR κ weSeen x) ≤ 1000 ∧ zN κ (zR κ weLow x) ≤ 1000 ∧ zN κ (zR κ weCursor x) ≤ 1000 ∧ zN κ (zR κ wePath x) ≤ 1000 ∧ zN κ (zR κ weHeap x) ≤ 1000) : po wS κ x ≤ 213009 := by
  obtain ⟨h0, h1, h2, h3, h4, h5, h6, h7, h8, h9, h10, h11, h12, h13⟩ := h
  unfold po
  rw [T, arF_149, (w0_9 (c := 14) (by decide)).1]
  simp only [List.map_cons, List.map_nil, List.sum_cons, List.sum_nil]
  have k0 := wS_19 (f := weFirsts) (n := zN κ (zR κ weFirsts x)) (by decide) (by decide) (by decide)
  have k1 := wS_19 (f := weTargets) (n := zN κ (zR κ weTargets x)) (by decide) (by decide) (by decide)
  have k2 := wS_19 (f := weBackFirsts) (n := zN κ (zR κ weBackFirsts x)) (by decide) (by decide) (by decide)
  have k3 := wS_19 (f := weSources) (n := zN κ (zR κ weSources x)) (by decide) (by decide) (by decide)
  have k4 := wS_19 (f := weEdges) (n := zN κ (zR κ weEdges x)) (by decide) (by decide) (by decide)
  have k5 := wS_19 (f := weOpen) (n := zN κ (zR κ weOpen x)) (by decide) (by decide) (by decide)
  have k6 := wS_19 (f := weKnotFirsts) (n := zN κ (zR κ weKnotFirsts x)) (by decide) (by decide) (by decide)
  have k7 := wS_19 (f := weKnotOf) (n := zN κ (zR κ weKnotOf x)) (by decide) (by decide) (by decide)
  have k8 := wS_19 (f := weOrder) (n := zN κ (zR κ weOrder x)) (by decide) (by decide) (by decide)
  have k9 := wS_19 (f := weSeen) (n := zN κ (zR κ weSeen x)) (by decide) (by decide) (by decide)
  have k10 := wS_19 (f := weLow) (n := zN κ (zR κ weLow x)) (by decide) (by decide) (by decide)
  have k11 := wS_19 (f := weCursor) (n := zN κ (zR κ weCursor x)) (by decide) (by decide) (by decide)
  have k12 := wS_19 (f := wePath) (n := zN κ (zR κ wePath x)) (by decide) (by decide) (by decide)
  have k13 := wS_19 (f := weHeap) (n := zN κ (zR κ weHeap x)) (by decide) (by decide) (by decide)
  omega
theorem po_S159 {κ : zS} {x : Nat} (T : zT κ x = 15) (h : zN κ (zR κ chTold x) ≤ 200 ∧ zN κ (zR κ chRecord x) ≤ 5 ∧ zN κ (zR κ chLastShared x) ≤ 34 ∧ zN κ (zR κ chDrawnWeights x) ≤ 4000 ∧ zN κ (zR κ chDrawnTotals x) ≤ 4000) : po wS κ x ≤ 24717 := by
  obtain ⟨h0, h1, h2, h3, h4⟩ := h
  unfold po
  rw [T, arF_159, (w0_9 (c := 15) (by decide)).1]
  simp only [List.map_cons, List.map_nil, List.sum_cons, List.sum_nil]
  have k0 := wS_19 (f := chTold) (n := zN κ (zR κ chTold x)) (by decide) (by decide) (by decide)
  have k1 := wS_19 (f := chRecord) (n := zN κ (zR κ chRecord x)) (by decide) (by decide) (by decide)
  have k2 := wS_19 (f := chLastShared) (n := zN κ (zR κ chLastShared x)) (by decide) (by decide) (by decide)
  have k3 := wS_19 (f := chDrawnWeights) (n := zN κ (zR κ chDrawnWeights x)) (by decide) (by decide) (by decide)
  have k4 := wS_19 (f := chDrawnTotals) (n := zN κ (zR κ chDrawnTotals x)) (by decide) (by decide) (by decide)
  omega
theorem po_S69 {κ : zS} {x M D S : Nat} (T : zT κ x = 6) (h : hoI κ x M D S) : po wS κ x ≤ 3 * (M + 1) + 3 * S + 4 * (M * D) + 0 := by
  obtain ⟨_, _, ⟨_, h2⟩, h3⟩ := h
  unfold po
  rw [T, arF_69, (w0_9 (c := 6) (by decide)).1]
  simp only [List.map_cons, List.map_nil, List.sum_cons, List.sum_nil]
  have k0 := wS_19 (f := hoStarts) (n := zN κ (zR κ hoStarts x)) (by decide) (by decide) (by decide)
  have k1 := wS_19 (f := hoTable) (n := zN κ (zR κ hoTable x)) (by decide) (by decide) (by decide)
  have k2 : wS hoPool (zN κ (zR κ hoPool x)) ≤ 4 * zN κ (zR κ hoPool x) := wS_59
  have e : zN κ (zR κ hoTable x) ≤ S ∧ zN κ (zR κ hoStarts x) ≤ M + 1 := by
    rcases h3 with y | y
    · exact ⟨by omega, by omega⟩
    · exact ⟨Nat.le_of_eq y.1, Nat.le_of_eq y.2.1⟩
  omega
theorem po_C39 {κ : zS} {x : Nat} (T : zT κ x = 3) (h : zN κ (zR κ atFirsts x) ≤ 1001 ∧ zN κ (zR κ atTotals x) ≤ 1000 ∧ zN κ (zR κ atGains x) ≤ 1000 ∧ zN κ (zR κ atPlan x) ≤ 1000 ∧ zN κ (zR κ atChooses x) ≤ 1000 ∧ zN κ (zR κ atHopeless x) ≤ 1000 ∧ zN κ (zR κ atSorts x) ≤ 20000 ∧ zN κ (zR κ atNumbers x) ≤ 20000 ∧ zN κ (zR κ atWeights x) ≤ 20000) : po wC κ x ≤ 132074 := by
  obtain ⟨h0, h1, h2, h3, h4, h5, h6, h7, h8⟩ := h
  unfold po
  rw [T, arF_39, (w0_9 (c := 3) (by decide)).2]
  simp only [List.map_cons, List.map_nil, List.sum_cons, List.sum_nil]
  have k0 := wC_19 (f := atFirsts) (n := zN κ (zR κ atFirsts x)) (by decide) (by decide) (by decide)
  have k1 := wC_19 (f := atTotals) (n := zN κ (zR κ atTotals x)) (by decide) (by decide) (by decide)
  have k2 := wC_19 (f := atGains) (n := zN κ (zR κ atGains x)) (by decide) (by decide) (by decide)
  have k3 := wC_19 (f := atPlan) (n := zN κ (zR κ atPlan x)) (by decide) (by decide) (by decide)
  have k4 := wC_19 (f := atChooses) (n := zN κ (zR κ atChooses x)) (by decide) (by decide) (by decide)
  have k5 := wC_19 (f := atHopeless) (n := zN κ (zR κ atHopeless x)) (by decide) (by decide) (by decide)
  have k6 := wC_19 (f := atSorts) (n := zN κ (zR κ atSorts x)) (by decide) (by decide) (by decide)
  have k7 := wC_19 (f := atNumbers) (n := zN κ (zR κ atNumbers x)) (by decide) (by decide) (by decide)
  have k8 := wC_19 (f := atWeights) (n := zN κ (zR κ atWeights x)) (by decide) (by decide) (by decide)
  omega
theorem po_C49 {κ : zS} {x : Nat} (T : zT κ x = 4) (h : zN κ (zR κ caFactors x) ≤ 4) : po wC κ x ≤ 16 := by
  have h0 := h
  unfold po
  rw [T, arF_49, (w0_9 (c := 4) (by decide)).2]
  simp only [List.map_cons, List.map_nil, List.sum_cons, List.sum_nil]
  have k0 := wC_19 (f := caFactors) (n := zN κ (zR κ caFactors x)) (by decide) (by decide) (by decide)
  omega
theorem po_C59 {κ : zS} {x : Nat} (T : zT κ x = 5) (h : zN κ (zR κ coVarStarts x) ≤ 10 ∧ zN κ (zR κ coArrayBases x) ≤ 3 ∧ zN κ (zR κ coArraySizes x) ≤ 3 ∧ zN κ (zR κ coFirstStatements x) ≤ 10 ∧ zN κ (zR κ coNameCounts x) ≤ 10 ∧ zN κ (zR κ coOwnCounts x) ≤ 10 ∧ zN κ (zR κ coRows x) ≤ 3322 ∧ zN κ (zR κ coOps x) ≤ 41000 ∧ zN κ (zR κ coArgs x) ≤ 41000) : po wC κ x ≤ 170808 := by
  obtain ⟨h0, h1, h2, h3, h4, h5, h6, h7, h8⟩ := h
  unfold po
  rw [T, arF_59, (w0_9 (c := 5) (by decide)).2]
  simp only [List.map_cons, List.map_nil, List.sum_cons, List.sum_nil]
  have k0 := wC_19 (f := coVarStarts) (n := zN κ (zR κ coVarStarts x)) (by decide) (by decide) (by decide)
  have k1 := wC_19 (f := coArrayBases) (n := zN κ (zR κ coArrayBases x)) (by decide) (by decide) (by decide)
  have k2 := wC_19 (f := coArraySizes) (n := zN κ (zR κ coArraySizes x)) (by decide) (by decide) (by decide)
  have k3 := wC_19 (f := coFirstStatements) (n := zN κ (zR κ coFirstStatements x)) (by decide) (by decide) (by decide)
  have k4 := wC_19 (f := coNameCounts) (n := zN κ (zR κ coNameCounts x)) (by decide) (by decide) (by decide)
  have k5 := wC_19 (f := coOwnCounts) (n := zN κ (zR κ coOwnCounts x)) (by decide) (by decide) (by decide)
  have k6 := wC_19 (f := coRows) (n := zN κ (zR κ coRows x)) (by decide) (by decide) (by decide)
  have k7 := wC_19 (f := coOps) (n := zN κ (zR κ coOps x)) (by decide) (by decide) (by decide)
  have k8 := wC_19 (f := coArgs) (n := zN κ (zR κ coArgs x)) (by decide) (by decide) (by decide)
  omega
theorem po_C79 {κ : zS} {x : Nat} (T : zT κ x = 7) (h : zN κ (zR κ maMemory x) ≤ 142 ∧ zN κ (zR κ maStack x) ≤ 256 ∧ zN κ (zR κ maWorked x) ≤ 16 ∧ zN κ (zR κ maValues x) ≤ 64 ∧ zN κ (zR κ maWeights x) ≤ 64) : po wC κ x ≤ 1124 := by
  obtain ⟨h0, h1, h2, h3, h4⟩ := h
  unfold po
  rw [T, arF_79, (w0_9 (c := 7) (by decide)).2]
  simp only [List.map_cons, List.map_nil, List.sum_cons, List.sum_nil]
  have k0 := wC_19 (f := maMemory) (n := zN κ (zR κ maMemory x)) (by decide) (by decide) (by decide)
  have k1 := wC_19 (f := maStack) (n := zN κ (zR κ maStack x)) (by decide) (by decide) (by decide)
  have k2 := wC_19 (f := maWorked) (n := zN κ (zR κ maWorked x)) (by decide) (by decide) (by decide)
  have k3 := wC_19 (f := maValues) (n := zN κ (zR κ maValues x)) (by decide) (by decide) (by decide)
  have k4 := wC_19 (f := maWeights) (n := zN κ (zR κ maWeights x)) (by decide) (by decide) (by decide)
  omega
theorem po_C99 {κ : zS} {x : Nat} (T : zT κ x = 9) (h : zN κ (zR κ odKey x) ≤ 3 ∧ zN κ (zR κ odLefts x) ≤ 3000 ∧ zN κ (zR κ odRights x) ≤ 3000 ∧ zN κ (zR κ odBases x) ≤ 3000 ∧ zN κ (zR κ odRanks x) ≤ 3000 ∧ zN κ (zR κ odCellOf x) ≤ 1000 ∧ zN κ (zR κ odHeads x) ≤ 1000 ∧ zN κ (zR κ odLinks x) ≤ 20000 ∧ zN κ (zR κ odEdges x) ≤ 31) : po wC κ x ≤ 68140 := by
  obtain ⟨h0, h1, h2, h3, h4, h5, h6, h7, h8⟩ := h
  unfold po
  rw [T, arF_99, (w0_9 (c := 9) (by decide)).2]
  simp only [List.map_cons, List.map_nil, List.sum_cons, List.sum_nil]
  have k0 := wC_19 (f := odKey) (n := zN κ (zR κ odKey x)) (by decide) (by decide) (by decide)
  have k1 := wC_19 (f := odLefts) (n := zN κ (zR κ odLefts x)) (by decide) (by decide) (by decide)
  have k2 := wC_19 (f := odRights) (n := zN κ (zR κ odRights x)) (by decide) (by decide) (by decide)
  have k3 := wC_19 (f := odBases) (n := zN κ (zR κ odBases x)) (by decide) (by decide) (by decide)
  have k4 := wC_19 (f := odRanks) (n := zN κ (zR κ odRanks x)) (by decide) (by decide) (by decide)
  have k5 := wC_19 (f := odCellOf) (n := zN κ (zR κ odCellOf x)) (by decide) (by decide) (by decide)
  have k6 := wC_19 (f := odHeads) (n := zN κ (zR κ odHeads x)) (by decide) (by decide) (by decide)
  have k7 := wC_19 (f := odLinks) (n := zN κ (zR κ odLinks x)) (by decide) (by decide) (by decide)
  have k8 := wC_19 (f := odEdges) (n := zN κ (zR κ odEdges x)) (by decide) (by decide) (by decide)
  omega
theorem po_C109 {κ : zS} {x : Nat} (T : zT κ x = 10) (h : zN κ (zR κ paVarNames x) ≤ 10 ∧ zN κ (zR κ paArrayNames x) ≤ 3 ∧ zN κ (zR κ paFunctionNames x) ≤ 10 ∧ zN κ (zR κ paOwnNames x) ≤ 8 ∧ zN κ (zR κ paOwners x) ≤ 41 ∧ zN κ (zR κ paLasts x) ≤ 41 ∧ zN κ (zR κ paElses x) ≤ 41 ∧ zN κ (zR κ paWaiting x) ≤ 41000) : po wC κ x ≤ 82372 := by
  obtain ⟨h0, h1, h2, h3, h4, h5, h6, h7⟩ := h
  unfold po
  rw [T, arF_109, (w0_9 (c := 10) (by decide)).2]
  simp only [List.map_cons, List.map_nil, List.sum_cons, List.sum_nil]
  have k0 := wC_19 (f := paVarNames) (n := zN κ (zR κ paVarNames x)) (by decide) (by decide) (by decide)
  have k1 := wC_19 (f := paArrayNames) (n := zN κ (zR κ paArrayNames x)) (by decide) (by decide) (by decide)
  have k2 := wC_19 (f := paFunctionNames) (n := zN κ (zR κ paFunctionNames x)) (by decide) (by decide) (by decide)
  have k3 := wC_19 (f := paOwnNames) (n := zN κ (zR κ paOwnNames x)) (by decide) (by decide) (by decide)
  have k4 := wC_19 (f := paOwners) (n := zN κ (zR κ paOwners x)) (by decide) (by decide) (by decide)
  have k5 := wC_19 (f := paLasts) (n := zN κ (zR κ paLasts x)) (by decide) (by decide) (by decide)
  have k6 := wC_19 (f := paElses) (n := zN κ (zR κ paElses x)) (by decide) (by decide) (by decide)
  have k7 := wC_19 (f := paWaiting) (n := zN κ (zR κ paWaiting x)) (by decide) (by decide) (by decide)
  omega
theorem po_C129 {κ : zS} {x : Nat} (T : zT κ x = 12) (h : zN κ (zR κ soVisits x) ≤ 1000 ∧ zN κ (zR κ soWorths x) ≤ 1000 ∧ zN κ (zR κ soCells x) ≤ 1056 ∧ zN κ (zR κ soRows x) ≤ 1000 ∧ zN κ (zR κ soTaken x) ≤ 1000) : po wC κ x ≤ 10152 := by
  obtain ⟨h0, h1, h2, h3, h4⟩ := h
  unfold po
  rw [T, arF_129, (w0_9 (c := 12) (by decide)).2]
  simp only [List.map_cons, List.map_nil, List.sum_cons, List.sum_nil]
  have k0 := wC_19 (f := soVisits) (n := zN κ (zR κ soVisits x)) (by decide) (by decide) (by decide)
  have k1 := wC_19 (f := soWorths) (n := zN κ (zR κ soWorths x)) (by decide) (by decide) (by decide)
  have k2 := wC_19 (f := soCells) (n := zN κ (zR κ soCells x)) (by decide) (by decide) (by decide)
  have k3 := wC_19 (f := soRows) (n := zN κ (zR κ soRows x)) (by decide) (by decide) (by decide)
  have k4 := wC_19 (f := soTaken) (n := zN κ (zR κ soTaken x)) (by decide) (by decide) (by decide)
  omega
theorem po_C139 {κ : zS} {x : Nat} (T : zT κ x = 13) (h : zN κ (zR κ taBytes x) ≤ 20480 ∧ zN κ (zR κ taKinds x) ≤ 20490 ∧ zN κ (zR κ taPlaces x) ≤ 20490 ∧ zN κ (zR κ taLengths x) ≤ 20490) : po wC κ x ≤ 163932 := by
  obtain ⟨h0, h1, h2, h3⟩ := h
  unfold po
  rw [T, arF_139, (w0_9 (c := 13) (by decide)).2]
  simp only [List.map_cons, List.map_nil, List.sum_cons, List.sum_nil]
  have k0 := wC_19 (f := taBytes) (n := zN κ (zR κ taBytes x)) (by decide) (by decide) (by decide)
  have k1 := wC_19 (f := taKinds) (n := zN κ (zR κ taKinds x)) (by decide) (by decide) (by decide)
  have k2 := wC_19 (f := taPlaces) (n := zN κ (zR κ taPlaces x)) (by decide) (by decide) (by decide)
  have k3 := wC_19 (f := taLengths) (n := zN κ (zR κ taLengths x)) (by decide) (by decide) (by decide)
  omega
theorem po_C149 {κ : zS} {x : Nat} (T : zT κ x = 14) (h : zN κ (zR κ weFirsts x) ≤ 1001 ∧ zN κ (zR κ weTargets x) ≤ 20000 ∧ zN κ (zR κ weBackFirsts x) ≤ 1001 ∧ zN κ (zR κ weSources x) ≤ 20000 ∧ zN κ (zR κ weEdges x) ≤ 20000 ∧ zN κ (zR κ weOpen x) ≤ 1000 ∧ zN κ (zR κ weKnotFirsts x) ≤ 1001 ∧ zN κ (zR κ weKnotOf x) ≤ 1000 ∧ zN κ (zR κ weOrder x) ≤ 1000 ∧ zN κ (zR κ weSeen x) ≤ 1000 ∧ zN κ (zR κ weLow x) ≤ 1000 ∧ zN κ (zR κ weCursor x) ≤ 1000 ∧ zN κ (zR κ wePath x) ≤ 1000 ∧ zN κ (zR κ weHeap x) ≤ 1000) : po wC κ x ≤ 142118 := by
  obtain ⟨h0, h1, h2, h3, h4, h5, h6, h7, h8, h9, h10, h11, h12, h13⟩ := h
  unfold po
  rw [T, arF_149, (w0_9 (c := 14) (by decide)).2]
  simp only [List.map_cons, List.map_nil, List.sum_cons, List.sum_nil]
  have k0 := wC_19 (f := weFirsts) (n := zN κ (zR κ weFirsts x)) (by decide) (by decide) (by decide)
  have k1 := wC_19 (f := weTargets) (n := zN κ (zR κ weTargets x)) (by decide) (by decide) (by decide)
  have k2 := wC_19 (f := weBackFirsts) (n := zN κ (zR κ weBackFirsts x)) (by decide) (by decide) (by decide)
  have k3 := wC_19 (f := weSources) (n := zN κ (zR κ weSources x)) (by decide) (by decide) (by decide)
  have k4 := wC_19 (f := weEdges) (n := zN κ (zR κ weEdges x)) (by decide) (by decide) (by decide)
  have k5 := wC_19 (f := weOpen) (n := zN κ (zR κ weOpen x)) (by decide) (by decide) (by decide)
  have k6 := wC_19 (f := weKnotFirsts) (n := zN κ (zR κ weKnotFirsts x)) (by decide) (by decide) (by decide)
  have k7 := wC_19 (f := weKnotOf) (n := zN κ (zR κ weKnotOf x)) (by decide) (by decide) (by decide)
  have k8 := wC_19 (f := weOrder) (n := zN κ (zR κ weOrder x)) (by decide) (by decide) (by decide)
  have k9 := wC_19 (f := weSeen) (n := zN κ (zR κ weSeen x)) (by decide) (by decide) (by decide)
  have k10 := wC_19 (f := weLow) (n := zN κ (zR κ weLow x)) (by decide) (by decide) (by decide)
  have k11 := wC_19 (f := weCursor) (n := zN κ (zR κ weCursor x)) (by decide) (by decide) (by decide)
  have k12 := wC_19 (f := wePath) (n := zN κ (zR κ wePath x)) (by decide) (by decide) (by decide)
  have k13 := wC_19 (f := weHeap) (n := zN κ (zR κ weHeap x)) (by decide) (by decide) (by decide)
  omega
theorem po_C159 {κ : zS} {x : Nat} (T : zT κ x = 15) (h : zN κ (zR κ chTold x) ≤ 200 ∧ zN κ (zR κ chRecord x) ≤ 5 ∧ zN κ (zR κ chLastShared x) ≤ 34 ∧ zN κ (zR κ chDrawnWeights x) ≤ 4000 ∧ zN κ (zR κ chDrawnTotals x) ≤ 4000) : po wC κ x ≤ 16518 := by
  obtain ⟨h0, h1, h2, h3, h4⟩ := h
  unfold po
  rw [T, arF_159, (w0_9 (c := 15) (by decide)).2]
  simp only [List.map_cons, List.map_nil, List.sum_cons, List.sum_nil]
  have k0 := wC_19 (f := chTold) (n := zN κ (zR κ chTold x)) (by decide) (by decide) (by decide)
  have k1 := wC_19 (f := chRecord) (n := zN κ (zR κ chRecord x)) (by decide) (by decide) (by decide)
  have k2 := wC_19 (f := chLastShared) (n := zN κ (zR κ chLastShared x)) (by decide) (by decide) (by decide)
  have k3 := wC_19 (f := chDrawnWeights) (n := zN κ (zR κ chDrawnWeights x)) (by decide) (by decide) (by decide)
  have k4 := wC_19 (f := chDrawnTotals) (n := zN κ (zR κ chDrawnTotals x)) (by decide) (by decide) (by decide)
  omega
theorem po_C69 {κ : zS} {x M D S : Nat} (T : zT κ x = 6) (h : hoI κ x M D S) : po wC κ x ≤ 2 * (M + 1) + 2 * S + 2 * (M * D) + 24 := by
  obtain ⟨_, _, ⟨_, h2⟩, h3⟩ := h
  unfold po
  rw [T, arF_69, (w0_9 (c := 6) (by decide)).2]
  simp only [List.map_cons, List.map_nil, List.sum_cons, List.sum_nil]
  have k0 := wC_19 (f := hoStarts) (n := zN κ (zR κ hoStarts x)) (by decide) (by decide) (by decide)
  have k1 := wC_19 (f := hoTable) (n := zN κ (zR κ hoTable x)) (by decide) (by decide) (by decide)
  have k2 : wC hoPool (zN κ (zR κ hoPool x)) ≤ 2 * zN κ (zR κ hoPool x) + 8 := wC_59
  have e : zN κ (zR κ hoTable x) ≤ S ∧ zN κ (zR κ hoStarts x) ≤ M + 1 := by
    rcases h3 with y | y
    · exact ⟨by omega, by omega⟩
    · exact ⟨Nat.le_of_eq y.1, Nat.le_of_eq y.2.1⟩
  omega
theorem pot_S9 {C : zC} {n0 a : Nat} {L : Int} {ρ : Nat → Nat} {κ : zS} (W : zW C n0 κ) (T : zT κ a = 15) (I : chI9 ρ κ a L) (O : oT9 κ) : pot wS κ ≤ 3509624 := by
  have lt : ∀ x, zT κ x ≠ 0 → x < zn κ := fun x h => (W.2.1 x h).2
  have tS := ty_chSolver W T
  have tO := ty_chOdds W T
  have tA := ty_chAtlas W T
  have tc := ty_soCalc W tS
  have nu := nu_sum9 (g := po wS κ) (G := fun n => 3 * n + 2) (Bc := 412992) W T I (Nat.le_of_eq (by decide +kernel)) (fun b hb hr => by
    have q := (I.2.2.1.1.1.1.1 b hr).2.1.2
    have e : po wS κ b = wS nuLimbs (zN κ (zR κ nuLimbs b)) + 0 + 0 := by
      unfold po
      rw [hb, arF_8, (w0_9 (c := 8) (by decide)).1]
      rfl
    have z : wS nuLimbs (zN κ (zR κ nuLimbs b)) = 3 * zN κ (zR κ nuLimbs b) + 2 := rfl
    rw [e, z]
    show 3 * zN κ (zR κ nuLimbs b) + 2 + 0 + 0 ≤ _
    omega)
  obtain ⟨⟨⟨a1, _⟩, ⟨⟨a2, a3⟩, a4⟩, ⟨a5, a6⟩, _⟩, ⟨⟨⟨b1, b2, b3, b4⟩, b5, ⟨b6, b7⟩, _, _⟩, c1, _⟩, ⟨⟨⟨_, _, ⟨_, cf⟩, _, _⟩, _, Lc, ⟨_, v2⟩, ⟨_, w2⟩, rr, _⟩, tk, _, _⟩, _, ⟨_, _, ⟨d3, d3b⟩, ⟨d4, d5⟩, _, d7⟩, ⟨⟨e1, _, _⟩, ⟨e2, e3⟩, e4⟩, _, kk⟩ := I
  obtain ⟨o3, o4, o5, o6, o7, o9, o10, o12, o13, o14, o15⟩ := O
  have one : ∀ t x, t ≠ 0 → zT κ x = t → nT9 t κ ≤ 1 → fS9 (zn κ) (fun b => decide (zT κ b = t)) (po wS κ) = po wS κ x := fun t x h0 h1 h2 => by
    have q := ty_f9 (x := fun _ => x) (g := po wS κ) h0 h2 lt (fun i _ => h1) (fun i j h3 h4 => by omega)
    rw [q]
    exact Nat.zero_add _
  have z3 : zN κ (zR κ atFirsts (zR κ chAtlas a)) ≤ 1001 ∧ zN κ (zR κ atTotals (zR κ chAtlas a)) ≤ 1000 ∧ zN κ (zR κ atGains (zR κ chAtlas a)) ≤ 1000 ∧ zN κ (zR κ atPlan (zR κ chAtlas a)) ≤ 1000 ∧ zN κ (zR κ atChooses (zR κ chAtlas a)) ≤ 1000 ∧ zN κ (zR κ atHopeless (zR κ chAtlas a)) ≤ 1000 ∧ zN κ (zR κ atSorts (zR κ chAtlas a)) ≤ 20000 ∧ zN κ (zR κ atNumbers (zR κ chAtlas a)) ≤ 20000 ∧ zN κ (zR κ atWeights (zR κ chAtlas a)) ≤ 20000 := by
    obtain ⟨⟨u1, u2⟩, u3, u4⟩ := b2
    rcases b1 with y | y
    · obtain ⟨y1, y2, y3, y4, y5, y6⟩ := y
      refine ⟨by omega, by omega, by omega, by omega, by omega, by omega, by omega, by omega, by omega⟩
    · obtain ⟨y1, y2, y3, y4, y5, y6⟩ := y
      refine ⟨by omega, by omega, by omega, by omega, by omega, by omega, by omega, by omega, by omega⟩
  have s3 := one 3 (zR κ chAtlas a) (by decide) tA o3
  have p3 := po_S39 tA z3
  have s4 := one 4 (zR κ soCalc (zR κ chSolver a)) (by decide) tc o4
  have p4 := po_S49 tc (Nat.le_of_eq cf)
  have zc : ∀ c, coI κ c → zN κ (zR κ coVarStarts c) ≤ 10 ∧ zN κ (zR κ coArrayBases c) ≤ 3 ∧ zN κ (zR κ coArraySizes c) ≤ 3 ∧ zN κ (zR κ coFirstStatements c) ≤ 10 ∧ zN κ (zR κ coNameCounts c) ≤ 10 ∧ zN κ (zR κ coOwnCounts c) ≤ 10 ∧ zN κ (zR κ coRows c) ≤ 3322 ∧ zN κ (zR κ coOps c) ≤ 41000 ∧ zN κ (zR κ coArgs c) ≤ 41000 := fun c h => by
    obtain ⟨⟨y1, y2, y3, y4, y5, y6⟩, _, _, _, _, _, ⟨_, _, y7⟩, ⟨_, _, y8, _, y9⟩, _⟩ := h
    exact ⟨by omega, by omega, by omega, by omega, by omega, by omega, by omega, by omega, by omega⟩
  have s5 : fS9 (zn κ) (fun b => decide (zT κ b = 5)) (po wS κ) = po wS κ (zR κ chCode a) + po wS κ (zR κ chSpare a) := by
    have q := ty_f9 (n := 2) (x := fun i => if i = 0 then zR κ chCode a else zR κ chSpare a) (g := po wS κ) (by decide) o5 lt (fun i hi => by
      by_cases e : i = 0
      · show zT κ (if i = 0 then _ else _) = 5
        rw [if_pos e]; exact ty_chCode W T
      · show zT κ (if i = 0 then _ else _) = 5
        rw [if_neg e]; exact ty_chSpare W T) (fun i j h3 h4 => by
      have ei : i = 0 := by omega
      have ej : ¬ j = 0 := by omega
      show (if i = 0 then zR κ chCode a else zR κ chSpare a) ≠ if j = 0 then zR κ chCode a else zR κ chSpare a
      rw [if_pos ei, if_neg ej]
      exact a4)
    rw [q]
    show 0 + po wS κ (zR κ chCode a) + po wS κ (zR κ chSpare a) = _
    rw [Nat.zero_add]
  have p5a := po_S59 (ty_chCode W T) (zc _ a2)
  have p5b := po_S59 (ty_chSpare W T) (zc _ a3)
  have s6 : fS9 (zn κ) (fun b => decide (zT κ b = 6)) (po wS κ) = po wS κ (zR κ atStates (zR κ chAtlas a)) + po wS κ (zR κ atEndings (zR κ chAtlas a)) + po wS κ (zR κ odGroups (zR κ chOdds a)) := by
    have q := ty_f9 (n := 3) (x := fun i => if i = 0 then zR κ atStates (zR κ chAtlas a) else if i = 1 then zR κ atEndings (zR κ chAtlas a) else zR κ odGroups (zR κ chOdds a)) (g := po wS κ) (by decide) o6 lt (fun i hi => by
      have e : i = 0 ∨ i = 1 ∨ i = 2 := by omega
      rcases e with rfl | rfl | rfl
      · exact ty_atStates W tA
      · exact ty_atEndings W tA
      · exact ty_odGroups W tO) (fun i j h3 h4 => by
      have e : (i = 0 ∧ j = 1) ∨ (i = 0 ∧ j = 2) ∨ (i = 1 ∧ j = 2) := by omega
      rcases e with ⟨rfl, rfl⟩ | ⟨rfl, rfl⟩ | ⟨rfl, rfl⟩
      · exact b4
      · exact d7.1
      · exact d7.2)
    rw [q]
    show 0 + po wS κ (zR κ atStates (zR κ chAtlas a)) + po wS κ (zR κ atEndings (zR κ chAtlas a)) + po wS κ (zR κ odGroups (zR κ chOdds a)) = _
    rw [Nat.zero_add]
  have p6a := po_S69 (ty_atStates W tA) b3.1
  have p6b := po_S69 (ty_atEndings W tA) b3.2
  have p6c := po_S69 (ty_odGroups W tO) d4
  have z7 : zN κ (zR κ maMemory (zR κ chMachine a)) ≤ 142 ∧ zN κ (zR κ maStack (zR κ chMachine a)) ≤ 256 ∧ zN κ (zR κ maWorked (zR κ chMachine a)) ≤ 16 ∧ zN κ (zR κ maValues (zR κ chMachine a)) ≤ 64 ∧ zN κ (zR κ maWeights (zR κ chMachine a)) ≤ 64 := by
    rw [c1] at b5
    obtain ⟨y1, y2, y3, y4, y5⟩ := b5
    exact ⟨by omega, by omega, by omega, by omega, by omega⟩
  have s7 := one 7 (zR κ chMachine a) (by decide) (ty_chMachine W T) o7
  have p7 := po_S79 (ty_chMachine W T) z7
  have z9 : zN κ (zR κ odKey (zR κ chOdds a)) ≤ 3 ∧ zN κ (zR κ odLefts (zR κ chOdds a)) ≤ 3000 ∧ zN κ (zR κ odRights (zR κ chOdds a)) ≤ 3000 ∧ zN κ (zR κ odBases (zR κ chOdds a)) ≤ 3000 ∧ zN κ (zR κ odRanks (zR κ chOdds a)) ≤ 3000 ∧ zN κ (zR κ odCellOf (zR κ chOdds a)) ≤ 1000 ∧ zN κ (zR κ odHeads (zR κ chOdds a)) ≤ 1000 ∧ zN κ (zR κ odLinks (zR κ chOdds a)) ≤ 20000 ∧ zN κ (zR κ odEdges (zR κ chOdds a)) ≤ 31 := by
    rcases d3 with y | y
    · obtain ⟨y1, y2, y3, y4, y5, y6, y7⟩ := y
      refine ⟨by omega, by omega, by omega, by omega, by omega, by omega, by omega, by omega, by omega⟩
    · obtain ⟨y1, y2, y3, y4, y5, y6, y7⟩ := y
      refine ⟨by omega, by omega, by omega, by omega, by omega, by omega, by omega, by omega, by omega⟩
  have s9 := one 9 (zR κ chOdds a) (by decide) tO o9
  have p9 := po_S99 tO z9
  have z10 : zN κ (zR κ paVarNames (zR κ chParser a)) ≤ 10 ∧ zN κ (zR κ paArrayNames (zR κ chParser a)) ≤ 3 ∧ zN κ (zR κ paFunctionNames (zR κ chParser a)) ≤ 10 ∧ zN κ (zR κ paOwnNames (zR κ chParser a)) ≤ 8 ∧ zN κ (zR κ paOwners (zR κ chParser a)) ≤ 41 ∧ zN κ (zR κ paLasts (zR κ chParser a)) ≤ 41 ∧ zN κ (zR κ paElses (zR κ chParser a)) ≤ 41 ∧ zN κ (zR κ paWaiting (zR κ chParser a)) ≤ 41000 := by
    obtain ⟨y1, y2, y3, y4, y5, y6, y7⟩ := a5
    obtain ⟨_, _, _, _, y8⟩ := a6
    refine ⟨by omega, by omega, by omega, by omega, by omega, by omega, by omega, by omega⟩
  have s10 := one 10 (zR κ chParser a) (by decide) (ty_chParser W T) o10
  have p10 := po_S109 (ty_chParser W T) z10
  have s12 := one 12 (zR κ chSolver a) (by decide) tS o12
  have p12 := po_S129 tS ⟨v2, w2, by omega, by omega, by omega⟩
  have z13 : zN κ (zR κ taBytes (zR κ chTape a)) ≤ 20480 ∧ zN κ (zR κ taKinds (zR κ chTape a)) ≤ 20490 ∧ zN κ (zR κ taPlaces (zR κ chTape a)) ≤ 20490 ∧ zN κ (zR κ taLengths (zR κ chTape a)) ≤ 20490 := by
    obtain ⟨⟨_, _, _, y1⟩, _, _, y2, y3, _, y4⟩ := a1
    exact ⟨by omega, by omega, by omega, by omega⟩
  have s13 := one 13 (zR κ chTape a) (by decide) (ty_chTape W T) o13
  have p13 := po_S139 (ty_chTape W T) z13
  have z14 : zN κ (zR κ weFirsts (zR κ atWeb (zR κ chAtlas a))) ≤ 1001 ∧ zN κ (zR κ weTargets (zR κ atWeb (zR κ chAtlas a))) ≤ 20000 ∧ zN κ (zR κ weBackFirsts (zR κ atWeb (zR κ chAtlas a))) ≤ 1001 ∧ zN κ (zR κ weSources (zR κ atWeb (zR κ chAtlas a))) ≤ 20000 ∧ zN κ (zR κ weEdges (zR κ atWeb (zR κ chAtlas a))) ≤ 20000 ∧ zN κ (zR κ weOpen (zR κ atWeb (zR κ chAtlas a))) ≤ 1000 ∧ zN κ (zR κ weKnotFirsts (zR κ atWeb (zR κ chAtlas a))) ≤ 1001 ∧ zN κ (zR κ weKnotOf (zR κ atWeb (zR κ chAtlas a))) ≤ 1000 ∧ zN κ (zR κ weOrder (zR κ atWeb (zR κ chAtlas a))) ≤ 1000 ∧ zN κ (zR κ weSeen (zR κ atWeb (zR κ chAtlas a))) ≤ 1000 ∧ zN κ (zR κ weLow (zR κ atWeb (zR κ chAtlas a))) ≤ 1000 ∧ zN κ (zR κ weCursor (zR κ atWeb (zR κ chAtlas a))) ≤ 1000 ∧ zN κ (zR κ wePath (zR κ atWeb (zR κ chAtlas a))) ≤ 1000 ∧ zN κ (zR κ weHeap (zR κ atWeb (zR κ chAtlas a))) ≤ 1000 := by
    obtain ⟨⟨u1, u2⟩, u3, u4⟩ := b7
    rcases b6 with y | y
    · obtain ⟨y1, y2, y3, y4, y5, y6, y7, y8, y9, y10, y11⟩ := y
      refine ⟨by omega, by omega, by omega, by omega, by omega, by omega, by omega, by omega, by omega, by omega, by omega, by omega, by omega, by omega⟩
    · obtain ⟨y1, y2, y3, y4, y5, y6, y7, y8, y9, y10, y11⟩ := y
      refine ⟨by omega, by omega, by omega, by omega, by omega, by omega, by omega, by omega, by omega, by omega, by omega, by omega, by omega, by omega⟩
  have s14 := one 14 (zR κ atWeb (zR κ chAtlas a)) (by decide) (ty_atWeb W tA) o14
  have p14 := po_S149 (ty_atWeb W tA) z14
  have z15 : zN κ (zR κ chTold a) ≤ 200 ∧ zN κ (zR κ chRecord a) ≤ 5 ∧ zN κ (zR κ chLastShared a) ≤ 34 ∧ zN κ (zR κ chDrawnWeights a) ≤ 4000 ∧ zN κ (zR κ chDrawnTotals a) ≤ 4000 := by
    obtain ⟨y1, y2, y3⟩ := e4
    exact ⟨by omega, by omega, by omega, by omega, by omega⟩
  have s15 := one 15 a (by decide) T o15
  have p15 := po_S159 T z15
  have n0' : ∀ t, t < 3 → fS9 (zn κ) (fun b => decide (zT κ b = t)) (po wS κ) = 0 := fun t ht => fS_09 (fun b hb => by
    have e : zT κ b = t := of_decide_eq_true hb
    unfold po
    rw [e, arF_no (Or.inr ht), (w0_9 (c := t) (by omega)).1]
    rfl)
  have s11 : fS9 (zn κ) (fun b => decide (zT κ b = 11)) (po wS κ) ≤ 3 * 2002 := by
    refine Nat.le_trans (fS_c9 (c := 3) (fun b hb => ?_)) (Nat.mul_le_mul_left _ ?_)
    · have e : zT κ b = 11 := of_decide_eq_true hb
      unfold po
      rw [e, arF_11]
      exact Nat.le_refl _
    · rw [← nT_f9]
      have k2 := kk.2
      unfold zV9 at k2
      have l1 := nn_l9 (κ := κ) (x := zR κ soVisits (zR κ chSolver a))
      have l2 := nn_l9 (κ := κ) (x := zR κ soWorths (zR κ chSolver a))
      omega
  refine Nat.le_trans (pot_t9 (fun c hc => (w0_9 hc).1)) ?_
  show 0 + _ + _ + _ + _ + _ + _ + _ + _ + _ + _ + _ + _ + _ + _ + _ + _ ≤ _
  dsimp only
  rw [n0' 0 (by decide), n0' 1 (by decide), n0' 2 (by decide), s3, s4, s5, s6, s7, s9, s10, s12, s13, s14, s15]
  omega
theorem pot_C9 {C : zC} {n0 a : Nat} {L : Int} {ρ : Nat → Nat} {κ : zS} (W : zW C n0 κ) (T : zT κ a = 15) (I : chI9 ρ κ a L) (O : oT9 κ) : pot wC κ ≤ 2254476 := by
  have lt : ∀ x, zT κ x ≠ 0 → x < zn κ := fun x h => (W.2.1 x h).2
  have tS := ty_chSolver W T
  have tO := ty_chOdds W T
  have tA := ty_chAtlas W T
  have tc := ty_soCalc W tS
  have nu := nu_sum9 (g := po wC κ) (G := fun n => 2 * n + 8) (Bc := 282368) W T I (Nat.le_of_eq (by decide +kernel)) (fun b hb hr => by
    have q := (I.2.2.1.1.1.1.1 b hr).2.1.2
    have e : po wC κ b = wC nuLimbs (zN κ (zR κ nuLimbs b)) + 0 + 0 := by
      unfold po
      rw [hb, arF_8, (w0_9 (c := 8) (by decide)).2]
      rfl
    have z : wC nuLimbs (zN κ (zR κ nuLimbs b)) = 2 * zN κ (zR κ nuLimbs b) + 8 := rfl
    rw [e, z]
    show 2 * zN κ (zR κ nuLimbs b) + 8 + 0 + 0 ≤ _
    omega)
  obtain ⟨⟨⟨a1, _⟩, ⟨⟨a2, a3⟩, a4⟩, ⟨a5, a6⟩, _⟩, ⟨⟨⟨b1, b2, b3, b4⟩, b5, ⟨b6, b7⟩, _, _⟩, c1, _⟩, ⟨⟨⟨_, _, ⟨_, cf⟩, _, _⟩, _, Lc, ⟨_, v2⟩, ⟨_, w2⟩, rr, _⟩, tk, _, _⟩, _, ⟨_, _, ⟨d3, d3b⟩, ⟨d4, d5⟩, _, d7⟩, ⟨⟨e1, _, _⟩, ⟨e2, e3⟩, e4⟩, _, kk⟩ := I
  obtain ⟨o3, o4, o5, o6, o7, o9, o10, o12, o13, o14, o15⟩ := O
  have one : ∀ t x, t ≠ 0 → zT κ x = t → nT9 t κ ≤ 1 → fS9 (zn κ) (fun b => decide (zT κ b = t)) (po wC κ) = po wC κ x := fun t x h0 h1 h2 => by
    have q := ty_f9 (x := fun _ => x) (g := po wC κ) h0 h2 lt (fun i _ => h1) (fun i j h3 h4 => by omega)
    rw [q]
    exact Nat.zero_add _
  have z3 : zN κ (zR κ atFirsts (zR κ chAtlas a)) ≤ 1001 ∧ zN κ (zR κ atTotals (zR κ chAtlas a)) ≤ 1000 ∧ zN κ (zR κ atGains (zR κ chAtlas a)) ≤ 1000 ∧ zN κ (zR κ atPlan (zR κ chAtlas a)) ≤ 1000 ∧ zN κ (zR κ atChooses (zR κ chAtlas a)) ≤ 1000 ∧ zN κ (zR κ atHopeless (zR κ chAtlas a)) ≤ 1000 ∧ zN κ (zR κ atSorts (zR κ chAtlas a)) ≤ 20000 ∧ zN κ (zR κ atNumbers (zR κ chAtlas a)) ≤ 20000 ∧ zN κ (zR κ atWeights (zR κ chAtlas a)) ≤ 20000 := by
    obtain ⟨⟨u1, u2⟩, u3, u4⟩ := b2
    rcases b1 with y | y
    · obtain ⟨y1, y2, y3, y4, y5, y6⟩ := y
      refine ⟨by omega, by omega, by omega, by omega, by omega, by omega, by omega, by omega, by omega⟩
    · obtain ⟨y1, y2, y3, y4, y5, y6⟩ := y
      refine ⟨by omega, by omega, by omega, by omega, by omega, by omega, by omega, by omega, by omega⟩
  have s3 := one 3 (zR κ chAtlas a) (by decide) tA o3
  have p3 := po_C39 tA z3
  have s4 := one 4 (zR κ soCalc (zR κ chSolver a)) (by decide) tc o4
  have p4 := po_C49 tc (Nat.le_of_eq cf)
  have zc : ∀ c, coI κ c → zN κ (zR κ coVarStarts c) ≤ 10 ∧ zN κ (zR κ coArrayBases c) ≤ 3 ∧ zN κ (zR κ coArraySizes c) ≤ 3 ∧ zN κ (zR κ coFirstStatements c) ≤ 10 ∧ zN κ (zR κ coNameCounts c) ≤ 10 ∧ zN κ (zR κ coOwnCounts c) ≤ 10 ∧ zN κ (zR κ coRows c) ≤ 3322 ∧ zN κ (zR κ coOps c) ≤ 41000 ∧ zN κ (zR κ coArgs c) ≤ 41000 := fun c h => by
    obtain ⟨⟨y1, y2, y3, y4, y5, y6⟩, _, _, _, _, _, ⟨_, _, y7⟩, ⟨_, _, y8, _, y9⟩, _⟩ := h
    exact ⟨by omega, by omega, by omega, by omega, by omega, by omega, by omega, by omega, by omega⟩
  have s5 : fS9 (zn κ) (fun b => decide (zT κ b = 5)) (po wC κ) = po wC κ (zR κ chCode a) + po wC κ (zR κ chSpare a) := by
    have q := ty_f9 (n := 2) (x := fun i => if i = 0 then zR κ chCode a else zR κ chSpare a) (g := po wC κ) (by decide) o5 lt (fun i hi => by
      by_cases e : i = 0
      · show zT κ (if i = 0 then _ else _) = 5
        rw [if_pos e]; exact ty_chCode W T
      · show zT κ (if i = 0 then _ else _) = 5
        rw [if_neg e]; exact ty_chSpare W T) (fun i j h3 h4 => by
      have ei : i = 0 := by omega
      have ej : ¬ j = 0 := by omega
      show (if i = 0 then zR κ chCode a else zR κ chSpare a) ≠ if j = 0 then zR κ chCode a else zR κ chSpare a
      rw [if_pos ei, if_neg ej]
      exact a4)
    rw [q]
    show 0 + po wC κ (zR κ chCode a) + po wC κ (zR κ chSpare a) = _
    rw [Nat.zero_add]
  have p5a := po_C59 (ty_chCode W T) (zc _ a2)
  have p5b := po_C59 (ty_chSpare W T) (zc _ a3)
  have s6 : fS9 (zn κ) (fun b => decide (zT κ b = 6)) (po wC κ) = po wC κ (zR κ atStates (zR κ chAtlas a)) + po wC κ (zR κ atEndings (zR κ chAtlas a)) + po wC κ (zR κ odGroups (zR κ chOdds a)) := by
    have q := ty_f9 (n := 3) (x := fun i => if i = 0 then zR κ atStates (zR κ chAtlas a) else if i = 1 then zR κ atEndings (zR κ chAtlas a) else zR κ odGroups (zR κ chOdds a)) (g := po wC κ) (by decide) o6 lt (fun i hi => by
      have e : i = 0 ∨ i = 1 ∨ i = 2 := by omega
      rcases e with rfl | rfl | rfl
      · exact ty_atStates W tA
      · exact ty_atEndings W tA
      · exact ty_odGroups W tO) (fun i j h3 h4 => by
      have e : (i = 0 ∧ j = 1) ∨ (i = 0 ∧ j = 2) ∨ (i = 1 ∧ j = 2) := by omega
      rcases e with ⟨rfl, rfl⟩ | ⟨rfl, rfl⟩ | ⟨rfl, rfl⟩
      · exact b4
      · exact d7.1
      · exact d7.2)
    rw [q]
    show 0 + po wC κ (zR κ atStates (zR κ chAtlas a)) + po wC κ (zR κ atEndings (zR κ chAtlas a)) + po wC κ (zR κ odGroups (zR κ chOdds a)) = _
    rw [Nat.zero_add]
  have p6a := po_C69 (ty_atStates W tA) b3.1
  have p6b := po_C69 (ty_atEndings W tA) b3.2
  have p6c := po_C69 (ty_odGroups W tO) d4
  have z7 : zN κ (zR κ maMemory (zR κ chMachine a)) ≤ 142 ∧ zN κ (zR κ maStack (zR κ chMachine a)) ≤ 256 ∧ zN κ (zR κ maWorked (zR κ chMachine a)) ≤ 16 ∧ zN κ (zR κ maValues (zR κ chMachine a)) ≤ 64 ∧ zN κ (zR κ maWeights (zR κ chMachine a)) ≤ 64 := by
    rw [c1] at b5
    obtain ⟨y1, y2, y3, y4, y5⟩ := b5
    exact ⟨by omega, by omega, by omega, by omega, by omega⟩
  have s7 := one 7 (zR κ chMachine a) (by decide) (ty_chMachine W T) o7
  have p7 := po_C79 (ty_chMachine W T) z7
  have z9 : zN κ (zR κ odKey (zR κ chOdds a)) ≤ 3 ∧ zN κ (zR κ odLefts (zR κ chOdds a)) ≤ 3000 ∧ zN κ (zR κ odRights (zR κ chOdds a)) ≤ 3000 ∧ zN κ (zR κ odBases (zR κ chOdds a)) ≤ 3000 ∧ zN κ (zR κ odRanks (zR κ chOdds a)) ≤ 3000 ∧ zN κ (zR κ odCellOf (zR κ chOdds a)) ≤ 1000 ∧ zN κ (zR κ odHeads (zR κ chOdds a)) ≤ 1000 ∧ zN κ (zR κ odLinks (zR κ chOdds a)) ≤ 20000 ∧ zN κ (zR κ odEdges (zR κ chOdds a)) ≤ 31 := by
    rcases d3 with y | y
    · obtain ⟨y1, y2, y3, y4, y5, y6, y7⟩ := y
      refine ⟨by omega, by omega, by omega, by omega, by omega, by omega, by omega, by omega, by omega⟩
    · obtain ⟨y1, y2, y3, y4, y5, y6, y7⟩ := y
      refine ⟨by omega, by omega, by omega, by omega, by omega, by omega, by omega, by omega, by omega⟩
  have s9 := one 9 (zR κ chOdds a) (by decide) tO o9
  have p9 := po_C99 tO z9
  have z10 : zN κ (zR κ paVarNames (zR κ chParser a)) ≤ 10 ∧ zN κ (zR κ paArrayNames (zR κ chParser a)) ≤ 3 ∧ zN κ (zR κ paFunctionNames (zR κ chParser a)) ≤ 10 ∧ zN κ (zR κ paOwnNames (zR κ chParser a)) ≤ 8 ∧ zN κ (zR κ paOwners (zR κ chParser a)) ≤ 41 ∧ zN κ (zR κ paLasts (zR κ chParser a)) ≤ 41 ∧ zN κ (zR κ paElses (zR κ chParser a)) ≤ 41 ∧ zN κ (zR κ paWaiting (zR κ chParser a)) ≤ 41000 := by
    obtain ⟨y1, y2, y3, y4, y5, y6, y7⟩ := a5
    obtain ⟨_, _, _, _, y8⟩ := a6
    refine ⟨by omega, by omega, by omega, by omega, by omega, by omega, by omega, by omega⟩
  have s10 := one 10 (zR κ chParser a) (by decide) (ty_chParser W T) o10
  have p10 := po_C109 (ty_chParser W T) z10
  have s12 := one 12 (zR κ chSolver a) (by decide) tS o12
  have p12 := po_C129 tS ⟨v2, w2, by omega, by omega, by omega⟩
  have z13 : zN κ (zR κ taBytes (zR κ chTape a)) ≤ 20480 ∧ zN κ (zR κ taKinds (zR κ chTape a)) ≤ 20490 ∧ zN κ (zR κ taPlaces (zR κ chTape a)) ≤ 20490 ∧ zN κ (zR κ taLengths (zR κ chTape a)) ≤ 20490 := by
    obtain ⟨⟨_, _, _, y1⟩, _, _, y2, y3, _, y4⟩ := a1
    exact ⟨by omega, by omega, by omega, by omega⟩
  have s13 := one 13 (zR κ chTape a) (by decide) (ty_chTape W T) o13
  have p13 := po_C139 (ty_chTape W T) z13
  have z14 : zN κ (zR κ weFirsts (zR κ atWeb (zR κ chAtlas a))) ≤ 1001 ∧ zN κ (zR κ weTargets (zR κ atWeb (zR κ chAtlas a))) ≤ 20000 ∧ zN κ (zR κ weBackFirsts (zR κ atWeb (zR κ chAtlas a))) ≤ 1001 ∧ zN κ (zR κ weSources (zR κ atWeb (zR κ chAtlas a))) ≤ 20000 ∧ zN κ (zR κ weEdges (zR κ atWeb (zR κ chAtlas a))) ≤ 20000 ∧ zN κ (zR κ weOpen (zR κ atWeb (zR κ chAtlas a))) ≤ 1000 ∧ zN κ (zR κ weKnotFirsts (zR κ atWeb (zR κ chAtlas a))) ≤ 1001 ∧ zN κ (zR κ weKnotOf (zR κ atWeb (zR κ chAtlas a))) ≤ 1000 ∧ zN κ (zR κ weOrder (zR κ atWeb (zR κ chAtlas a))) ≤ 1000 ∧ zN κ (zR κ weSeen (zR κ atWeb (zR κ chAtlas a))) ≤ 1000 ∧ zN κ (zR κ weLow (zR κ atWeb (zR κ chAtlas a))) ≤ 1000 ∧ zN κ (zR κ weCursor (zR κ atWeb (zR κ chAtlas a))) ≤ 1000 ∧ zN κ (zR κ wePath (zR κ atWeb (zR κ chAtlas a))) ≤ 1000 ∧ zN κ (zR κ weHeap (zR κ atWeb (zR κ chAtlas a))) ≤ 1000 := by
    obtain ⟨⟨u1, u2⟩, u3, u4⟩ := b7
    rcases b6 with y | y
    · obtain ⟨y1, y2, y3, y4, y5, y6, y7, y8, y9, y10, y11⟩ := y
      refine ⟨by omega, by omega, by omega, by omega, by omega, by omega, by omega, by omega, by omega, by omega, by omega, by omega, by omega, by omega⟩
    · obtain ⟨y1, y2, y3, y4, y5, y6, y7, y8, y9, y10, y11⟩ := y
      refine ⟨by omega, by omega, by omega, by omega, by omega, by omega, by omega, by omega, by omega, by omega, by omega, by omega, by omega, by omega⟩
  have s14 := one 14 (zR κ atWeb (zR κ chAtlas a)) (by decide) (ty_atWeb W tA) o14
  have p14 := po_C149 (ty_atWeb W tA) z14
  have z15 : zN κ (zR κ chTold a) ≤ 200 ∧ zN κ (zR κ chRecord a) ≤ 5 ∧ zN κ (zR κ chLastShared a) ≤ 34 ∧ zN κ (zR κ chDrawnWeights a) ≤ 4000 ∧ zN κ (zR κ chDrawnTotals a) ≤ 4000 := by
    obtain ⟨y1, y2, y3⟩ := e4
    exact ⟨by omega, by omega, by omega, by omega, by omega⟩
  have s15 := one 15 a (by decide) T o15
  have p15 := po_C159 T z15
  have n0' : ∀ t, t < 3 → fS9 (zn κ) (fun b => decide (zT κ b = t)) (po wC κ) = 0 := fun t ht => fS_09 (fun b hb => by
    have e : zT κ b = t := of_decide_eq_true hb
    unfold po
    rw [e, arF_no (Or.inr ht), (w0_9 (c := t) (by omega)).2]
    rfl)
  have s11 : fS9 (zn κ) (fun b => decide (zT κ b = 11)) (po wC κ) ≤ 4 * 2002 := by
    refine Nat.le_trans (fS_c9 (c := 4) (fun b hb => ?_)) (Nat.mul_le_mul_left _ ?_)
    · have e : zT κ b = 11 := of_decide_eq_true hb
      unfold po
      rw [e, arF_11]
      exact Nat.le_refl _
    · rw [← nT_f9]
      have k2 := kk.2
      unfold zV9 at k2
      have l1 := nn_l9 (κ := κ) (x := zR κ soVisits (zR κ chSolver a))
      have l2 := nn_l9 (κ := κ) (x := zR κ soWorths (zR κ chSolver a))
      omega
  refine Nat.le_trans (pot_t9 (fun c hc => (w0_9 hc).2)) ?_
  show 0 + _ + _ + _ + _ + _ + _ + _ + _ + _ + _ + _ + _ + _ + _ + _ + _ ≤ _
  dsimp only
  rw [n0' 0 (by decide), n0' 1 (by decide), n0' 2 (by decide), s3, s4, s5, s6, s7, s9, s10, s12, s13, s14, s15]
  omega
