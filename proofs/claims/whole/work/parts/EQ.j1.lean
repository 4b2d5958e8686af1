set_option maxHeartbeats 1600000
/-! the class: ChanceWorks' constructor, by a log of its steps -/
theorem lg_mH9 {k n f a x y z : Nat} {κ : zS} {L : List (Nat × Nat × Nat × Nat)} (hn : 0 < n) (H : lgH9 k κ n L) : lgH9 k (mkH9 κ (Int32.ofNat x) (Int32.ofNat y) (Int32.ofNat z) f (k + a)) (n + 4) ((4, f, a, n) :: (1, n, 0, 0) :: (3, hoPool, n, n + 3) :: (2, n + 3, 20, 16) :: (3, hoTable, n, n + 2) :: (2, n + 2, 20, 0) :: (3, hoStarts, n, n + 1) :: (2, n + 1, 20, 1) :: (5, hoSlots, n, z) :: (5, hoWidest, n, y) :: (5, hoMost, n, x) :: (0, n, 46, 0) :: L) := by
  have h1 := lg_ui9 (f := hoSlots) (a := n) (x := z) (lg_ui9 (f := hoWidest) (a := n) (x := y) (lg_ui9 (f := hoMost) (a := n) (x := x) (lg_no9 (ci := 6) H)))
  have h2 := lg_mr9 (f := hoPool) (t := 20) (m := 16) hn (Nat.succ_pos (n + 2)) (lg_mr9 (f := hoTable) (t := 20) (m := 0) hn (Nat.succ_pos (n + 1)) (lg_mr9 (f := hoStarts) (t := 20) (m := 1) hn (Nat.succ_pos n) h1))
  have h3 := lg_ur9 (f := f) (a := a) hn (lg_nf9 hn h2)
  rw [← H.1] at h3
  exact h3
theorem lg_mW9 {k n f a : Nat} {κ : zS} {L : List (Nat × Nat × Nat × Nat)} (hn : 0 < n) (H : lgH9 k κ n L) : lgH9 k (mkW9 κ f (k + a)) (n + 15) ((4, f, a, n) :: (1, n, 0, 0) :: (3, weHeap, n, n + 14) :: (2, n + 14, 20, 0) :: (3, wePath, n, n + 13) :: (2, n + 13, 20, 0) :: (3, weCursor, n, n + 12) :: (2, n + 12, 20, 0) :: (3, weLow, n, n + 11) :: (2, n + 11, 20, 0) :: (3, weSeen, n, n + 10) :: (2, n + 10, 20, 0) :: (3, weOrder, n, n + 9) :: (2, n + 9, 20, 0) :: (3, weKnotOf, n, n + 8) :: (2, n + 8, 20, 0) :: (3, weKnotFirsts, n, n + 7) :: (2, n + 7, 20, 1) :: (3, weOpen, n, n + 6) :: (2, n + 6, 23, 0) :: (3, weEdges, n, n + 5) :: (2, n + 5, 20, 64) :: (3, weSources, n, n + 4) :: (2, n + 4, 20, 64) :: (3, weBackFirsts, n, n + 3) :: (2, n + 3, 20, 1) :: (3, weTargets, n, n + 2) :: (2, n + 2, 20, 64) :: (3, weFirsts, n, n + 1) :: (2, n + 1, 20, 1) :: (0, n, 54, 0) :: L) := by
  have h2 := lg_mr9 (f := weHeap) (t := 20) (m := 0) hn (Nat.succ_pos (n + 13)) (lg_mr9 (f := wePath) (t := 20) (m := 0) hn (Nat.succ_pos (n + 12)) (lg_mr9 (f := weCursor) (t := 20) (m := 0) hn (Nat.succ_pos (n + 11)) (lg_mr9 (f := weLow) (t := 20) (m := 0) hn (Nat.succ_pos (n + 10)) (lg_mr9 (f := weSeen) (t := 20) (m := 0) hn (Nat.succ_pos (n + 9)) (lg_mr9 (f := weOrder) (t := 20) (m := 0) hn (Nat.succ_pos (n + 8)) (lg_mr9 (f := weKnotOf) (t := 20) (m := 0) hn (Nat.succ_pos (n + 7)) (lg_mr9 (f := weKnotFirsts) (t := 20) (m := 1) hn (Nat.succ_pos (n + 6)) (lg_mr9 (f := weOpen) (t := 23) (m := 0) hn (Nat.succ_pos (n + 5)) (lg_mr9 (f := weEdges) (t := 20) (m := 64) hn (Nat.succ_pos (n + 4)) (lg_mr9 (f := weSources) (t := 20) (m := 64) hn (Nat.succ_pos (n + 3)) (lg_mr9 (f := weBackFirsts) (t := 20) (m := 1) hn (Nat.succ_pos (n + 2)) (lg_mr9 (f := weTargets) (t := 20) (m := 64) hn (Nat.succ_pos (n + 1)) (lg_mr9 (f := weFirsts) (t := 20) (m := 1) hn (Nat.succ_pos n) (lg_no9 (ci := 14) H))))))))))))))
  have h3 := lg_ur9 (f := f) (a := a) hn (lg_nf9 hn h2)
  rw [← H.1] at h3
  exact h3
theorem lg_iR9 {k n w l : Nat} {m : Int32} {κ : zS} {L : List (Nat × Nat × Nat × Nat)} (hl : (if m < (2 : Int32) then (2 : Int32) else m).toNatClampNeg = l) (hw : 0 < w) (hn : 0 < n) (H : lgH9 k κ n L) : lgH9 k (iRa9 κ (k + w) m) (n + 4) ((5, nuLength, n + 2, 1) :: (6, n + 3, 1, 0) :: (6, n + 3, 0, 1) :: (4, raBottom, w, n + 2) :: (1, n + 2, 0, 0) :: (3, nuLimbs, n + 2, n + 3) :: (2, n + 3, 20, l) :: (0, n + 2, 48, 0) :: (4, raTop, w, n) :: (1, n, 0, 0) :: (3, nuLimbs, n, n + 1) :: (2, n + 1, 20, l) :: (0, n, 48, 0) :: L) := by
  have h2 := lg_mn9 (f := raTop) (a := w) hl hn H
  have h3 := lg_mn9 (f := raBottom) (a := w) hl (Nat.succ_pos (n + 1)) h2
  have e : zR (mkn9 (mkn9 κ m raTop (k + w)) m raBottom (k + w)) raBottom (k + w) = k + (n + 2) := by
    rw [h3.2.2.2.2.1 raBottom w hw]
    have q : lgR9 ((4, raBottom, w, n + 2) :: (1, n + 2, 0, 0) :: (3, nuLimbs, n + 2, n + 2 + 1) :: (2, n + 2 + 1, 20, l) :: (0, n + 2, 48, 0) :: (4, raTop, w, n) :: (1, n, 0, 0) :: (3, nuLimbs, n, n + 1) :: (2, n + 1, 20, l) :: (0, n, 48, 0) :: L) raBottom w = n + 2 := (if_neg (fun z => by have y := z.1; dsimp only at y; omega)).trans (if_pos ⟨Or.inr rfl, rfl, rfl⟩)
    rw [q]
    exact if_neg (by omega)
  have h4 := lg_pu9 (x := n + 2) (r := n + 3) (by
    refine (lgR_e9 (fun z => by have y := z.1; dsimp only at y; omega) (fun z => by have y := z.2.1; dsimp only at y; exact absurd y (by decide))).trans ?_
    refine (lgR_e9 (fun z => by have y := z.1; dsimp only at y; omega) (fun z => by have y := z.1; dsimp only at y; omega)).trans ?_
    exact (if_neg (fun z => by have y := z.1; dsimp only at y; omega)).trans (if_pos ⟨Or.inl rfl, rfl, rfl⟩)) (by omega) (by omega) h3
  unfold iRa9
  rw [e]
  exact h4
def cl9_0 : List (Nat × Nat × Nat × Nat) := [(0, 1, 55, 0)]
def cl9_1 : List (Nat × Nat × Nat × Nat) := (0, 2, 53, 0) :: cl9_0
def cl9_2 : List (Nat × Nat × Nat × Nat) := (3, taLengths, 2, 6) :: (2, 6, 20, 64) :: (3, taPlaces, 2, 5) :: (2, 5, 20, 64) :: (3, taKinds, 2, 4) :: (2, 4, 20, 64) :: (3, taBytes, 2, 3) :: (2, 3, 21, 240) :: cl9_1
def cl9_3 : List (Nat × Nat × Nat × Nat) := (1, 2, 0, 0) :: cl9_2
def cl9_4 : List (Nat × Nat × Nat × Nat) := (4, chTape, 1, 2) :: cl9_3
def cl9_5 : List (Nat × Nat × Nat × Nat) := (0, 7, 45, 0) :: cl9_4
def cl9_6 : List (Nat × Nat × Nat × Nat) := (3, coArgs, 7, 16) :: (2, 16, 20, 64) :: (3, coOps, 7, 15) :: (2, 15, 20, 64) :: (3, coRows, 7, 14) :: (2, 14, 20, 88) :: (3, coOwnCounts, 7, 13) :: (2, 13, 20, 10) :: (3, coNameCounts, 7, 12) :: (2, 12, 20, 10) :: (3, coFirstStatements, 7, 11) :: (2, 11, 20, 10) :: (3, coArraySizes, 7, 10) :: (2, 10, 20, 3) :: (3, coArrayBases, 7, 9) :: (2, 9, 20, 3) :: (3, coVarStarts, 7, 8) :: (2, 8, 20, 10) :: cl9_5
def cl9_7 : List (Nat × Nat × Nat × Nat) := (1, 7, 0, 0) :: cl9_6
def cl9_8 : List (Nat × Nat × Nat × Nat) := (4, chCode, 1, 7) :: cl9_7
def cl9_9 : List (Nat × Nat × Nat × Nat) := (0, 17, 45, 0) :: cl9_8
def cl9_10 : List (Nat × Nat × Nat × Nat) := (3, coArgs, 17, 26) :: (2, 26, 20, 64) :: (3, coOps, 17, 25) :: (2, 25, 20, 64) :: (3, coRows, 17, 24) :: (2, 24, 20, 88) :: (3, coOwnCounts, 17, 23) :: (2, 23, 20, 10) :: (3, coNameCounts, 17, 22) :: (2, 22, 20, 10) :: (3, coFirstStatements, 17, 21) :: (2, 21, 20, 10) :: (3, coArraySizes, 17, 20) :: (2, 20, 20, 3) :: (3, coArrayBases, 17, 19) :: (2, 19, 20, 3) :: (3, coVarStarts, 17, 18) :: (2, 18, 20, 10) :: cl9_9
def cl9_11 : List (Nat × Nat × Nat × Nat) := (1, 17, 0, 0) :: cl9_10
def cl9_12 : List (Nat × Nat × Nat × Nat) := (4, chSpare, 1, 17) :: cl9_11
def cl9_13 : List (Nat × Nat × Nat × Nat) := (0, 27, 50, 0) :: cl9_12
def cl9_14 : List (Nat × Nat × Nat × Nat) := (3, paWaiting, 27, 35) :: (2, 35, 20, 16) :: (3, paElses, 27, 34) :: (2, 34, 23, 41) :: (3, paLasts, 27, 33) :: (2, 33, 20, 41) :: (3, paOwners, 27, 32) :: (2, 32, 20, 41) :: (3, paOwnNames, 27, 31) :: (2, 31, 20, 8) :: (3, paFunctionNames, 27, 30) :: (2, 30, 20, 10) :: (3, paArrayNames, 27, 29) :: (2, 29, 20, 3) :: (3, paVarNames, 27, 28) :: (2, 28, 20, 10) :: (4, paCode, 27, 17) :: (4, paTape, 27, 2) :: cl9_13
def cl9_15 : List (Nat × Nat × Nat × Nat) := (1, 27, 0, 0) :: cl9_14
def cl9_16 : List (Nat × Nat × Nat × Nat) := (4, chParser, 1, 27) :: cl9_15
def cl9_17 : List (Nat × Nat × Nat × Nat) := (0, 36, 47, 0) :: cl9_16
def cl9_18 : List (Nat × Nat × Nat × Nat) := (3, maWeights, 36, 41) :: (2, 41, 20, 64) :: (3, maValues, 36, 40) :: (2, 40, 20, 64) :: (3, maWorked, 36, 39) :: (2, 39, 20, 16) :: (3, maStack, 36, 38) :: (2, 38, 20, 256) :: (3, maMemory, 36, 37) :: (2, 37, 20, 142) :: (4, maCode, 36, 7) :: cl9_17
def cl9_19 : List (Nat × Nat × Nat × Nat) := (1, 36, 0, 0) :: cl9_18
def cl9_20 : List (Nat × Nat × Nat × Nat) := (4, chMachine, 1, 36) :: cl9_19
def cl9_21 : List (Nat × Nat × Nat × Nat) := (0, 42, 43, 0) :: cl9_20
def cl9_22 : List (Nat × Nat × Nat × Nat) := (3, atWeights, 42, 74) :: (2, 74, 20, 64) :: (3, atNumbers, 42, 73) :: (2, 73, 20, 64) :: (3, atSorts, 42, 72) :: (2, 72, 20, 64) :: (3, atHopeless, 42, 71) :: (2, 71, 23, 0) :: (3, atChooses, 42, 70) :: (2, 70, 23, 0) :: (3, atPlan, 42, 69) :: (2, 69, 20, 0) :: (3, atGains, 42, 68) :: (2, 68, 20, 0) :: (3, atTotals, 42, 67) :: (2, 67, 20, 0) :: (3, atFirsts, 42, 66) :: (2, 66, 20, 1) :: (4, atEndings, 42, 62) :: (1, 62, 0, 0) :: (3, hoPool, 62, 65) :: (2, 65, 20, 16) :: (3, hoTable, 62, 64) :: (2, 64, 20, 0) :: (3, hoStarts, 62, 63) :: (2, 63, 20, 1) :: (5, hoSlots, 62, 2048) :: (5, hoWidest, 62, 35) :: (5, hoMost, 62, 1000) :: (0, 62, 46, 0) :: (4, atStates, 42, 58) :: (1, 58, 0, 0) :: (3, hoPool, 58, 61) :: (2, 61, 20, 16) :: (3, hoTable, 58, 60) :: (2, 60, 20, 0) :: (3, hoStarts, 58, 59) :: (2, 59, 20, 1) :: (5, hoSlots, 58, 2048) :: (5, hoWidest, 58, 142) :: (5, hoMost, 58, 1000) :: (0, 58, 46, 0) :: (4, atWeb, 42, 43) :: (1, 43, 0, 0) :: (3, weHeap, 43, 57) :: (2, 57, 20, 0) :: (3, wePath, 43, 56) :: (2, 56, 20, 0) :: (3, weCursor, 43, 55) :: (2, 55, 20, 0) :: (3, weLow, 43, 54) :: (2, 54, 20, 0) :: (3, weSeen, 43, 53) :: (2, 53, 20, 0) :: (3, weOrder, 43, 52) :: (2, 52, 20, 0) :: (3, weKnotOf, 43, 51) :: (2, 51, 20, 0) :: (3, weKnotFirsts, 43, 50) :: (2, 50, 20, 1) :: (3, weOpen, 43, 49) :: (2, 49, 23, 0) :: (3, weEdges, 43, 48) :: (2, 48, 20, 64) :: (3, weSources, 43, 47) :: (2, 47, 20, 64) :: (3, weBackFirsts, 43, 46) :: (2, 46, 20, 1) :: (3, weTargets, 43, 45) :: (2, 45, 20, 64) :: (3, weFirsts, 43, 44) :: (2, 44, 20, 1) :: (0, 43, 54, 0) :: (4, atCode, 42, 7) :: (4, atMachine, 42, 36) :: cl9_21
def cl9_23 : List (Nat × Nat × Nat × Nat) := (1, 42, 0, 0) :: cl9_22
def cl9_24 : List (Nat × Nat × Nat × Nat) := (4, chAtlas, 1, 42) :: cl9_23
def cl9_25 : List (Nat × Nat × Nat × Nat) := (0, 75, 44, 0) :: cl9_24
def cl9_26 : List (Nat × Nat × Nat × Nat) := (4, caSpare, 75, 87) :: (1, 87, 0, 0) :: (3, nuLimbs, 87, 88) :: (2, 88, 20, 8) :: (0, 87, 48, 0) :: (4, caY, 75, 85) :: (1, 85, 0, 0) :: (3, nuLimbs, 85, 86) :: (2, 86, 20, 8) :: (0, 85, 48, 0) :: (4, caX, 75, 83) :: (1, 83, 0, 0) :: (3, nuLimbs, 83, 84) :: (2, 84, 20, 8) :: (0, 83, 48, 0) :: (4, caDivisor, 75, 81) :: (1, 81, 0, 0) :: (3, nuLimbs, 81, 82) :: (2, 82, 20, 8) :: (0, 81, 48, 0) :: (4, caRest, 75, 79) :: (1, 79, 0, 0) :: (3, nuLimbs, 79, 80) :: (2, 80, 20, 8) :: (0, 79, 48, 0) :: (4, caQuotient, 75, 77) :: (1, 77, 0, 0) :: (3, nuLimbs, 77, 78) :: (2, 78, 20, 8) :: (0, 77, 48, 0) :: (3, caFactors, 75, 76) :: (2, 76, 22, 4) :: cl9_25
def cl9_27 : List (Nat × Nat × Nat × Nat) := (1, 75, 0, 0) :: cl9_26
def cl9_28 : List (Nat × Nat × Nat × Nat) := (0, 89, 52, 0) :: cl9_27
def cl9_29 : List (Nat × Nat × Nat × Nat) := (4, soCalc, 89, 75) :: (4, soAtlas, 89, 42) :: cl9_28
def cl9_30 : List (Nat × Nat × Nat × Nat) := (3, soTaken, 89, 111) :: (2, 111, 20, 0) :: (3, soRows, 89, 110) :: (2, 110, 20, 0) :: (3, soCells, 89, 109) :: (2, 109, 24, 0) :: (4, soLess, 89, 107) :: (1, 107, 0, 0) :: (3, nuLimbs, 107, 108) :: (2, 108, 20, 4) :: (0, 107, 48, 0) :: (4, soSum, 89, 105) :: (1, 105, 0, 0) :: (3, nuLimbs, 105, 106) :: (2, 106, 20, 4) :: (0, 105, 48, 0) :: (4, soTerm, 89, 103) :: (1, 103, 0, 0) :: (3, nuLimbs, 103, 104) :: (2, 104, 20, 4) :: (0, 103, 48, 0) :: (4, soScaled, 89, 101) :: (1, 101, 0, 0) :: (3, nuLimbs, 101, 102) :: (2, 102, 20, 4) :: (0, 101, 48, 0) :: (4, soFactor, 89, 99) :: (1, 99, 0, 0) :: (3, nuLimbs, 99, 100) :: (2, 100, 20, 2) :: (0, 99, 48, 0) :: (4, soPart, 89, 94) :: (1, 94, 0, 0) :: (5, nuLength, 97, 1) :: (6, 98, 1, 0) :: (6, 98, 0, 1) :: (4, raBottom, 94, 97) :: (1, 97, 0, 0) :: (3, nuLimbs, 97, 98) :: (2, 98, 20, 4) :: (0, 97, 48, 0) :: (4, raTop, 94, 95) :: (1, 95, 0, 0) :: (3, nuLimbs, 95, 96) :: (2, 96, 20, 4) :: (0, 95, 48, 0) :: (0, 94, 51, 0) :: (4, soWhole, 89, 92) :: (1, 92, 0, 0) :: (3, nuLimbs, 92, 93) :: (2, 93, 20, 4) :: (0, 92, 48, 0) :: (3, soWorths, 89, 91) :: (2, 91, 25, 0) :: (3, soVisits, 89, 90) :: (2, 90, 25, 0) :: (4, soWeb, 89, 43) :: cl9_29
def cl9_31 : List (Nat × Nat × Nat × Nat) := (1, 89, 0, 0) :: cl9_30
def cl9_32 : List (Nat × Nat × Nat × Nat) := (4, chSolver, 1, 89) :: cl9_31
def cl9_33 : List (Nat × Nat × Nat × Nat) := (0, 112, 49, 0) :: cl9_32
def cl9_34 : List (Nat × Nat × Nat × Nat) := (3, odEdges, 112, 127) :: (2, 127, 24, 0) :: (3, odLinks, 112, 126) :: (2, 126, 20, 0) :: (3, odHeads, 112, 125) :: (2, 125, 20, 0) :: (3, odCellOf, 112, 124) :: (2, 124, 20, 0) :: (3, odRanks, 112, 123) :: (2, 123, 20, 0) :: (3, odBases, 112, 122) :: (2, 122, 20, 0) :: (3, odRights, 112, 121) :: (2, 121, 20, 0) :: (3, odLefts, 112, 120) :: (2, 120, 20, 0) :: (3, odKey, 112, 119) :: (2, 119, 20, 3) :: (4, odGroups, 112, 115) :: (1, 115, 0, 0) :: (3, hoPool, 115, 118) :: (2, 118, 20, 16) :: (3, hoTable, 115, 117) :: (2, 117, 20, 0) :: (3, hoStarts, 115, 116) :: (2, 116, 20, 1) :: (5, hoSlots, 115, 8192) :: (5, hoWidest, 115, 3) :: (5, hoMost, 115, 3000) :: (0, 115, 46, 0) :: (4, odHeld, 112, 113) :: (1, 113, 0, 0) :: (3, nuLimbs, 113, 114) :: (2, 114, 20, 4) :: (0, 113, 48, 0) :: (4, odCalc, 112, 75) :: (4, odSolver, 112, 89) :: (4, odAtlas, 112, 42) :: cl9_33
def cl9_35 : List (Nat × Nat × Nat × Nat) := (1, 112, 0, 0) :: cl9_34
def cl9_36 : List (Nat × Nat × Nat × Nat) := (4, chOdds, 1, 112) :: cl9_35
def cl9_37 : List (Nat × Nat × Nat × Nat) := (0, 128, 51, 0) :: cl9_36
def cl9_38 : List (Nat × Nat × Nat × Nat) := (5, nuLength, 131, 1) :: (6, 132, 1, 0) :: (6, 132, 0, 1) :: (4, raBottom, 128, 131) :: (1, 131, 0, 0) :: (3, nuLimbs, 131, 132) :: (2, 132, 20, 2) :: (0, 131, 48, 0) :: (4, raTop, 128, 129) :: (1, 129, 0, 0) :: (3, nuLimbs, 129, 130) :: (2, 130, 20, 2) :: (0, 129, 48, 0) :: cl9_37
def cl9_39 : List (Nat × Nat × Nat × Nat) := (1, 128, 0, 0) :: cl9_38
def cl9_40 : List (Nat × Nat × Nat × Nat) := (4, chShown, 1, 128) :: cl9_39
def cl9_41 : List (Nat × Nat × Nat × Nat) := (3, chTold, 1, 133) :: (2, 133, 20, 200) :: cl9_40
def cl9_42 : List (Nat × Nat × Nat × Nat) := (3, chRecord, 1, 134) :: (2, 134, 22, 5) :: cl9_41
def cl9_43 : List (Nat × Nat × Nat × Nat) := (3, chLastShared, 1, 135) :: (2, 135, 20, 34) :: cl9_42
def cl9_44 : List (Nat × Nat × Nat × Nat) := (3, chDrawnWeights, 1, 136) :: (2, 136, 20, 16) :: cl9_43
def cl9_45 : List (Nat × Nat × Nat × Nat) := (3, chDrawnTotals, 1, 137) :: (2, 137, 20, 16) :: cl9_44
theorem Ch_init_c {C : zC} {n0 : Nat} {a0 : Nat} {κ : zS} {Q : zS → Prop} (W : zW C n0 κ) (Ta0 : zT κ a0 = 55) (k : Nat) (hp : lgH9 k κ 2 cl9_0 ∧ a0 = k + 1) (h : ∀ (κ' : zS), (lgH9 k κ' 138 cl9_45) → Q κ') : zRun C 4 mCh_init [.ref a0] κ (oV Q noX) := by
  refine Ch_init_run W Ta0 ?_
  replace W := W.lo (Nat.le_trans W.1.2.1 W.1.2.2) (Nat.le_refl (zn κ))
  unfold w_Ch_init_0
  obtain ⟨H0, e0⟩ := hp
  subst e0
  intro κ_1 hκ_1
  intro W2
  intro T3
  have z0 : zn κ = k + 2 := H0.1
  have H1 : lgH9 k κ_1 3 cl9_1 := by rw [hκ_1]; exact lg_no9 (ci := 13) H0
  refine Ta_init_c W2 T3  (fun κ_4 q5 => ?_)
  have H4 : lgH9 k κ_4 7 cl9_2 := by
    rw [q5, z0]
    exact lg_mr9 (f := taLengths) (a := 2) (t := 20) (m := 64) (by decide) (by decide) (lg_mr9 (f := taPlaces) (a := 2) (t := 20) (m := 64) (by decide) (by decide) (lg_mr9 (f := taKinds) (a := 2) (t := 20) (m := 64) (by decide) (by decide) (lg_mr9 (f := taBytes) (a := 2) (t := 21) (m := 240) (by decide) (by decide) (H1))))
  intro W6
  intro M7
  refine ⟨?_, ?_⟩
  · rw [z0]; exact lg_ok9 H4 (by decide) (by decide +kernel) (by decide +kernel)  -- b1
  intro κ_8 hκ_8
  intro W9
  intro κ_10 hκ_10
  intro W11
  intro κ_12 hκ_12
  intro W13
  intro T14
  have H8 : lgH9 k κ_8 7 cl9_3 := by rw [hκ_8, z0]; exact lg_nf9 (w := 2) (by decide) H4
  have H10 : lgH9 k κ_10 7 cl9_4 := by rw [hκ_10, z0]; exact lg_ur9 (f := chTape) (a := 1) (v := 2) (by decide) H8
  have z10 : zn κ_10 = k + 7 := H10.1
  have H12 : lgH9 k κ_12 8 cl9_5 := by rw [hκ_12]; exact lg_no9 (ci := 5) H10
  refine Co_init_c W13 T14  (fun κ_15 q16 => ?_)
  have H15 : lgH9 k κ_15 17 cl9_6 := by
    rw [q16, z10]
    exact lg_mr9 (f := coArgs) (a := 7) (t := 20) (m := 64) (by decide) (by decide) (lg_mr9 (f := coOps) (a := 7) (t := 20) (m := 64) (by decide) (by decide) (lg_mr9 (f := coRows) (a := 7) (t := 20) (m := 88) (by decide) (by decide) (lg_mr9 (f := coOwnCounts) (a := 7) (t := 20) (m := 10) (by decide) (by decide) (lg_mr9 (f := coNameCounts) (a := 7) (t := 20) (m := 10) (by decide) (by decide) (lg_mr9 (f := coFirstStatements) (a := 7) (t := 20) (m := 10) (by decide) (by decide) (lg_mr9 (f := coArraySizes) (a := 7) (t := 20) (m := 3) (by decide) (by decide) (lg_mr9 (f := coArrayBases) (a := 7) (t := 20) (m := 3) (by decide) (by decide) (lg_mr9 (f := coVarStarts) (a := 7) (t := 20) (m := 10) (by decide) (by decide) (H12)))))))))
  intro W17
  intro M18
  refine ⟨?_, ?_⟩
  · rw [z10]; exact lg_ok9 H15 (by decide) (by decide +kernel) (by decide +kernel)  -- b2
  intro κ_19 hκ_19
  intro W20
  intro κ_21 hκ_21
  intro W22
  intro κ_23 hκ_23
  intro W24
  intro T25
  have H19 : lgH9 k κ_19 17 cl9_7 := by rw [hκ_19, z10]; exact lg_nf9 (w := 7) (by decide) H15
  have H21 : lgH9 k κ_21 17 cl9_8 := by rw [hκ_21, z10]; exact lg_ur9 (f := chCode) (a := 1) (v := 7) (by decide) H19
  have z21 : zn κ_21 = k + 17 := H21.1
  have H23 : lgH9 k κ_23 18 cl9_9 := by rw [hκ_23]; exact lg_no9 (ci := 5) H21
  refine Co_init_c W24 T25  (fun κ_26 q27 => ?_)
  have H26 : lgH9 k κ_26 27 cl9_10 := by
    rw [q27, z21]
    exact lg_mr9 (f := coArgs) (a := 17) (t := 20) (m := 64) (by decide) (by decide) (lg_mr9 (f := coOps) (a := 17) (t := 20) (m := 64) (by decide) (by decide) (lg_mr9 (f := coRows) (a := 17) (t := 20) (m := 88) (by decide) (by decide) (lg_mr9 (f := coOwnCounts) (a := 17) (t := 20) (m := 10) (by decide) (by decide) (lg_mr9 (f := coNameCounts) (a := 17) (t := 20) (m := 10) (by decide) (by decide) (lg_mr9 (f := coFirstStatements) (a := 17) (t := 20) (m := 10) (by decide) (by decide) (lg_mr9 (f := coArraySizes) (a := 17) (t := 20) (m := 3) (by decide) (by decide) (lg_mr9 (f := coArrayBases) (a := 17) (t := 20) (m := 3) (by decide) (by decide) (lg_mr9 (f := coVarStarts) (a := 17) (t := 20) (m := 10) (by decide) (by decide) (H23)))))))))
  intro W28
  intro M29
  refine ⟨?_, ?_⟩
  · rw [z21]; exact lg_ok9 H26 (by decide) (by decide +kernel) (by decide +kernel)  -- b3
  intro κ_30 hκ_30
  intro W31
  intro κ_32 hκ_32
  intro W33
  intro κ_34 hκ_34
  intro W35
  have H30 : lgH9 k κ_30 27 cl9_11 := by rw [hκ_30, z21]; exact lg_nf9 (w := 17) (by decide) H26
  have H32 : lgH9 k κ_32 27 cl9_12 := by rw [hκ_32, z21]; exact lg_ur9 (f := chSpare) (a := 1) (v := 17) (by decide) H30
  have z32 : zn κ_32 = k + 27 := H32.1
  have H34 : lgH9 k κ_34 28 cl9_13 := by rw [hκ_34]; exact lg_no9 (ci := 10) H32
  have tt := lg_t9 H34 (w := 1) (f := chTape) (r := 2) (t := 13) (by decide) (by decide +kernel)
  have tp := lg_t9 H34 (w := 1) (f := chSpare) (r := 17) (t := 5) (by decide) (by decide +kernel)
  refine ⟨?_, ?_⟩
  · exact tt.2  -- b4
  refine ⟨?_, ?_⟩
  · exact tp.2  -- b5
  intro T36
  intro T37
  intro T38
  refine Pa_init_c W35 T36 T37 T38  (fun κ_39 q40 => ?_)
  have H39 : lgH9 k κ_39 36 cl9_14 := by
    rw [q40, z32, tt.1, tp.1]
    exact lg_mr9 (f := paWaiting) (a := 27) (t := 20) (m := 16) (by decide) (by decide) (lg_mr9 (f := paElses) (a := 27) (t := 23) (m := 41) (by decide) (by decide) (lg_mr9 (f := paLasts) (a := 27) (t := 20) (m := 41) (by decide) (by decide) (lg_mr9 (f := paOwners) (a := 27) (t := 20) (m := 41) (by decide) (by decide) (lg_mr9 (f := paOwnNames) (a := 27) (t := 20) (m := 8) (by decide) (by decide) (lg_mr9 (f := paFunctionNames) (a := 27) (t := 20) (m := 10) (by decide) (by decide) (lg_mr9 (f := paArrayNames) (a := 27) (t := 20) (m := 3) (by decide) (by decide) (lg_mr9 (f := paVarNames) (a := 27) (t := 20) (m := 10) (by decide) (by decide) (lg_ur9 (f := paCode) (a := 27) (v := 17) (by decide) (lg_ur9 (f := paTape) (a := 27) (v := 2) (by decide) (H34))))))))))
  intro W41
  intro M42
  refine ⟨?_, ?_⟩
  · rw [z32]; exact lg_ok9 H39 (by decide) (by decide +kernel) (by decide +kernel)  -- b6
  intro κ_43 hκ_43
  intro W44
  intro κ_45 hκ_45
  intro W46
  intro κ_47 hκ_47
  intro W48
  have H43 : lgH9 k κ_43 36 cl9_15 := by rw [hκ_43, z32]; exact lg_nf9 (w := 27) (by decide) H39
  have H45 : lgH9 k κ_45 36 cl9_16 := by rw [hκ_45, z32]; exact lg_ur9 (f := chParser) (a := 1) (v := 27) (by decide) H43
  have z45 : zn κ_45 = k + 36 := H45.1
  have H47 : lgH9 k κ_47 37 cl9_17 := by rw [hκ_47]; exact lg_no9 (ci := 7) H45
  have tc := lg_t9 H47 (w := 1) (f := chCode) (r := 7) (t := 5) (by decide) (by decide +kernel)
  refine ⟨?_, ?_⟩
  · exact tc.2  -- b7
  intro T49
  intro T50
  refine Ma_init_c W48 T49 T50  (fun κ_51 q52 => ?_)
  have H51 : lgH9 k κ_51 42 cl9_18 := by
    rw [q52, z45, tc.1]
    exact lg_mr9 (f := maWeights) (a := 36) (t := 20) (m := 64) (by decide) (by decide) (lg_mr9 (f := maValues) (a := 36) (t := 20) (m := 64) (by decide) (by decide) (lg_mr9 (f := maWorked) (a := 36) (t := 20) (m := 16) (by decide) (by decide) (lg_mr9 (f := maStack) (a := 36) (t := 20) (m := 256) (by decide) (by decide) (lg_mr9 (f := maMemory) (a := 36) (t := 20) (m := 142) (by decide) (by decide) (lg_ur9 (f := maCode) (a := 36) (v := 7) (by decide) (H47))))))
  intro W53
  intro M54
  refine ⟨?_, ?_⟩
  · rw [z45]; exact lg_ok9 H51 (by decide) (by decide +kernel) (by decide +kernel)  -- b8
  intro κ_55 hκ_55
  intro W56
  intro κ_57 hκ_57
  intro W58
  intro κ_59 hκ_59
  intro W60
  have H55 : lgH9 k κ_55 42 cl9_19 := by rw [hκ_55, z45]; exact lg_nf9 (w := 36) (by decide) H51
  have H57 : lgH9 k κ_57 42 cl9_20 := by rw [hκ_57, z45]; exact lg_ur9 (f := chMachine) (a := 1) (v := 36) (by decide) H55
  have z57 : zn κ_57 = k + 42 := H57.1
  have H59 : lgH9 k κ_59 43 cl9_21 := by rw [hκ_59]; exact lg_no9 (ci := 3) H57
  have tm := lg_t9 H59 (w := 1) (f := chMachine) (r := 36) (t := 7) (by decide) (by decide +kernel)
  have tc2 := lg_t9 H59 (w := 1) (f := chCode) (r := 7) (t := 5) (by decide) (by decide +kernel)
  refine ⟨?_, ?_⟩
  · exact tm.2  -- b9
  refine ⟨?_, ?_⟩
  · exact tc2.2  -- b10
  intro T61
  intro T62
  intro T63
  refine At_init_c W60 T61 T62 T63  (fun κ_64 q65 => ?_)
  have H64 : lgH9 k κ_64 75 cl9_22 := by
    rw [q65, z57, tm.1, tc2.1]
    unfold iAt9
    exact lg_mr9 (f := atWeights) (a := 42) (t := 20) (m := 64) (by decide) (by decide) (lg_mr9 (f := atNumbers) (a := 42) (t := 20) (m := 64) (by decide) (by decide) (lg_mr9 (f := atSorts) (a := 42) (t := 20) (m := 64) (by decide) (by decide) (lg_mr9 (f := atHopeless) (a := 42) (t := 23) (m := 0) (by decide) (by decide) (lg_mr9 (f := atChooses) (a := 42) (t := 23) (m := 0) (by decide) (by decide) (lg_mr9 (f := atPlan) (a := 42) (t := 20) (m := 0) (by decide) (by decide) (lg_mr9 (f := atGains) (a := 42) (t := 20) (m := 0) (by decide) (by decide) (lg_mr9 (f := atTotals) (a := 42) (t := 20) (m := 0) (by decide) (by decide) (lg_mr9 (f := atFirsts) (a := 42) (t := 20) (m := 1) (by decide) (by decide) (lg_mH9 (f := atEndings) (a := 42) (x := 1000) (y := 35) (z := 2048) (by decide) (lg_mH9 (f := atStates) (a := 42) (x := 1000) (y := 142) (z := 2048) (by decide) (lg_mW9 (f := atWeb) (a := 42) (by decide) (lg_ur9 (f := atCode) (a := 42) (v := 7) (by decide) (lg_ur9 (f := atMachine) (a := 42) (v := 36) (by decide) (H59))))))))))))))
  intro W66
  intro M67
  refine ⟨?_, ?_⟩
  · rw [z57]; exact lg_ok9 H64 (by decide) (by decide +kernel) (by decide +kernel)  -- b11
  intro κ_68 hκ_68
  intro W69
  intro κ_70 hκ_70
  intro W71
  intro κ_72 hκ_72
  intro W73
  intro T74
  have H68 : lgH9 k κ_68 75 cl9_23 := by rw [hκ_68, z57]; exact lg_nf9 (w := 42) (by decide) H64
  have H70 : lgH9 k κ_70 75 cl9_24 := by rw [hκ_70, z57]; exact lg_ur9 (f := chAtlas) (a := 1) (v := 42) (by decide) H68
  have z70 : zn κ_70 = k + 75 := H70.1
  have H72 : lgH9 k κ_72 76 cl9_25 := by rw [hκ_72]; exact lg_no9 (ci := 4) H70
  refine Ca_init_c W73 T74  (fun κ_75 q76 => ?_)
  have H75 : lgH9 k κ_75 89 cl9_26 := by
    rw [q76, z70]
    exact lg_mn9 (m := 8) (f := caSpare) (a := 75) (l := 8) (by decide) (by decide) (lg_mn9 (m := 8) (f := caY) (a := 75) (l := 8) (by decide) (by decide) (lg_mn9 (m := 8) (f := caX) (a := 75) (l := 8) (by decide) (by decide) (lg_mn9 (m := 8) (f := caDivisor) (a := 75) (l := 8) (by decide) (by decide) (lg_mn9 (m := 8) (f := caRest) (a := 75) (l := 8) (by decide) (by decide) (lg_mn9 (m := 8) (f := caQuotient) (a := 75) (l := 8) (by decide) (by decide) (lg_mr9 (f := caFactors) (a := 75) (t := 22) (m := 4) (by decide) (by decide) (H72)))))))
  intro W77
  intro M78
  refine ⟨?_, ?_⟩
  · rw [z70]; exact lg_ok9 H75 (by decide) (by decide +kernel) (by decide +kernel)  -- b12
  intro κ_79 hκ_79
  intro W80
  intro x81 hx81
  intro κ_82 hκ_82
  intro W83
  have H79 : lgH9 k κ_79 89 cl9_27 := by rw [hκ_79, z70]; exact lg_nf9 (w := 75) (by decide) H75
  have z79 : zn κ_79 = k + 89 := H79.1
  have H82 : lgH9 k κ_82 90 cl9_28 := by rw [hκ_82]; exact lg_no9 (ci := 12) H79
  have ta := lg_t9 H82 (w := 1) (f := chAtlas) (r := 42) (t := 3) (by decide) (by decide +kernel)
  have x8 : x81 = k + 75 := by rw [hx81]; exact z70
  refine ⟨?_, ?_⟩
  · exact ta.2  -- b13
  intro T84
  intro T85
  intro T86
  refine So_init_c W83 T84 T85 T86  (fun κ_87 q88 => ?_)
  have H87b : lgH9 k (ur (ur κ_82 soAtlas (k + 89) (k + 42)) soCalc (k + 89) (k + 75)) 90 cl9_29 := by
    skip
    exact lg_ur9 (f := soCalc) (a := 89) (v := 75) (by decide) (lg_ur9 (f := soAtlas) (a := 89) (v := 42) (by decide) (H82))
  have tw := lg_t9 H87b (w := 42) (f := atWeb) (r := 43) (t := 14) (by decide) (by decide +kernel)
  have H87 : lgH9 k κ_87 112 cl9_30 := by
    rw [q88, z79, ta.1, x8]
    unfold iSo9 jSo9
    rw [tw.1]
    exact lg_mr9 (f := soTaken) (a := 89) (t := 20) (m := 0) (by decide) (by decide) (lg_mr9 (f := soRows) (a := 89) (t := 20) (m := 0) (by decide) (by decide) (lg_mr9 (f := soCells) (a := 89) (t := 24) (m := 0) (by decide) (by decide) (lg_mn9 (m := 4) (f := soLess) (a := 89) (l := 4) (by decide) (by decide) (lg_mn9 (m := 4) (f := soSum) (a := 89) (l := 4) (by decide) (by decide) (lg_mn9 (m := 4) (f := soTerm) (a := 89) (l := 4) (by decide) (by decide) (lg_mn9 (m := 4) (f := soScaled) (a := 89) (l := 4) (by decide) (by decide) (lg_mn9 (m := 2) (f := soFactor) (a := 89) (l := 2) (by decide) (by decide) (lg_mR9 (m := 4) (f := soPart) (a := 89) (l := 4) (by decide) (by decide) (lg_mn9 (m := 4) (f := soWhole) (a := 89) (l := 4) (by decide) (by decide) (lg_mr9 (f := soWorths) (a := 89) (t := 25) (m := 0) (by decide) (by decide) (lg_mr9 (f := soVisits) (a := 89) (t := 25) (m := 0) (by decide) (by decide) (lg_ur9 (f := soWeb) (a := 89) (v := 43) (by decide) (H87b)))))))))))))
  intro W89
  intro M90
  refine ⟨?_, ?_⟩
  · rw [z79]; exact lg_ok9 H87 (by decide) (by decide +kernel) (by decide +kernel)  -- b14
  intro κ_91 hκ_91
  intro W92
  intro κ_93 hκ_93
  intro W94
  intro κ_95 hκ_95
  intro W96
  have H91 : lgH9 k κ_91 112 cl9_31 := by rw [hκ_91, z79]; exact lg_nf9 (w := 89) (by decide) H87
  have H93 : lgH9 k κ_93 112 cl9_32 := by rw [hκ_93, z79]; exact lg_ur9 (f := chSolver) (a := 1) (v := 89) (by decide) H91
  have z93 : zn κ_93 = k + 112 := H93.1
  have H95 : lgH9 k κ_95 113 cl9_33 := by rw [hκ_95]; exact lg_no9 (ci := 9) H93
  have ta2 := lg_t9 H95 (w := 1) (f := chAtlas) (r := 42) (t := 3) (by decide) (by decide +kernel)
  have ts := lg_t9 H95 (w := 1) (f := chSolver) (r := 89) (t := 12) (by decide) (by decide +kernel)
  refine ⟨?_, ?_⟩
  · exact ta2.2  -- b15
  refine ⟨?_, ?_⟩
  · exact ts.2  -- b16
  intro T97
  intro T98
  intro T99
  intro T100
  refine Od_init_c W96 T97 T98 T99 T100  (fun κ_101 q102 => ?_)
  have H101 : lgH9 k κ_101 128 cl9_34 := by
    rw [q102, z93, ta2.1, ts.1, x8]
    unfold iOd9
    exact lg_mr9 (f := odEdges) (a := 112) (t := 24) (m := 0) (by decide) (by decide) (lg_mr9 (f := odLinks) (a := 112) (t := 20) (m := 0) (by decide) (by decide) (lg_mr9 (f := odHeads) (a := 112) (t := 20) (m := 0) (by decide) (by decide) (lg_mr9 (f := odCellOf) (a := 112) (t := 20) (m := 0) (by decide) (by decide) (lg_mr9 (f := odRanks) (a := 112) (t := 20) (m := 0) (by decide) (by decide) (lg_mr9 (f := odBases) (a := 112) (t := 20) (m := 0) (by decide) (by decide) (lg_mr9 (f := odRights) (a := 112) (t := 20) (m := 0) (by decide) (by decide) (lg_mr9 (f := odLefts) (a := 112) (t := 20) (m := 0) (by decide) (by decide) (lg_mr9 (f := odKey) (a := 112) (t := 20) (m := 3) (by decide) (by decide) (lg_mH9 (f := odGroups) (a := 112) (x := 3000) (y := 3) (z := 8192) (by decide) (lg_mn9 (m := 4) (f := odHeld) (a := 112) (l := 4) (by decide) (by decide) (lg_ur9 (f := odCalc) (a := 112) (v := 75) (by decide) (lg_ur9 (f := odSolver) (a := 112) (v := 89) (by decide) (lg_ur9 (f := odAtlas) (a := 112) (v := 42) (by decide) (H95))))))))))))))
  intro W103
  intro M104
  refine ⟨?_, ?_⟩
  · rw [z93]; exact lg_ok9 H101 (by decide) (by decide +kernel) (by decide +kernel)  -- b17
  intro κ_105 hκ_105
  intro W106
  intro κ_107 hκ_107
  intro W108
  intro κ_109 hκ_109
  intro W110
  intro T111
  have H105 : lgH9 k κ_105 128 cl9_35 := by rw [hκ_105, z93]; exact lg_nf9 (w := 112) (by decide) H101
  have H107 : lgH9 k κ_107 128 cl9_36 := by rw [hκ_107, z93]; exact lg_ur9 (f := chOdds) (a := 1) (v := 112) (by decide) H105
  have z107 : zn κ_107 = k + 128 := H107.1
  have H109 : lgH9 k κ_109 129 cl9_37 := by rw [hκ_109]; exact lg_no9 (ci := 11) H107
  refine Ra_init_c3 W110 T111  ?_ (fun κ_112 q113 => ?_)
  · decide  -- p18
  have H112 : lgH9 k κ_112 133 cl9_38 := by
    rw [q113, z107]
    exact lg_iR9 (m := 2) (w := 128) (l := 2) (by decide) (by decide) (by decide) (H109)
  intro W114
  intro M115
  refine ⟨?_, ?_⟩
  · rw [z107]; exact lg_ok9 H112 (by decide) (by decide +kernel) (by decide +kernel)  -- b19
  intro κ_116 hκ_116
  intro W117
  intro κ_118 hκ_118
  intro W119
  have H116 : lgH9 k κ_116 133 cl9_39 := by rw [hκ_116, z107]; exact lg_nf9 (w := 128) (by decide) H112
  have H118 : lgH9 k κ_118 133 cl9_40 := by rw [hκ_118, z107]; exact lg_ur9 (f := chShown) (a := 1) (v := 128) (by decide) H116
  refine ⟨?_, ?_⟩
  · exact ⟨by decide, by decide⟩  -- b20
  intro κ_120 hκ_120
  intro W121
  refine ⟨?_, ?_⟩
  · rw [hκ_120]; exact if_pos rfl  -- b21
  intro κ_122 hκ_122
  intro W123
  refine ⟨?_, ?_⟩
  · exact ⟨by decide, by decide⟩  -- b22
  intro κ_124 hκ_124
  intro W125
  refine ⟨?_, ?_⟩
  · rw [hκ_124]; exact if_pos rfl  -- b23
  intro κ_126 hκ_126
  intro W127
  refine ⟨?_, ?_⟩
  · exact ⟨by decide, by decide⟩  -- b24
  intro κ_128 hκ_128
  intro W129
  refine ⟨?_, ?_⟩
  · rw [hκ_128]; exact if_pos rfl  -- b25
  intro κ_130 hκ_130
  intro W131
  refine ⟨?_, ?_⟩
  · exact ⟨by decide, by decide⟩  -- b26
  intro κ_132 hκ_132
  intro W133
  refine ⟨?_, ?_⟩
  · rw [hκ_132]; exact if_pos rfl  -- b27
  intro κ_134 hκ_134
  intro W135
  refine ⟨?_, ?_⟩
  · exact ⟨by decide, by decide⟩  -- b28
  intro κ_136 hκ_136
  intro W137
  refine ⟨?_, ?_⟩
  · rw [hκ_136]; exact if_pos rfl  -- b29
  intro κ_138 hκ_138
  intro W139
  refine h _ ?_
  · have r122 : κ_122 = mkr9 κ_118 chTold (k + 1) 20 200 := by rw [hκ_122, hκ_120]; rfl
    have H122 : lgH9 k κ_122 134 cl9_41 := by
      rw [r122]
      exact lg_mr9 (f := chTold) (a := 1) (t := 20) (m := 200) (by decide) (by decide) (H118)
    have r126 : κ_126 = mkr9 κ_122 chRecord (k + 1) 22 5 := by rw [hκ_126, hκ_124]; rfl
    have H126 : lgH9 k κ_126 135 cl9_42 := by
      rw [r126]
      exact lg_mr9 (f := chRecord) (a := 1) (t := 22) (m := 5) (by decide) (by decide) (H122)
    have r130 : κ_130 = mkr9 κ_126 chLastShared (k + 1) 20 34 := by rw [hκ_130, hκ_128]; rfl
    have H130 : lgH9 k κ_130 136 cl9_43 := by
      rw [r130]
      exact lg_mr9 (f := chLastShared) (a := 1) (t := 20) (m := 34) (by decide) (by decide) (H126)
    have r134 : κ_134 = mkr9 κ_130 chDrawnWeights (k + 1) 20 16 := by rw [hκ_134, hκ_132]; rfl
    have H134 : lgH9 k κ_134 137 cl9_44 := by
      rw [r134]
      exact lg_mr9 (f := chDrawnWeights) (a := 1) (t := 20) (m := 16) (by decide) (by decide) (H130)
    have r138 : κ_138 = mkr9 κ_134 chDrawnTotals (k + 1) 20 16 := by rw [hκ_138, hκ_136]; rfl
    have H138 : lgH9 k κ_138 138 cl9_45 := by
      rw [r138]
      exact lg_mr9 (f := chDrawnTotals) (a := 1) (t := 20) (m := 16) (by decide) (by decide) (H134)
    exact H138
