set_option maxHeartbeats 1600000
/-! the class: ChanceWorks between calls -/
/-- tape, codes, parser -/
def chA9 (κ : zS) (a : Nat) : Prop := (taI κ (zR κ chTape a) ∧ tokI κ (zR κ chTape a)) ∧ ((coI κ (zR κ chCode a) ∧ coI κ (zR κ chSpare a)) ∧ zR κ chCode a ≠ zR κ chSpare a) ∧ ((paL κ (zR κ chParser a) ∧ paC κ (zR κ chParser a)) ∧ zR κ paTape (zR κ chParser a) = zR κ chTape a)
/-- atlas and machine -/
def chB9 (κ : zS) (a : Nat) : Prop := atI κ (zR κ chAtlas a) ∧ zR κ atMachine (zR κ chAtlas a) = zR κ chMachine a ∧ (zI κ atExplored (zR κ chAtlas a) ≠ 0 → (zR κ atCode (zR κ chAtlas a) = zR κ chCode a ∧ 0 ≤ (zI κ atNexts (zR κ chAtlas a)).toInt) ∧ ((zI κ hoTotal (zR κ atStates (zR κ chAtlas a))).toInt = 0 → enZ9 κ (zR κ chAtlas a)))
/-- solver -/
def chC9 (ρ : Nat → Nat) (κ : zS) (a : Nat) : Prop := soR9 ρ κ (zR κ chSolver a) ∧ ((zN κ (zR κ soTaken (zR κ chSolver a))) = 0 ∨ (zN κ (zR κ soTaken (zR κ chSolver a))) = 1000) ∧ (zR κ soAtlas (zR κ chSolver a) = zR κ chAtlas a ∧ zR κ soWeb (zR κ chSolver a) = zR κ atWeb (zR κ chAtlas a)) ∧ ρ (zR κ chShown a) = 30
/-- what is solved, what is planned -/
def chS9 (ρ : Nat → Nat) (κ : zS) (a : Nat) : Prop := (zI κ soSolved (zR κ chSolver a) ≠ 0 → zI κ atExplored (zR κ chAtlas a) ≠ 0 ∧ ∃ P, (0 < P ∧ P < pB9 1490) ∧ ∀ n, atW κ (zR κ chAtlas a) n → vsI9 ρ κ (zR κ chSolver a) n P ∧ n ≤ (zN κ (zR κ soVisits (zR κ chSolver a)))) ∧ (zI κ soPlanned (zR κ chSolver a) ≠ 0 → zI κ atExplored (zR κ chAtlas a) ≠ 0 ∧ ∀ n, atW κ (zR κ chAtlas a) n → n ≤ (zN κ (zR κ soWorths (zR κ chSolver a))) ∧ ∀ k, k < n → ∃ u, zQ κ (zR κ soWorths (zR κ chSolver a)) k = some u)
/-- odds -/
def chD9 (ρ : Nat → Nat) (κ : zS) (a : Nat) : Prop := (zR κ odAtlas (zR κ chOdds a) = zR κ chAtlas a ∧ zR κ odSolver (zR κ chOdds a) = zR κ chSolver a ∧ zR κ odCalc (zR κ chOdds a) = zR κ soCalc (zR κ chSolver a)) ∧ ρ (zR κ odHeld (zR κ chOdds a)) = 15 ∧ ((odU9 κ (zR κ chOdds a) ∨ tbL9 κ (zR κ chOdds a)) ∧ (zN κ (zR κ odLinks (zR κ chOdds a))) ≤ 20000) ∧ (hoI κ (zR κ odGroups (zR κ chOdds a)) 3000 3 8192 ∧ (zN κ (zR κ odKey (zR κ chOdds a))) = 3) ∧ (∀ j u, j < 31 → zQ κ (zR κ odEdges (zR κ chOdds a)) j = some u → ρ u = 2000000 + j) ∧ (zR κ atStates (zR κ chAtlas a) ≠ zR κ odGroups (zR κ chOdds a) ∧ zR κ atEndings (zR κ chAtlas a) ≠ zR κ odGroups (zR κ chOdds a))
/-- its own rows -/
def chE9 (κ : zS) (a : Nat) : Prop := ((zN κ (zR κ chTold a)) = 200 ∧ 0 ≤ (zI κ chTolds a).toInt ∧ (zI κ chTolds a).toInt ≤ 200) ∧ ((zN κ (zR κ chRecord a)) = 5 ∧ (zN κ (zR κ chLastShared a)) = 34) ∧ dwI9 κ a
/-- how many numbers and fractions there are: those of the constructors, and those in places of rows -/
def cK9 (κ : zS) (a : Nat) : Prop := nT9 8 κ ≤ 17 + (nn9 κ (zR κ soCells (zR κ chSolver a)) + nn9 κ (zR κ odEdges (zR κ chOdds a)) + 2 * zV9 κ (zR κ chSolver a)) ∧ nT9 11 κ ≤ 2 + zV9 κ (zR κ chSolver a)
theorem cK_z9 {C : zC} {n0 a : Nat} {F : Nat → Nat → Prop} {κ τ : zS} (W : zW C n0 κ) (T : zT κ a = 15) (Z : zF F κ τ) (hs : zR τ chSolver a = zR κ chSolver a) (ho : zR τ chOdds a = zR κ chOdds a) (h : ∀ b, zn κ ≤ b → ¬ F 0 b) (nS : ∀ f, f = soCells ∨ f = soVisits ∨ f = soWorths → ¬ F f (zR κ chSolver a)) (he : nn9 κ (zR κ odEdges (zR κ chOdds a)) ≤ nn9 τ (zR τ odEdges (zR κ chOdds a))) (K : cK9 κ a) : cK9 τ a := by
  have tS := ty_chSolver W T
  have v := zV_z9 W tS Z (nS _ (Or.inr (Or.inl rfl))) (nS _ (Or.inr (Or.inr rfl)))
  have c := nC_z9 W tS Z (nS _ (Or.inl rfl))
  have n8 := nT_z9 W Z h (t := 8) (by decide)
  have n11 := nT_z9 W Z h (t := 11) (by decide)
  obtain ⟨k1, k2⟩ := K
  unfold cK9
  rw [hs, ho, v, c]
  exact ⟨by omega, by omega⟩
theorem cK_k9 {C : zC} {n0 a : Nat} {F : Nat → Nat → Prop} {κ τ : zS} (W : zW C n0 κ) (T : zT κ a = 15) (Z : zF F κ τ) (hs : zR τ chSolver a = zR κ chSolver a) (ho : zR τ chOdds a = zR κ chOdds a) (ne : ¬ F odEdges (zR κ chOdds a)) (kz : zK9 κ τ (zR κ chSolver a)) (K : cK9 κ a) : cK9 τ a := by
  have e := nE_z9 W (ty_chOdds W T) Z ne
  obtain ⟨k1, k2⟩ := K
  obtain ⟨z1, z2⟩ := kz
  unfold cK9
  rw [hs, ho, e]
  exact ⟨by omega, by omega⟩
theorem cK_e9 {C : zC} {n0 a : Nat} {F : Nat → Nat → Prop} {κ τ : zS} (W : zW C n0 κ) (T : zT κ a = 15) (Z : zF F κ τ) (hs : zR τ chSolver a = zR κ chSolver a) (ho : zR τ chOdds a = zR κ chOdds a) (nS : ∀ f, f = soCells ∨ f = soVisits ∨ f = soWorths → ¬ F f (zR κ chSolver a)) (ke : zE9 κ τ (zR κ chOdds a)) (K : cK9 κ a) : cK9 τ a := by
  have tS := ty_chSolver W T
  have v := zV_z9 W tS Z (nS _ (Or.inr (Or.inl rfl))) (nS _ (Or.inr (Or.inr rfl)))
  have c := nC_z9 W tS Z (nS _ (Or.inl rfl))
  obtain ⟨k1, k2⟩ := K
  obtain ⟨z1, z2⟩ := ke
  unfold cK9
  rw [hs, ho, v, c]
  exact ⟨by omega, by omega⟩
theorem zT_o9 {C : zC} {n0 x : Nat} {κ : zS} (W : zW C n0 κ) (h : zn κ ≤ x) : zT κ x = 0 := by
  by_cases z : zT κ x = 0
  · exact z
  · have y := (W.2.1 x z).2
    omega
def chI9 (ρ : Nat → Nat) (κ : zS) (a : Nat) (L : Int) : Prop := chA9 κ a ∧ chB9 κ a ∧ chC9 ρ κ a ∧ chS9 ρ κ a ∧ chD9 ρ κ a ∧ chE9 κ a ∧ (zI κ taLength (zR κ chTape a)).toInt ≤ L ∧ cK9 κ a
theorem un_t9 {F : Nat → Nat → Prop} {κ : zS} {x K : Nat} (h : ∀ f x, F f x → zT κ x = 7 ∨ zT κ x = 13 ∨ zT κ x = 15) (T : zT κ x = K) (hK : K ≠ 7 ∧ K ≠ 13 ∧ K ≠ 15) : ∀ f, ¬ F f x := fun f z => by
  have y := h f x z
  rw [T] at y
  rcases y with y | y | y
  · exact hK.1 y
  · exact hK.2.1 y
  · exact hK.2.2 y
theorem odd_u9 {C : zC} {n0 b : Nat} {F : Nat → Nat → Prop} {κ τ : zS} (Z : zF F κ τ) (W : zW C n0 κ) (T : zT κ b = 9) (n : un9 F b 9) : (∀ f, f / 100 = 9 → zR τ f b = zR κ f b) ∧ (odU9 κ b ∨ tbL9 κ b → odU9 τ b ∨ tbL9 τ b) ∧ (zN τ (zR τ odLinks b)) = (zN κ (zR κ odLinks b)) ∧ (zN τ (zR τ odKey b)) = (zN κ (zR κ odKey b)) ∧ zQ τ (zR τ odEdges b) = zQ κ (zR κ odEdges b) := by
  have r : ∀ f, f / 100 = 9 → zR τ f b = zR κ f b := fun f hf => Z.r (n f hf)
  have e1 : zN τ (zR τ odLefts b) = zN κ (zR κ odLefts b) := by rw [r _ (by decide)]; exact Z.l (ty_odLefts W T)
  have e2 : zN τ (zR τ odRights b) = zN κ (zR κ odRights b) := by rw [r _ (by decide)]; exact Z.l (ty_odRights W T)
  have e3 : zN τ (zR τ odBases b) = zN κ (zR κ odBases b) := by rw [r _ (by decide)]; exact Z.l (ty_odBases W T)
  have e4 : zN τ (zR τ odRanks b) = zN κ (zR κ odRanks b) := by rw [r _ (by decide)]; exact Z.l (ty_odRanks W T)
  have e5 : zN τ (zR τ odCellOf b) = zN κ (zR κ odCellOf b) := by rw [r _ (by decide)]; exact Z.l (ty_odCellOf W T)
  have e6 : zN τ (zR τ odHeads b) = zN κ (zR κ odHeads b) := by rw [r _ (by decide)]; exact Z.l (ty_odHeads W T)
  have e7 : zN τ (zR τ odEdges b) = zN κ (zR κ odEdges b) := by rw [r _ (by decide)]; exact Z.l (ty_odEdges W T)
  refine ⟨r, fun h => ?_, by rw [r _ (by decide)]; exact Z.l (ty_odLinks W T), by rw [r _ (by decide)]; exact Z.l (ty_odKey W T), (Z.row W (show zr odEdges = some 24 by decide +kernel) (by decide) (T.trans (by decide)) (n _ (by decide))).2.2⟩
  unfold odU9 tbL9
  rw [e1, e2, e3, e4, e5, e6, e7]
  exact h
/-- the atlas, where neither it nor its hoards nor its web nor the code are touched -/
theorem chB_u9 {C : zC} {n0 a : Nat} {F : Nat → Nat → Prop} {κ τ : zS} (W : zW C n0 κ) (T : zT κ a = 15) (Z : zF F κ τ) (hO : ∀ f, f / 100 = 15 → f ≠ chDrawnWeights → f ≠ chDrawnTotals → zR τ f a = zR κ f a) (n3 : un9 F (zR κ chAtlas a) 3) (ns : un9 F (zR κ atStates (zR κ chAtlas a)) 6) (ne : un9 F (zR κ atEndings (zR κ chAtlas a)) 6) (nw : un9 F (zR κ atWeb (zR κ chAtlas a)) 14) (nc : zI κ atExplored (zR κ chAtlas a) ≠ 0 → un9 F (zR κ atCode (zR κ chAtlas a)) 5) (hm : maL τ (zR κ chMachine a)) (B : chB9 κ a) : chB9 τ a ∧ (∀ n, atW τ (zR κ chAtlas a) n ↔ atW κ (zR κ chAtlas a) n) ∧ (zI τ atExplored (zR κ chAtlas a) = zI κ atExplored (zR κ chAtlas a)) ∧ (∀ f, f / 100 = 3 → zR τ f (zR κ chAtlas a) = zR κ f (zR κ chAtlas a)) := by
  have tA := ty_chAtlas W T
  have g := at_u9 Z W tA (fun f hf _ => n3 f hf) (Z.r (n3 atPlan (by decide)))
  obtain ⟨⟨⟨b1, b2, b3, b4⟩, b5, ⟨b6, b7⟩, b8, b9⟩, c1, c2⟩ := B
  have M := atM_u9 g
  have S := ho_u9 (M := 1000) (D := 142) (S := 2048) Z W (ty_atStates W tA) ns
  have E := ho_u9 (M := 1000) (D := 35) (S := 2048) Z W (ty_atEndings W tA) ne
  have V := we_u9 Z W (ty_atWeb W tA) nw
  have ex : zI τ atExplored (zR κ chAtlas a) = zI κ atExplored (zR κ chAtlas a) := Z.i (n3 _ (by decide))
  have Wn : ∀ n, atW τ (zR κ chAtlas a) n ↔ atW κ (zR κ chAtlas a) n := fun n => atW_u9 g (Z.i (n3 _ (by decide))) S.2.2 E.2.2
  have r := g.1
  refine ⟨?_, Wn, ex, r⟩
  unfold chB9 atI
  rw [hO chAtlas (by decide) (by decide) (by decide), hO chMachine (by decide) (by decide) (by decide), hO chCode (by decide) (by decide) (by decide), r atMachine (by decide), r atWeb (by decide), r atStates (by decide), r atEndings (by decide), r atCode (by decide), ex, S.2.2]
  refine ⟨⟨⟨b1.elim (fun z => Or.inl (M.2.1 z)) (fun z => Or.inr (M.1 z)), M.2.2 b2, ⟨?_, ?_⟩, b4⟩, by rw [c1]; exact hm, ⟨b6.elim (fun z => Or.inl (V.2.1 z)) (fun z => Or.inr (V.1 z)), V.2.2 b7⟩, b8, fun z => ?_⟩, c1, fun z => ⟨⟨(c2 z).1.1, by rw [Z.i (n3 atNexts (by decide))]; exact (c2 z).1.2⟩, fun y => ?_⟩⟩
  · rw [r atStates (by decide)]; exact S.1 b3.1
  · rw [r atEndings (by decide)]; exact E.1 b3.2
  · obtain ⟨n, hn⟩ := b9 z
    exact ⟨n, (Wn n).mpr hn⟩
  · have K := co_u9 Z W (ty_atCode W tA) (nc z)
    intro i hi
    rw [r atCode (by decide), K.2.1, K.2.2] at hi
    rw [r atEndings (by decide), E.2.1]
    exact (c2 z).2 y i hi
/-- a call that touches the tape, the machine and own fields alone -/
theorem chI_s9 {C : zC} {n0 a : Nat} {L L' : Int} {ρ : Nat → Nat} {F : Nat → Nat → Prop} {κ τ : zS} (W : zW C n0 κ) (T : zT κ a = 15) (Z : zF F κ τ) (hT : ∀ f x, F f x → zT κ x = 7 ∨ zT κ x = 13 ∨ zT κ x = 15) (hO : ∀ f, f / 100 = 15 → f ≠ chDrawnWeights → f ≠ chDrawnTotals → zR τ f a = zR κ f a) (hta : taI τ (zR κ chTape a) ∧ tokI τ (zR κ chTape a)) (hma : maL τ (zR κ chMachine a)) (hE : chE9 τ a) (hL : (zI τ taLength (zR κ chTape a)).toInt ≤ L') (I : chI9 ρ κ a L) : chI9 ρ τ a L' := by
  obtain ⟨⟨A1, ⟨⟨A2, A3⟩, A4⟩, A5, A6⟩, B, ⟨C1, C2, C3, C4⟩, ⟨S1, S2⟩, ⟨D1, D2, D3, ⟨D4, D5⟩, D6, D7⟩, _, _, K0⟩ := I
  have tA := ty_chAtlas W T
  have tS := ty_chSolver W T
  have tO := ty_chOdds W T
  have o := fun f h1 h2 h3 => hO f h1 h2 h3
  have hB := chB_u9 W T Z hO (fun f _ => un_t9 hT tA (by decide) f) (fun f _ => un_t9 hT (ty_atStates W tA) (by decide) f) (fun f _ => un_t9 hT (ty_atEndings W tA) (by decide) f) (fun f _ => un_t9 hT (ty_atWeb W tA) (by decide) f) (fun _ f _ => un_t9 hT (ty_atCode W tA) (by decide) f) hma B
  have hS := rs_h9 W tS C1 Z (fun f w y => un_t9 hT y (by decide) f) (fun f w y => un_t9 hT y (by decide) f) (fun f w y => un_t9 hT y (by decide) f) (fun f _ _ => un_t9 hT tS (by decide) f)
  have nS : ∀ f, ¬ F f (zR κ chSolver a) := un_t9 hT tS (by decide)
  have nO : ∀ f, ¬ F f (zR κ chOdds a) := un_t9 hT tO (by decide)
  have P := pa_u9 Z W (ty_chParser W T) (fun f _ => un_t9 hT (ty_chParser W T) (by decide) f) A5
  have K1 := co_u9 Z W (ty_chCode W T) (fun f _ => un_t9 hT (ty_chCode W T) (by decide) f)
  have K2 := co_u9 Z W (ty_chSpare W T) (fun f _ => un_t9 hT (ty_chSpare W T) (by decide) f)
  have G := odd_u9 Z W tO (fun f _ => nO f)
  have H := ho_u9 (M := 3000) (D := 3) (S := 8192) Z W (ty_odGroups W tO) (fun f _ => un_t9 hT (ty_odGroups W tO) (by decide) f)
  have sv : zQ τ (zR κ soVisits (zR κ chSolver a)) = zQ κ (zR κ soVisits (zR κ chSolver a)) ∧ zN τ (zR κ soVisits (zR κ chSolver a)) = zN κ (zR κ soVisits (zR κ chSolver a)) := by
    have q := (Z.row W (show zr soVisits = some 25 by decide +kernel) (by decide) (tS.trans (by decide)) (nS _)).2.2
    rw [Z.r (nS _)] at q
    exact ⟨q, Z.l (ty_soVisits W tS)⟩
  have sw : zQ τ (zR κ soWorths (zR κ chSolver a)) = zQ κ (zR κ soWorths (zR κ chSolver a)) ∧ zN τ (zR κ soWorths (zR κ chSolver a)) = zN κ (zR κ soWorths (zR κ chSolver a)) := by
    have q := (Z.row W (show zr soWorths = some 25 by decide +kernel) (by decide) (tS.trans (by decide)) (nS _)).2.2
    rw [Z.r (nS _)] at q
    exact ⟨q, Z.l (ty_soWorths W tS)⟩
  have rS : ∀ f, zR τ f (zR κ chSolver a) = zR κ f (zR κ chSolver a) := fun f => Z.r (nS f)
  have iS : ∀ f, zI τ f (zR κ chSolver a) = zI κ f (zR κ chSolver a) := fun f => Z.i (nS f)
  refine ⟨⟨?_, ?_, ?_⟩, hB.1, ?_, ?_, ?_, hE, ?_, ?_⟩
  · rw [o chTape (by decide) (by decide) (by decide)]; exact hta
  · rw [o chCode (by decide) (by decide) (by decide), o chSpare (by decide) (by decide) (by decide)]
    exact ⟨⟨K1.1 A2, K2.1 A3⟩, A4⟩
  · rw [o chParser (by decide) (by decide) (by decide), o chTape (by decide) (by decide) (by decide)]
    exact ⟨P.1, P.2.trans A6⟩
  · unfold chC9
    rw [o chSolver (by decide) (by decide) (by decide), o chAtlas (by decide) (by decide) (by decide), o chShown (by decide) (by decide) (by decide), rS, rS, rS, Z.l (ty_soTaken W tS), hB.2.2.2 atWeb (by decide)]
    exact ⟨hS.1, C2, C3, C4⟩
  · unfold chS9
    rw [o chSolver (by decide) (by decide) (by decide), o chAtlas (by decide) (by decide) (by decide), iS, iS, rS, rS, sv.2, sw.1, sw.2, hB.2.2.1]
    refine ⟨fun z => ?_, fun z => ?_⟩
    · obtain ⟨x1, P9, x2, x3⟩ := S1 z
      refine ⟨x1, P9, x2, fun n hn => ?_⟩
      have y := x3 n ((hB.2.1 n).mp hn)
      exact ⟨vs_h9 W tS Z (fun f w y => un_t9 hT y (by decide) f) (fun f w y => un_t9 hT y (by decide) f) (fun f w y => un_t9 hT y (by decide) f) nS y.1, y.2⟩
    · obtain ⟨x1, x3⟩ := S2 z
      exact ⟨x1, fun n hn => x3 n ((hB.2.1 n).mp hn)⟩
  · unfold chD9
    rw [o chSolver (by decide) (by decide) (by decide), o chAtlas (by decide) (by decide) (by decide), o chOdds (by decide) (by decide) (by decide), G.2.2.2.2, G.2.2.1, G.2.2.2.1, G.1 odAtlas (by decide), G.1 odSolver (by decide), G.1 odCalc (by decide), G.1 odHeld (by decide), G.1 odGroups (by decide), rS, hB.2.2.2 atStates (by decide), hB.2.2.2 atEndings (by decide)]
    exact ⟨D1, D2, ⟨G.2.1 D3.1, D3.2⟩, ⟨H.1 D4, D5⟩, D6, D7⟩
  · rw [o chTape (by decide) (by decide) (by decide)]; exact hL
  · exact cK_z9 W T Z (o chSolver (by decide) (by decide) (by decide)) (o chOdds (by decide) (by decide) (by decide)) (fun b hb => un_t9 hT (zT_o9 W hb) (by decide) 0) (fun f _ => nS f) (Nat.le_of_eq (nE_z9 W tO Z (nO _)).symm) K0
