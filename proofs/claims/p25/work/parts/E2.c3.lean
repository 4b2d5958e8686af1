section
set_option maxHeartbeats 1600000
/-! the class: ChanceWorks between calls -/
/-- tape, codes, parser -/
def chA9 (κ : zS) (a : Nat) : Prop := (taI κ (zR κ chTape a) ∧ tokI κ (zR κ chTape a)) ∧ ((coI κ (zR κ chCode a) ∧ coI κ (zR κ chSpare a)) ∧ zR κ chCode a ≠ zR κ chSpare a) ∧ ((paL κ (zR κ chParser a) ∧ paC κ (zR κ chParser a)) ∧ zR κ paTape (zR κ chParser a) = zR κ chTape a)
/-- atlas and machine -/
def chB9 (κ : zS) (a : Nat) : Prop := atI κ (zR κ chAtlas a) ∧ zR κ atMachine (zR κ chAtlas a) = zR κ chMachine a ∧ (zI κ atExplored (zR κ chAtlas a) ≠ 0 → (zR κ atCode (zR κ chAtlas a) = zR κ chCode a ∧ 0 ≤ (zI κ atNexts (zR κ chAtlas a)).toInt) ∧ ((zI κ hoTotal (zR κ atStates (zR κ chAtlas a))).toInt = 0 → enZ9 κ (zR κ chAtlas a)))
/-- solver -/
def chC9 (ρ : Nat → Nat) (κ : zS) (a : Nat) : Prop := soR9 ρ κ (zR κ chSolver a) ∧ ((zN κ (zR κ soTaken (zR κ chSolver a))) = 0 ∨ (zN κ (zR κ soTaken (zR κ chSolver a))) = 1000) ∧ (zR κ soAtlas (zR κ chSolver a) = zR κ chAtlas a ∧ zR κ soWeb (zR κ chSolver a) = zR κ atWeb (zR κ chAtlas a)) ∧ ρ (zR κ chShown a) = 30
/-- what is solved, what is planned -/
def chS9 (ρ : Nat → Nat) (κ : zS) (a : Nat) : Prop := (zI κ soSolved (zR κ chSolver a) ≠ 0 → zI κ atExplored (zR κ chAtlas a) ≠ 0 ∧ ∃ P, (0 < P ∧ P < pB9 1490) ∧ ∀ n, atW κ (zR κ chAtlas a) n → vsI9 ρ κ (zR κ chSolver a) n P ∧ n ≤ (zN κ (zR κ soVisits (zR κ chSolver a)))) ∧ (zI κ soPlanned (zR κ chSolver a) ≠ 0 → zI κ atExplored (zR κ chAtlas a) ≠ 0 ∧ ∀ n, atW κ (zR κ chAtlas a) n → n ≤ (zN κ (zR κ soWorths (zR κ chSolver a))) ∧ ∀ k, k < n → ∃ u, zQ κ (zR κ soWorths (zR κ chSolver a)) k = some u)
/-- odds -/
def chD9 (ρ : Nat → Nat) (κ : zS) (a : Nat) : Prop := (zR κ odAtlas (zR κ chOdds a) = zR κ chAtlas a ∧ zR κ odSolver (zR κ chOdds a) = zR κ chSolver a ∧ zR κ odCalc (zR κ chOdds a) = zR κ soCalc (zR κ chSolver a)) ∧ ρ (zR κ odHeld (zR κ chOdds a)) = 15 ∧ ((odU9 κ (zR κ chOdds a) ∨ tbL9 κ (zR κ chOdds a)) ∧ (zN κ (zR κ odLinks (zR κ chOdds a))) ≤ 20000) ∧ (hoI κ (zR κ odGroups (zR κ chOdds a)) 3000 3 8192 ∧ (zN κ (zR κ odKey (zR κ chOdds a))) = 3) ∧ (∀ j u, j < 31 → zQ κ (zR κ odEdges (zR κ chOdds a)) j = some u → ρ u = 2000000 + j) ∧ (zR κ atStates (zR κ chAtlas a) ≠ zR κ odGroups (zR κ chOdds a) ∧ zR κ atEndings (zR κ chAtlas a) ≠ zR κ odGroups (zR κ chOdds a))
/-- its own rows -/
def chE9 (κ : zS) (a : Nat) : Prop := ((zN κ (zR κ chTold a)) = 200 ∧ 0 ≤ (zI κ chTolds a).toInt ∧ (zI κ chTolds a).toInt ≤ 200) ∧ ((zN κ (zR κ chRecord a)) = 5 ∧ (zN κ (zR κ chLastShared a)) = 34) ∧ dwI9 κ a
/-- how many numbers and fractions there are: those of the constructors, and those in places of rows -/
def cK9 (κ : zS) (a : Nat) : Prop := nT9 8 κ ≤ 17 + (nn9 κ (zR κ soCells (zR κ chSolver a)) + nn9 κ (zR κ odEdges (zR κ chOdds a)) + 2 * zV9 κ (zR κ chSolver a)) ∧ nT9 11 κ ≤ 2 + zV9 κ (zR κ chSolver a)
theorem cK_z9 {C : zC} {n0 a : Nat} {F : Nat → Nat → Prop} {κ τ : zS} (W : zW C n0 κ) (T : zT κ a = 15) (Z : zF F κ τ) (hs : zR τ chSolver a = zR κ chSolver a) (ho : zR τ chOdds a = zR κ chOdds a) (h : ∀ b, zn κ ≤ b → ¬ F 0 b) (nS : ∀ f, f = soCells ∨ f = soVisits ∨ f = soWorths → ¬ F f (zR κ chSolver a)) (he : nn9 κ (zR κ odEdges (zR κ chOdds a)) ≤ nn9 τ (zR τ odEdges (zR κ chOdds a))) (K : cK9 κ a) : cK9 τ a := by
  have tS := ty_chSolver W T
  have v := zV_z9 W tS Z (nS _ (Or.inr (Or.inl rfl))) (nS _ (Or.inr (Or.inr rfl)))
  have c := nC_z9 W tS Z (nS _ (Or.inl rfl))
  have n8 := nT_z9 W Z h (t := 8) (by decide)
  have n11 := nT_z9 W Z h (t := 11) (by decide)
  obtain ⟨k1, k2⟩ := K
  unfold cK9
  rw [hs, ho, v, c]
  exact ⟨by omega, by omega⟩
theorem cK_k9 {C : zC} {n0 a : Nat} {F : Nat → Nat → Prop} {κ τ : zS} (W : zW C n0 κ) (T : zT κ a = 15) (Z : zF F κ τ) (hs : zR τ chSolver a = zR κ chSolver a) (ho : zR τ chOdds a = zR κ chOdds a) (ne : ¬ F odEdges (zR κ chOdds a)) (kz : zK9 κ τ (zR κ chSolver a)) (K : cK9 κ a) : cK9 τ a := by
  have e := nE_z9 W (ty_chOdds W T) Z ne
  obtain ⟨k1, k2⟩ := K
  obtain ⟨z1, z2⟩ := kz
  unfold cK9
  rw [hs, ho, e]
  exact ⟨by omega, by omega⟩
theorem cK_e9 {C : zC} {n0 a : Nat} {F : Nat → Nat → Prop} {κ τ : zS} (W : zW C n0 κ) (T : zT κ a = 15) (Z : zF F κ τ) (hs : zR τ chSolver a = zR κ chSolver a) (ho : zR τ chOdds a = zR κ chOdds a) (nS : ∀ f, f = soCells ∨ f = soVisits ∨ f = soWorths → ¬ F f (zR κ chSolver a)) (ke : zE9 κ τ (zR κ chOdds a)) (K : cK9 κ a) : cK9 τ a := by
  have tS := ty_chSolver W T
  have v := zV_z9 W tS Z (nS _ (Or.inr (Or.inl rfl))) (nS _ (Or.inr (Or.inr rfl)))
  have c := nC_z9 W tS Z (nS _ (Or.inl rfl))
  obtain ⟨k1, k2⟩ := K
  obtain ⟨z1, z2⟩ := ke
  unfold cK9
  rw [hs, ho, v, c]
  exact ⟨by omega, by omega⟩
theorem zT_o9 {C : zC} {n0 x : Nat} {κ : zS} (W : zW C n0 κ) (h : zn κ ≤ x) : zT κ x = 0 := by
  by_cases z : zT κ x = 0
  · exact z
  · have y := (W.2.1 x z).2
    omega
def chI9 (ρ : Nat → Nat) (κ : zS) (a : Nat) (L : Int) : Prop := chA9 κ a ∧ chB9 κ a ∧ chC9 ρ κ a ∧ chS9 ρ κ a ∧ chD9 ρ κ a ∧ chE9 κ a ∧ (zI κ taLength (zR κ chTape a)).toInt ≤ L ∧ cK9 κ a
theorem un_t9 {F : Nat → Nat → Prop} {κ : zS} {x K : Nat} (h : ∀ f x, F f x → zT κ x = 7 ∨ zT κ x = 13 ∨ zT κ x = 15) (T : zT κ x = K) (hK : K ≠ 7 ∧ K ≠ 13 ∧ K ≠ 15) : ∀ f, ¬ F f x := fun f z => by
  have y := h f x z
  rw [T] at y
  rcases y with y | y | y
  · exact hK.1 y
  · exact hK.2.1 y
  · exact hK.2.2 y
theorem odd_u9 {C : zC} {n0 b : Nat} {F : Nat → Nat → Prop} {κ τ : zS} (Z : zF F κ τ) (W : zW C n0 κ) (T : zT κ b = 9) (n : un9 F b 9) : (∀ f, f / 100 = 9 → zR τ f b = zR κ f b) ∧ (odU9 κ b ∨ tbL9 κ b → odU9 τ b ∨ tbL9 τ b) ∧ (zN τ (zR τ odLinks b)) = (zN κ (zR κ odLinks b)) ∧ (zN τ (zR τ odKey b)) = (zN κ (zR κ odKey b)) ∧ zQ τ (zR τ odEdges b) = zQ κ (zR κ odEdges b) := by
  have r : ∀ f, f / 100 = 9 → zR τ f b = zR κ f b := fun f hf => Z.r (n f hf)
  have e1 : zN τ (zR τ odLefts b) = zN κ (zR κ odLefts b) := by rw [r _ (by decide)]; exact Z.l (ty_odLefts W T)
  have e2 : zN τ (zR τ odRights b) = zN κ (zR κ odRights b) := by rw [r _ (by decide)]; exact Z.l (ty_odRights W T)
  have e3 : zN τ (zR τ odBases b) = zN κ (zR κ odBases b) := by rw [r _ (by decide)]; exact Z.l (ty_odBases W T)
  have e4 : zN τ (zR τ odRanks b) = zN κ (zR κ odRanks b) := by rw [r _ (by decide)]; exact Z.l (ty_odRanks W T)
  have e5 : zN τ (zR τ odCellOf b) = zN κ (zR κ odCellOf b) := by rw [r _ (by decide)]; exact Z.l (ty_odCellOf W T)
  have e6 : zN τ (zR τ odHeads b) = zN κ (zR κ odHeads b) := by rw [r _ (by decide)]; exact Z.l (ty_odHeads W T)
  have e7 : zN τ (zR τ odEdges b) = zN κ (zR κ odEdges b) := by rw [r _ (by decide)]; exact Z.l (ty_odEdges W T)
  refine ⟨r, fun h => ?_, by rw [r _ (by decide)]; exact Z.l (ty_odLinks W T), by rw [r _ (by decide)]; exact Z.l (ty_odKey W T), (Z.row W (show zr odEdges = some 24 by decide +kernel) (by decide) (T.trans (by decide)) (n _ (by decide))).2.2⟩
  unfold odU9 tbL9
  rw [e1, e2, e3, e4, e5, e6, e7]
  exact h
/-- the atlas, where neither it nor its hoards nor its web nor the code are touched -/
theorem chB_u9 {C : zC} {n0 a : Nat} {F : Nat → Nat → Prop} {κ τ : zS} (W : zW C n0 κ) (T : zT κ a = 15) (Z : zF F κ τ) (hO : ∀ f, f / 100 = 15 → f ≠ chDrawnWeights → f ≠ chDrawnTotals → zR τ f a = zR κ f a) (n3 : un9 F (zR κ chAtlas a) 3) (ns : un9 F (zR κ atStates (zR κ chAtlas a)) 6) (ne : un9 F (zR κ atEndings (zR κ chAtlas a)) 6) (nw : un9 F (zR κ atWeb (zR κ chAtlas a)) 14) (nc : zI κ atExplored (zR κ chAtlas a) ≠ 0 → un9 F (zR κ atCode (zR κ chAtlas a)) 5) (hm : maL τ (zR κ chMachine a)) (B : chB9 κ a) : chB9 τ a ∧ (∀ n, atW τ (zR κ chAtlas a) n ↔ atW κ (zR κ chAtlas a) n) ∧ (zI τ atExplored (zR κ chAtlas a) = zI κ atExplored (zR κ chAtlas a)) ∧ (∀ f, f / 100 = 3 → zR τ f (zR κ chAtlas a) = zR κ f (zR κ chAtlas a)) := by
  have tA := ty_chAtlas W T
  have g := at_u9 Z W tA (fun f hf _ => n3 f hf) (Z.r (n3 atPlan (by decide)))
  obtain ⟨⟨⟨b1, b2, b3, b4⟩, b5, ⟨b6, b7⟩, b8, b9⟩, c1, c2⟩ := B
  have M := atM_u9 g
  have S := ho_u9 (M := 1000) (D := 142) (S := 2048) Z W (ty_atStates W tA) ns
  have E := ho_u9 (M := 1000) (D := 35) (S := 2048) Z W (ty_atEndings W tA) ne
  have V := we_u9 Z W (ty_atWeb W tA) nw
  have ex : zI τ atExplored (zR κ chAtlas a) = zI κ atExplored (zR κ chAtlas a) := Z.i (n3 _ (by decide))
  have Wn : ∀ n, atW τ (zR κ chAtlas a) n ↔ atW κ (zR κ chAtlas a) n := fun n => atW_u9 g (Z.i (n3 _ (by decide))) S.2.2 E.2.2
  have r := g.1
  refine ⟨?_, Wn, ex, r⟩
  unfold chB9 atI
  rw [hO chAtlas (by decide) (by decide) (by decide), hO chMachine (by decide) (by decide) (by decide), hO chCode (by decide) (by decide) (by decide), r atMachine (by decide), r atWeb (by decide), r atStates (by decide), r atEndings (by decide), r atCode (by decide), ex, S.2.2]
  refine ⟨⟨⟨b1.elim (fun z => Or.inl (M.2.1 z)) (fun z => Or.inr (M.1 z)), M.2.2 b2, ⟨?_, ?_⟩, b4⟩, by rw [c1]; exact hm, ⟨b6.elim (fun z => Or.inl (V.2.1 z)) (fun z => Or.inr (V.1 z)), V.2.2 b7⟩, b8, fun z => ?_⟩, c1, fun z => ⟨⟨(c2 z).1.1, by rw [Z.i (n3 atNexts (by decide))]; exact (c2 z).1.2⟩, fun y => ?_⟩⟩
  · rw [r atStates (by decide)]; exact S.1 b3.1
  · rw [r atEndings (by decide)]; exact E.1 b3.2
  · obtain ⟨n, hn⟩ := b9 z
    exact ⟨n, (Wn n).mpr hn⟩
  · have K := co_u9 Z W (ty_atCode W tA) (nc z)
    intro i hi
    rw [r atCode (by decide), K.2.1, K.2.2] at hi
    rw [r atEndings (by decide), E.2.1]
    exact (c2 z).2 y i hi
/-- a call that touches the tape, the machine and own fields alone -/
theorem chI_s9 {C : zC} {n0 a : Nat} {L L' : Int} {ρ : Nat → Nat} {F : Nat → Nat → Prop} {κ τ : zS} (W : zW C n0 κ) (T : zT κ a = 15) (Z : zF F κ τ) (hT : ∀ f x, F f x → zT κ x = 7 ∨ zT κ x = 13 ∨ zT κ x = 15) (hO : ∀ f, f / 100 = 15 → f ≠ chDrawnWeights → f ≠ chDrawnTotals → zR τ f a = zR κ f a) (hta : taI τ (zR κ chTape a) ∧ tokI τ (zR κ chTape a)) (hma : maL τ (zR κ chMachine a)) (hE : chE9 τ a) (hL : (zI τ taLength (zR κ chTape a)).toInt ≤ L') (I : chI9 ρ κ a L) : chI9 ρ τ a L' := by
  obtain ⟨⟨A1, ⟨⟨A2, A3⟩, A4⟩, A5, A6⟩, B, ⟨C1, C2, C3, C4⟩, ⟨S1, S2⟩, ⟨D1, D2, D3, ⟨D4, D5⟩, D6, D7⟩, _, _, K0⟩ := I
  have tA := ty_chAtlas W T
  have tS := ty_chSolver W T
  have tO := ty_chOdds W T
  have o := fun f h1 h2 h3 => hO f h1 h2 h3
  have hB := chB_u9 W T Z hO (fun f _ => un_t9 hT tA (by decide) f) (fun f _ => un_t9 hT (ty_atStates W tA) (by decide) f) (fun f _ => un_t9 hT (ty_atEndings W tA) (by decide) f) (fun f _ => un_t9 hT (ty_atWeb W tA) (by decide) f) (fun _ f _ => un_t9 hT (ty_atCode W tA) (by decide) f) hma B
  have hS := rs_h9 W tS C1 Z (fun f w y => un_t9 hT y (by decide) f) (fun f w y => un_t9 hT y (by decide) f) (fun f w y => un_t9 hT y (by decide) f) (fun f _ _ => un_t9 hT tS (by decide) f)
  have nS : ∀ f, ¬ F f (zR κ chSolver a) := un_t9 hT tS (by decide)
  have nO : ∀ f, ¬ F f (zR κ chOdds a) := un_t9 hT tO (by decide)
  have P := pa_u9 Z W (ty_chParser W T) (fun f _ => un_t9 hT (ty_chParser W T) (by decide) f) A5
  have K1 := co_u9 Z W (ty_chCode W T) (fun f _ => un_t9 hT (ty_chCode W T) (by decide) f)
  have K2 := co_u9 Z W (ty_chSpare W T) (fun f _ => un_t9 hT (ty_chSpare W T) (by decide) f)
  have G := odd_u9 Z W tO (fun f _ => nO f)
  have H := ho_u9 (M := 3000) (D := 3) (S := 8192) Z W (ty_odGroups W tO) (fun f _ => un_t9 hT (ty_odGroups W tO) (by decide) f)
  have sv : zQ τ (zR κ soVisits (zR κ chSolver a)) = zQ κ (zR κ soVisits (zR κ chSolver a)) ∧ zN τ (zR κ soVisits (zR κ chSolver a)) = zN κ (zR κ soVisits (zR κ chSolver a)) := by
    have q := (Z.row W (show zr soVisits = some 25 by decide +kernel) (by decide) (tS.trans (by decide)) (nS _)).2.2
    rw [Z.r (nS _)] at q
    exact ⟨q, Z.l (ty_soVisits W tS)⟩
  have sw : zQ τ (zR κ soWorths (zR κ chSolver a)) = zQ κ (zR κ soWorths (zR κ chSolver a)) ∧ zN τ (zR κ soWorths (zR κ chSolver a)) = zN κ (zR κ soWorths (zR κ chSolver a)) := by
    have q := (Z.row W (show zr soWorths = some 25 by decide +kernel) (by decide) (tS.trans (by decide)) (nS _)).2.2
    rw [Z.r (nS _)] at q
    exact ⟨q, Z.l (ty_soWorths W tS)⟩
  have rS : ∀ f, zR τ f (zR κ chSolver a) = zR κ f (zR κ chSolver a) := fun f => Z.r (nS f)
  have iS : ∀ f, zI τ f (zR κ chSolver a) = zI κ f (zR κ chSolver a) := fun f => Z.i (nS f)
  refine ⟨⟨?_, ?_, ?_⟩, hB.1, ?_, ?_, ?_, hE, ?_, ?_⟩
  · rw [o chTape (by decide) (by decide) (by decide)]; exact hta
  · rw [o chCode (by decide) (by decide) (by decide), o chSpare (by decide) (by decide) (by decide)]
    exact ⟨⟨K1.1 A2, K2.1 A3⟩, A4⟩
  · rw [o chParser (by decide) (by decide) (by decide), o chTape (by decide) (by decide) (by decide)]
    exact ⟨P.1, P.2.trans A6⟩
  · unfold chC9
    rw [o chSolver (by decide) (by decide) (by decide), o chAtlas (by decide) (by decide) (by decide), o chShown (by decide) (by decide) (by decide), rS, rS, rS, Z.l (ty_soTaken W tS), hB.2.2.2 atWeb (by decide)]
    exact ⟨hS.1, C2, C3, C4⟩
  · unfold chS9
    rw [o chSolver (by decide) (by decide) (by decide), o chAtlas (by decide) (by decide) (by decide), iS, iS, rS, rS, sv.2, sw.1, sw.2, hB.2.2.1]
    refine ⟨fun z => ?_, fun z => ?_⟩
    · obtain ⟨x1, P9, x2, x3⟩ := S1 z
      refine ⟨x1, P9, x2, fun n hn => ?_⟩
      have y := x3 n ((hB.2.1 n).mp hn)
      exact ⟨vs_h9 W tS Z (fun f w y => un_t9 hT y (by decide) f) (fun f w y => un_t9 hT y (by decide) f) (fun f w y => un_t9 hT y (by decide) f) nS y.1, y.2⟩
    · obtain ⟨x1, x3⟩ := S2 z
      exact ⟨x1, fun n hn => x3 n ((hB.2.1 n).mp hn)⟩
  · unfold chD9
    rw [o chSolver (by decide) (by decide) (by decide), o chAtlas (by decide) (by decide) (by decide), o chOdds (by decide) (by decide) (by decide), G.2.2.2.2, G.2.2.1, G.2.2.2.1, G.1 odAtlas (by decide), G.1 odSolver (by decide), G.1 odCalc (by decide), G.1 odHeld (by decide), G.1 odGroups (by decide), rS, hB.2.2.2 atStates (by decide), hB.2.2.2 atEndings (by decide)]
    exact ⟨D1, D2, ⟨G.2.1 D3.1, D3.2⟩, ⟨H.1 D4, D5⟩, D6, D7⟩
  · rw [o chTape (by decide) (by decide) (by decide)]; exact hL
  · exact cK_z9 W T Z (o chSolver (by decide) (by decide) (by decide)) (o chOdds (by decide) (by decide) (by decide)) (fun b hb => un_t9 hT (zT_o9 W hb) (by decide) 0) (fun f _ => nS f) (Nat.le_of_eq (nE_z9 W tO Z (nO _)).symm) K0

end
section
set_option maxHeartbeats 1600000
/-! the class: ChanceWorks' calls that touch the tape and its own fields alone -/
/-- the tape's bytes and their number -/
def twF9 (t : Nat) : Nat → Nat → Prop := fun f b => b = t ∧ (f = taLength ∨ f = taBytes)
theorem Ta_widen_c2 {C : zC} {n0 : Nat} {a0 : Nat} {a1 : Int32} {κ : zS} {Q : zS → Prop} (W : zW C n0 κ) (Ta0 : zT κ a0 = 13)  (hp : taI κ a0 ∧ 0 ≤ a1.toInt ∧ a1.toInt ≤ 10240) (h : ∀ (κ' : zS), (zF (oneF taBytes a0) κ κ' ∧ taI κ' a0 ∧ zI κ' = zI κ ∧ a1.toInt ≤ (zN κ' (zR κ' taBytes a0)) ∧ (zN κ (zR κ taBytes a0)) ≤ (zN κ' (zR κ' taBytes a0)) ∧ (∀ j, j < zN κ (zR κ taBytes a0) → zA κ' (zR κ' taBytes a0) j = zA κ (zR κ taBytes a0) j)) → Q κ') : zRun C 2 mTa_widen [.ref a0, .int a1] κ (oV Q noX) := by
  refine Ta_widen_run W Ta0 ?_
  replace W := W.lo (Nat.le_trans W.1.2.1 W.1.2.2) (Nat.le_refl (zn κ))
  unfold w_Ta_widen_0
  obtain ⟨H, p0, p1⟩ := hp
  have B := H.1
  have bN := W.n (ty_taBytes W Ta0)
  refine ⟨fun c1 => ?_, fun c1 => ?_⟩
  · skip
    refine h _ ?_
    · rw [lei, ofn_i bN] at c1
      exact ⟨zF.rf, H, rfl, c1, Nat.le_refl _, fun _ _ => rfl⟩
  · skip
    intro T2
    have c9 : (zN κ (zR κ taBytes a0) : Int) < a1.toInt := by rw [lei, ofn_i bN] at c1; omega
    have e2 : (a1 * 2).toInt = a1.toInt * 2 := by rw [mul_i (by rw [t2i]; omega) (by rw [t2i]; omega), t2i]
    have kn := cnk (x := a1 * 2) (by omega)
    refine Ar_copyOfB_c W T2  ?_ (fun r3 κ_4 q5 => ?_)
    · exact ⟨⟨by rw [lei, t0i]; omega, by omega⟩, fun e => by
        have e9 := congrArg Int32.toInt e
        rw [ofn_i bN] at e9
        omega⟩
    intro W6
    intro M7
    intro T8
    refine ⟨?_, ?_⟩
    · rw [q5.1]; exact q5.2.2.1  -- b3
    intro κ_9 hκ_9
    intro W10
    refine h _ ?_
    · have h9 : κ_9 = uo κ_4 taBytes a0 (zn κ) := by rw [hκ_9, q5.1]
      obtain ⟨F9, u1, u2, u3, u4, u5, -⟩ := gr_f (f := taBytes) W (by decide +kernel) (by decide) Ta0 (by decide) q5.2 h9 (by omega) (by omega)
      refine ⟨F9, ?_, u1, ?_, ?_, fun j hj => ?_⟩
      · unfold taI
        rw [u1, u3, u4, u2 taKinds a0 (fun z => absurd z.1 (by decide)), u2 taPlaces a0 (fun z => absurd z.1 (by decide)), u2 taLengths a0 (fun z => absurd z.1 (by decide)), (u5 _ _ (ty_taKinds W Ta0)).1, (u5 _ _ (ty_taPlaces W Ta0)).1, (u5 _ _ (ty_taLengths W Ta0)).1]
        exact ⟨⟨H.1.1, by omega, by omega, by omega⟩, H.2⟩
      · rw [u3, u4]; omega
      · rw [u3, u4]; omega
      · rw [u3, h9]
        exact q5.2.2.2.1 j (by omega) hj

/-- bytes written of a word -/
def adI9 (κ : zS) (a0 : Nat) (w : Int32) (k : Int) (τ : zS) : Prop := (∀ j, j < (zI κ taLength a0).toInt.toNat → zA τ (zR τ taBytes a0) j = zA κ (zR κ taBytes a0) j) ∧ (∀ i : Nat, (i : Int) < k → zA τ (zR τ taBytes a0) ((zI κ taLength a0).toInt.toNat + i) = bw9 w i)
theorem ad_09 {κ : zS} {a0 : Nat} {w : Int32} : adI9 κ a0 w ((24 - (24 : Int32).toInt) / 8) κ := ⟨fun _ _ => rfl, fun i hi => absurd hi (by show ¬ (i : Int) < 0; omega)⟩
theorem ua_99 {κ : zS} {r i j : Nat} {x : Int32} : zA (ua κ r i x) r j = if j = i then x else zA κ r j := by
  show (if r = r then upd (κ.2.2.2.2.1 r) i x else κ.2.2.2.2.1 r) j = _
  rw [if_pos rfl]
  unfold upd
  rfl
theorem bw_99 {w l : Int32} {i : Nat} (h0 : 0 ≤ l.toInt) (h1 : l.toInt ≤ 24) (h2 : l.toInt % 8 = 0) (hi : (i : Int) = (24 - l.toInt) / 8) : vp_nar .byte (Int8.toInt32 (Int32.toInt8 (w >>> (l &&& 31)))) = bw9 w i := by
  have e : l = (24 : Int32) - 8 * Int32.ofNat i := by
    have k : l.toInt = 24 ∨ l.toInt = 16 ∨ l.toInt = 8 ∨ l.toInt = 0 := by omega
    rcases k with k | k | k | k
    · have q : i = 0 := by omega
      rw [q]; exact Int32.toInt_inj.mp (k.trans rfl)
    · have q : i = 1 := by omega
      rw [q]; exact Int32.toInt_inj.mp (k.trans rfl)
    · have q : i = 2 := by omega
      rw [q]; exact Int32.toInt_inj.mp (k.trans rfl)
    · have q : i = 3 := by omega
      rw [q]; exact Int32.toInt_inj.mp (k.trans rfl)
  unfold bw9
  rw [← e]
theorem ad_s9 {κ τ υ : zS} {a0 : Nat} {w l : Int32} (hl : 0 ≤ (zI κ taLength a0).toInt) (h1 : l.toInt ≤ 24) (h0 : ¬ l.toInt < 0) (h2 : l.toInt % 8 = 0) (hN : (zI τ taLength a0).toInt ≤ 67108864) (ml : (zI τ taLength a0).toInt * 8 = (zI κ taLength a0).toInt * 8 + (24 - l.toInt)) (mR : zR τ = zR κ) (h : adI9 κ a0 w ((24 - l.toInt) / 8) τ) (hu : ∀ j, zA υ (zR υ taBytes a0) j = if j = (zI τ taLength a0).toNatClampNeg then vp_nar .byte (Int8.toInt32 (Int32.toInt8 (w >>> (l &&& 31)))) else zA τ (zR τ taBytes a0) j) : adI9 κ a0 w ((24 - (l.toInt - 8)) / 8) υ := by
  have ci : (zI τ taLength a0).toNatClampNeg = (zI κ taLength a0).toInt.toNat + ((24 - l.toInt) / 8).toNat := by
    have z := cnk (x := zI τ taLength a0) (by omega)
    omega
  refine ⟨fun j hj => ?_, fun i hi => ?_⟩
  · rw [hu, if_neg (by omega)]
    exact h.1 j hj
  · rw [hu]
    by_cases q : (i : Int) = (24 - l.toInt) / 8
    · rw [if_pos (by omega)]
      exact bw_99 (by omega) h1 h2 q
    · rw [if_neg (by omega)]
      exact h.2 i (by omega)
theorem Ta_addWord_c2 {C : zC} {n0 : Nat} {a0 : Nat} {a1 : Int32} {κ : zS} {Q : zS → Prop} (W : zW C n0 κ) (Ta0 : zT κ a0 = 13)  (hp : taI κ a0 ∧ (zI κ taLength a0).toInt + 4 ≤ (zN κ (zR κ taBytes a0))) (h : ∀ (κ' : zS), (zF (twF9 a0) κ κ' ∧ taI κ' a0 ∧ zR κ' = zR κ ∧ zN κ' = zN κ ∧ (zI κ' taLength a0).toInt = (zI κ taLength a0).toInt + 4 ∧ (∀ f, f ≠ taLength → zI κ' f a0 = zI κ f a0) ∧ adI9 κ a0 a1 4 κ') → Q κ') : zRun C 0 mTa_addWord [.ref a0, .int a1] κ (oV Q noX) := by
  refine Ta_addWord_run W Ta0 ?_
  replace W := W.lo (Nat.le_trans W.1.2.1 W.1.2.2) (Nat.le_refl (zn κ))
  unfold w_Ta_addWord_0
  obtain ⟨H, p0⟩ := hp
  have B := H.1
  have bN := W.n (ty_taBytes W Ta0)
  unfold w_Ta_addWord_3
  refine ⟨fun n l0 l1 l2 τ => n = (l2.toInt + 8).toNat ∧ (a0 = l0 ∧ a1 = l1 ∧ (-8 ≤ l2.toInt ∧ l2.toInt ≤ 24 ∧ l2.toInt % 8 = 0) ∧ zF (twF9 a0) κ τ ∧ zR τ = zR κ ∧ zN τ = zN κ ∧ (∀ f, f ≠ taLength → zI τ f a0 = zI κ f a0) ∧ (zI τ taLength a0).toInt * 8 = (zI κ taLength a0).toInt * 8 + (24 - l2.toInt) ∧ adI9 κ a0 a1 ((24 - l2.toInt) / 8) τ), ⟨_, rfl, ?_⟩, ?_⟩
  · exact ⟨rfl, rfl, by decide, zF.rf, rfl, rfl, fun _ _ => rfl, by show _ = _ + ((24 : Int) - 24); omega, ad_09⟩  -- j1
  rintro n3 _ _ x3_2 κ3 W3 T3_0 ⟨hn3, rfl, rfl, i3⟩
  obtain ⟨⟨m0, m1, m2⟩, F, mR, mN, mI, ml, mA⟩ := i3
  refine ⟨fun c1 => ?_, fun c1 => ?_⟩
  · skip
    refine h _ ?_
    · rw [lti, t0i] at c1
      have e : (zI κ3 taLength a0).toInt = (zI κ taLength a0).toInt + 4 := by omega
      have e8 : x3_2.toInt = -8 := by omega
      rw [e8, show ((24 : Int) - -8) / 8 = 4 by decide] at mA
      refine ⟨F, ?_, mR, mN, e, mI, mA⟩
      unfold taI
      rw [mR, mN, e, mI taTotal (by decide)]
      exact ⟨⟨by omega, by omega, H.1.2.2⟩, H.2⟩
  · skip
    refine ⟨fun c2 => ?_, fun c2 => ?_⟩
    · skip
      refine h _ ?_
      · exfalso
        rw [lti, t0i] at c1
        rw [mR, mN, lei, ofn_i bN] at c2
        omega
    · skip
      refine ⟨?_, ?_⟩
      · rw [lti, t0i] at c1
        rw [mR, mN, lei, ofn_i bN] at c2
        rw [mR, mN, inb_iff]
        omega
      intro κ_3 hκ_3
      intro W4
      intro κ_5 hκ_5
      intro W6
      intro x7 hx7
      rw [lti, t0i] at c1
      have f8 : (-8 : Int32).toInt = -8 := rfl
      have e7 : x7.toInt = x3_2.toInt - 8 := by rw [hx7, add_i (by rw [f8]; omega) (by rw [f8]; omega), f8]; omega
      refine ⟨_, ?_, rfl, ?_⟩
      · rw [hn3, e7]; omega  -- d5
      · have f1 : zF (twF9 a0) κ3 κ_3 := by rw [hκ_3]; exact zF_ua (by rw [ow_taBytes W3 T3_0]; exact ⟨rfl, Or.inr rfl⟩)
        have f2 : zF (twF9 a0) κ_3 κ_5 := by rw [hκ_5]; exact zF_ui ⟨rfl, Or.inl rfl⟩
        have i3 : zI κ_3 = zI κ3 := by rw [hκ_3]; rfl
        have is : zI κ_5 taLength a0 = zI κ3 taLength a0 + 1 := by
          rw [hκ_5]
          refine (if_pos ⟨rfl, rfl⟩).trans ?_
          rw [i3]
        have ts : (zI κ_5 taLength a0).toInt = (zI κ3 taLength a0).toInt + 1 := by rw [is, add_i (by rw [t1i]; omega) (by rw [t1i]; omega), t1i]
        refine ⟨rfl, rfl, ⟨by omega, by omega, by omega⟩, (F.tr f1).tr f2, by rw [hκ_5, hκ_3]; exact mR, by rw [hκ_5, hκ_3]; exact mN, fun f hf => ?_, by rw [ts]; omega, ?_⟩
        · rw [hκ_5]
          exact (if_neg (fun z => hf z.1)).trans ((congrFun (congrFun i3 f) a0).trans (mI f hf))
        · rw [e7]
          exact ad_s9 (by omega) m1 c1 m2 (by omega) ml mR mA (fun j => by rw [hκ_5, hκ_3]; exact ua_99)


theorem tw_9 {C : zC} {n0 t : Nat} {κ τ : zS} (W : zW C n0 κ) (T : zT κ t = 13) (Z : zF (twF9 t) κ τ) (h : (zN κ (zR κ taBytes t)) ≤ (zN τ (zR τ taBytes t))) (H : tokI κ t) : tokI τ t := by
  have n : ∀ f, f ≠ taLength → f ≠ taBytes → ¬ twF9 t f t := fun f h1 h2 z => z.2.elim h1 h2
  have p := (Z.row W (show zr taPlaces = some 20 by decide +kernel) (by decide) T (n taPlaces (by decide) (by decide))).1
  have l := (Z.row W (show zr taLengths = some 20 by decide +kernel) (by decide) T (n taLengths (by decide) (by decide))).1
  unfold tokI
  rw [p, l, Z.r (n taKinds (by decide) (by decide)), Z.l (ty_taKinds W T)]
  intro i hi
  have y := H i hi
  exact ⟨y.1, y.2.1, by omega⟩
theorem chE_u9 {C : zC} {n0 a : Nat} {F : Nat → Nat → Prop} {κ τ : zS} (W : zW C n0 κ) (T : zT κ a = 15) (Z : zF F κ τ) (n : un9 F a 15) (E : chE9 κ a) : chE9 τ a ∧ (∀ f, f / 100 = 15 → zR τ f a = zR κ f a) ∧ zI τ chTolds a = zI κ chTolds a := by
  have r : ∀ f, f / 100 = 15 → zR τ f a = zR κ f a := fun f hf => Z.r (n f hf)
  have i : zI τ chTolds a = zI κ chTolds a := Z.i (n _ (by decide))
  refine ⟨?_, r, i⟩
  unfold chE9 dwI9
  rw [r chTold (by decide), r chRecord (by decide), r chLastShared (by decide), r chDrawnWeights (by decide), r chDrawnTotals (by decide), i, Z.l (ty_chTold W T), Z.l (ty_chRecord W T), Z.l (ty_chLastShared W T), Z.l (ty_chDrawnWeights W T), Z.l (ty_chDrawnTotals W T)]
  exact E
/-- a call that touches the tape's bytes alone -/
theorem chI_t9 {C : zC} {n0 a : Nat} {L L' : Int} {ρ : Nat → Nat} {κ τ : zS} (W : zW C n0 κ) (T : zT κ a = 15) (Z : zF (twF9 (zR κ chTape a)) κ τ) (h : (zN κ (zR κ taBytes (zR κ chTape a))) ≤ (zN τ (zR τ taBytes (zR κ chTape a)))) (hta : taI τ (zR κ chTape a)) (hL : (zI τ taLength (zR κ chTape a)).toInt ≤ L') (I : chI9 ρ κ a L) : chI9 ρ τ a L' ∧ zI τ chTolds a = zI κ chTolds a := by
  have tt := ty_chTape W T
  have tm := ty_chMachine W T
  have un : ∀ x K, zT κ x = K → K ≠ 13 → un9 (twF9 (zR κ chTape a)) x K := fun x K h1 h2 f _ z => by
    rw [z.1, tt] at h1
    exact h2 h1.symm
  have E := chE_u9 W T Z (un a 15 T (by decide)) I.2.2.2.2.2.1
  have ma : maL κ (zR κ chMachine a) := by
    have y := I.2.1.1.2.1
    rw [I.2.1.2.1] at y
    exact y
  refine ⟨chI_s9 W T Z (fun f x z => Or.inr (Or.inl (by rw [z.1]; exact tt))) (fun f hf _ _ => E.2.1 f hf) ⟨hta, tw_9 W tt Z h I.1.1.2⟩ (ma_u9 Z W tm (un _ 7 tm (by decide)) ma) E.1 hL I, E.2.2⟩
/-- on the way of feed -/
def fdI9 (G : Nat → Int32) (κ τ : zS) (t : Nat) (k : Int) : Prop := ((∀ j, j < (zI κ taLength t).toInt.toNat → zA τ (zR τ taBytes t) j = zA κ (zR κ taBytes t) j) ∧ (∀ i : Nat, (i : Int) < k → zA τ (zR τ taBytes t) ((zI κ taLength t).toInt.toNat + i) = G i)) ∧ zF (twF9 t) κ τ ∧ taI τ t ∧ (zI τ taLength t).toInt = (zI κ taLength t).toInt + k ∧ ((zI κ taLength t).toInt + 20 ≤ (zN τ (zR τ taBytes t)) ∧ (zN κ (zR κ taBytes t)) ≤ (zN τ (zR τ taBytes t)))
theorem fd_s9 {G : Nat → Int32} {w : Int32} {κ τ σ : zS} {t : Nat} {k m : Int} (hl : 0 ≤ (zI κ taLength t).toInt) (hk : 0 ≤ k) (hG : ∀ i, i < 4 → G (k.toNat + i) = bw9 w i) (I : fdI9 G κ τ t k) (hm : m = k + 4) (q : zF (twF9 t) τ σ ∧ taI σ t ∧ zR σ = zR τ ∧ zN σ = zN τ ∧ (zI σ taLength t).toInt = (zI τ taLength t).toInt + 4 ∧ (∀ f, f ≠ taLength → zI σ f t = zI τ f t) ∧ adI9 τ t w 4 σ) : fdI9 G κ σ t m := by
  obtain ⟨⟨y1, y2⟩, Z, A, l, b1, b2⟩ := I
  have qa := q.2.2.2.2.2.2
  have yb : (∀ j, j < (zI κ taLength t).toInt.toNat → zA σ (zR σ taBytes t) j = zA κ (zR κ taBytes t) j) ∧ (∀ i : Nat, (i : Int) < m → zA σ (zR σ taBytes t) ((zI κ taLength t).toInt.toNat + i) = G i) := by
    refine ⟨fun j hj => (qa.1 j (by omega)).trans (y1 j hj), fun i hi => ?_⟩
    by_cases c : (i : Int) < k
    · exact (qa.1 _ (by omega)).trans (y2 i c)
    · have z := qa.2 (i - k.toNat) (by omega)
      have z2 := hG (i - k.toNat) (by omega)
      rw [show (zI τ taLength t).toInt.toNat + (i - k.toNat) = (zI κ taLength t).toInt.toNat + i by omega] at z
      rw [show k.toNat + (i - k.toNat) = i by omega] at z2
      exact z.trans z2.symm
  refine ⟨yb, Z.tr q.1, q.2.1, by rw [q.2.2.2.2.1]; omega, ?_⟩
  rw [q.2.2.1, q.2.2.2.1]
  exact ⟨b1, b2⟩
theorem tw_r9 {κ τ : zS} {t a : Nat} (Z : zF (twF9 t) κ τ) : zR τ chTape a = zR κ chTape a := Z.r (fun z => z.2.elim (fun y => absurd y (by decide)) (fun y => absurd y (by decide)))
theorem by9_0 {a1 a2 a3 a4 a5 : Int32} {i : Nat} (hi : i < 4) : by9 a1 a2 a3 a4 a5 ((0 : Int).toNat + i) = bw9 a1 i := by
  have k : i = 0 ∨ i = 1 ∨ i = 2 ∨ i = 3 := by omega
  rcases k with rfl | rfl | rfl | rfl <;> rfl
theorem by9_1 {a1 a2 a3 a4 a5 : Int32} {i : Nat} (hi : i < 4) : by9 a1 a2 a3 a4 a5 ((4 : Int).toNat + i) = bw9 a2 i := by
  have k : i = 0 ∨ i = 1 ∨ i = 2 ∨ i = 3 := by omega
  rcases k with rfl | rfl | rfl | rfl <;> rfl
theorem by9_2 {a1 a2 a3 a4 a5 : Int32} {i : Nat} (hi : i < 4) : by9 a1 a2 a3 a4 a5 ((8 : Int).toNat + i) = bw9 a3 i := by
  have k : i = 0 ∨ i = 1 ∨ i = 2 ∨ i = 3 := by omega
  rcases k with rfl | rfl | rfl | rfl <;> rfl
theorem by9_3 {a1 a2 a3 a4 a5 : Int32} {i : Nat} (hi : i < 4) : by9 a1 a2 a3 a4 a5 ((12 : Int).toNat + i) = bw9 a4 i := by
  have k : i = 0 ∨ i = 1 ∨ i = 2 ∨ i = 3 := by omega
  rcases k with rfl | rfl | rfl | rfl <;> rfl
theorem by9_4 {a1 a2 a3 a4 a5 : Int32} {i : Nat} (hi : i < 4) : by9 a1 a2 a3 a4 a5 ((16 : Int).toNat + i) = bw9 a5 i := by
  have k : i = 0 ∨ i = 1 ∨ i = 2 ∨ i = 3 := by omega
  rcases k with rfl | rfl | rfl | rfl <;> rfl
theorem Ch_feed_c {C : zC} {n0 : Nat} {a0 : Nat} {a1 : Int32} {a2 : Int32} {a3 : Int32} {a4 : Int32} {a5 : Int32} {κ : zS} {Q : Int32 → zS → Prop} {X : zXp} (W : zW C n0 κ) (Ta0 : zT κ a0 = 15) (ρ : Nat → Nat) (L9 : Int) (hp : chI9 ρ κ a0 L9 ∧ L9 ≤ 10220) (h : ∀ (v : Int32) (κ' : zS), (chI9 ρ κ' a0 (L9 + 20) ∧ (∃ F, zF F κ κ') ∧ ((oC9 κ' a0 = fdO9 (oC9 κ a0) (by9 a1 a2 a3 a4 a5) ∧ kC7 κ κ' a0) ∧ kA8 κ κ' a0)) → Q v κ') (hx : ∀ (cls : String) (κ' : zS), (False) → X cls κ') : zRun C 8 mCh_feed [.ref a0, .int a1, .int a2, .int a3, .int a4, .int a5] κ (oI Q X) := by
  refine Ch_feed_run W Ta0 ?_
  replace W := W.lo (Nat.le_trans W.1.2.1 W.1.2.2) (Nat.le_refl (zn κ))
  unfold w_Ch_feed_0
  obtain ⟨I, l9⟩ := hp
  have A := I.1.1
  have B := A.1.1
  have hl := I.2.2.2.2.2.2.1
  have e20 : (20 : Int32).toInt = 20 := rfl
  have el : (zI κ taLength (zR κ chTape a0) + 20).toInt = (zI κ taLength (zR κ chTape a0)).toInt + 20 := by rw [add_i (by rw [e20]; omega) (by rw [e20]; omega), e20]
  refine ⟨fun c1 => ?_, fun c1 => ?_⟩
  · skip
    intro T2
    refine Ta_widen_c2 W T2  ?_ (fun κ_3 q4 => ?_)
    · exact ⟨A.1, by omega, by omega⟩  -- p1
    intro W5
    intro M6
    intro T7
    have J0 : fdI9 (by9 a1 a2 a3 a4 a5) κ κ_3 (zR κ chTape a0) 0 := ⟨⟨fun j hj => q4.2.2.2.2.2 j (by omega), fun i hi => absurd hi (by omega)⟩, q4.1.mono (fun f b z => ⟨z.2, Or.inr z.1⟩), q4.2.1, by rw [q4.2.2.1]; omega, by have y := q4.2.2.2.1; omega, q4.2.2.2.2.1⟩
    rw [tw_r9 J0.2.1] at T7 ⊢
    refine Ta_addWord_c2 W5 T7  ?_ (fun κ_8 q9 => ?_)
    · exact ⟨J0.2.2.1, by have y := J0.2.2.2; omega⟩  -- p2
    intro W10
    intro M11
    intro T12
    have J1 := fd_s9 (m := 4) (w := a1) (by omega) (by omega) (fun i hi => by9_0 hi) J0 (by omega) q9
    rw [tw_r9 J1.2.1] at T12 ⊢
    refine Ta_addWord_c2 W10 T12  ?_ (fun κ_13 q14 => ?_)
    · exact ⟨J1.2.2.1, by have y := J1.2.2.2; omega⟩  -- p3
    intro W15
    intro M16
    intro T17
    have J2 := fd_s9 (m := 8) (w := a2) (by omega) (by omega) (fun i hi => by9_1 hi) J1 (by omega) q14
    rw [tw_r9 J2.2.1] at T17 ⊢
    refine Ta_addWord_c2 W15 T17  ?_ (fun κ_18 q19 => ?_)
    · exact ⟨J2.2.2.1, by have y := J2.2.2.2; omega⟩  -- p4
    intro W20
    intro M21
    intro T22
    have J3 := fd_s9 (m := 12) (w := a3) (by omega) (by omega) (fun i hi => by9_2 hi) J2 (by omega) q19
    rw [tw_r9 J3.2.1] at T22 ⊢
    refine Ta_addWord_c2 W20 T22  ?_ (fun κ_23 q24 => ?_)
    · exact ⟨J3.2.2.1, by have y := J3.2.2.2; omega⟩  -- p5
    intro W25
    intro M26
    intro T27
    have J4 := fd_s9 (m := 16) (w := a4) (by omega) (by omega) (fun i hi => by9_3 hi) J3 (by omega) q24
    rw [tw_r9 J4.2.1] at T27 ⊢
    refine Ta_addWord_c2 W25 T27  ?_ (fun κ_28 q29 => ?_)
    · exact ⟨J4.2.2.1, by have y := J4.2.2.2; omega⟩  -- p6
    intro W30
    intro M31
    refine h _ _ ?_
    · have J5 := fd_s9 (m := 20) (w := a5) (by omega) (by omega) (fun i hi => by9_4 hi) J4 (by omega) q29
      have R := chI_t9 (L' := L9 + 20) W Ta0 J5.2.1 J5.2.2.2.2.2 J5.2.2.1 (by have y := J5.2.2.2.1; omega) I
      refine ⟨R.1, ⟨_, J5.2.1⟩, ⟨?_, kC_z7 W Ta0 J5.2.1 (fun z => z.2.elim (fun y => absurd y (by decide)) (fun y => absurd y (by decide))) (fun z => z.2.elim (fun y => absurd y (by decide)) (fun y => absurd y (by decide))) (fun z => z.2.elim (fun y => absurd y (by decide)) (fun y => absurd y (by decide))) (fun z => z.2.elim (fun y => absurd y (by decide)) (fun y => absurd y (by decide))) (fun z => z.2.elim (fun y => absurd y (by decide)) (fun y => absurd y (by decide))) (fun z => z.2.elim (fun y => absurd y (by decide)) (fun y => absurd y (by decide))) (fun z => z.2.elim (fun y => absurd y (by decide)) (fun y => absurd y (by decide))) (fun f hf z => z.2.elim (fun y => absurd hf (by rw [y]; decide)) (fun y => absurd hf (by rw [y]; decide)))⟩, ⟨kA_z7 W Ta0 J5.2.1 (fun z => z.2.elim (fun y => absurd y (by decide)) (fun y => absurd y (by decide))) (fun f hf _ z => z.2.elim (fun y => absurd hf (by rw [y]; decide)) (fun y => absurd hf (by rw [y]; decide))) (fun f hf z => z.2.elim (fun y => absurd hf (by rw [y]; decide)) (fun y => absurd hf (by rw [y]; decide))) (fun f hf z => z.2.elim (fun y => absurd hf (by rw [y]; decide)) (fun y => absurd hf (by rw [y]; decide))), kA_u16 W Ta0 J5.2.1 (fun f x z => by rw [z.1, ty_chTape W Ta0]; decide) (fun f q z => by rcases q with q | q | q | q <;> rw [q] at z <;> exact z.2.elim (fun y => absurd y (by decide)) (fun y => absurd y (by decide)))⟩⟩
      have l5 : zI κ_28 taLength (zR κ chTape a0) = zI κ taLength (zR κ chTape a0) + 20 := Int32.toInt_inj.mp (by rw [el]; exact J5.2.2.2.1)
      have fc : zI κ_28 chFaultCode a0 = zI κ chFaultCode a0 := J5.2.1.i (fun z => z.2.elim (fun y => absurd y (by decide)) (fun y => absurd y (by decide)))
      unfold oC9
      rw [tw_r9 J5.2.1, l5, fc]
      exact fd_m9 (by omega) (by omega) rfl J5.1.1 (fun i hi => J5.1.2 i (by omega))
  · skip
    intro κ_32 hκ_32
    refine hx _ _ ?_
    · have e65 : (65536 : Int32).toInt = 65536 := rfl
      rw [lei, el, e65] at c1
      omega

theorem Ch_end_c {C : zC} {n0 : Nat} {a0 : Nat} {a1 : Int32} {κ : zS} {Q : zS → Prop} {X : zXp} (W : zW C n0 κ) (Ta0 : zT κ a0 = 15) (ρ : Nat → Nat) (L9 : Int) (hp : chI9 ρ κ a0 L9) (h : ∀ (κ' : zS), (chI9 ρ κ' a0 L9 ∧ (∃ F, zF F κ κ') ∧ ((oC9 κ' a0 = trO9 (oC9 κ a0) a1 ∧ kC7 κ κ' a0) ∧ kA8 κ κ' a0)) → Q κ') (hx : ∀ (cls : String) (κ' : zS), (cls = "java/lang/IllegalArgumentException" ∧ κ' = ut κ ∧ trO9 (oC9 κ a0) a1 = oC9 κ a0) → X cls κ') : zRun C 8 mCh_end [.ref a0, .int a1] κ (oV Q X) := by
  refine Ch_end_run W Ta0 ?_
  replace W := W.lo (Nat.le_trans W.1.2.1 W.1.2.2) (Nat.le_refl (zn κ))
  unfold w_Ch_end_0
  refine ⟨fun c1 => ?_, fun c1 => ?_⟩
  · skip
    intro κ_2 hκ_2
    refine hx _ _ ?_
    · refine ⟨rfl, hκ_2, tr_n9 (fun z => ?_)⟩
      have z1 := z.1
      rw [lti, t0i] at c1
      rw [lei, t0i] at z1
      omega
  · skip
    refine ⟨fun c3 => ?_, fun c3 => ?_⟩
    · skip
      intro κ_4 hκ_4
      intro W5
      refine h _ ?_
      · have Z : zF (twF9 (zR κ chTape a0)) κ κ_4 := by rw [hκ_4]; exact zF_ui ⟨rfl, Or.inl rfl⟩
        have R4 : zR κ_4 = zR κ := by rw [hκ_4]; rfl
        have N4 : zN κ_4 = zN κ := by rw [hκ_4]; rfl
        have i4 : zI κ_4 taLength (zR κ chTape a0) = a1 := by rw [hκ_4]; exact if_pos ⟨rfl, rfl⟩
        have i5 : zI κ_4 taTotal (zR κ chTape a0) = zI κ taTotal (zR κ chTape a0) := by rw [hκ_4]; rfl
        have B := hp.1.1.1
        have B1 := B.1
        have cc : 0 ≤ a1 ∧ a1 ≤ zI κ taLength (zR κ chTape a0) := ⟨by rw [lti, t0i] at c1; rw [lei, t0i]; omega, c3⟩
        rw [lti, t0i] at c1
        rw [lei] at c3
        have hl := hp.2.2.2.2.2.2
        have R := chI_t9 (L' := L9) W Ta0 Z (by rw [R4, N4]; exact Nat.le_refl _) (by
          unfold taI
          rw [R4, N4, i4, i5]
          exact ⟨⟨by omega, by omega, B.1.2.2⟩, B.2⟩) (by rw [i4]; omega) hp
        refine ⟨R.1, ⟨_, Z⟩, ⟨?_, by rw [hκ_4]; rfl, by rw [hκ_4]; exact cu_f7 W (ty_chCode W Ta0) (zF_ui (F := fun f b => f = taLength) rfl) (fun f hf z => absurd hf (by rw [z]; decide)), by rw [hκ_4]; rfl, by rw [hκ_4]; rfl⟩, ⟨kA_z7 (F := fun f b => f = taLength) W Ta0 (by rw [hκ_4]; exact zF_ui rfl) (by decide) (fun f hf _ z => absurd hf (by rw [z]; decide)) (fun f hf z => absurd hf (by rw [z]; decide)) (fun f hf z => absurd hf (by rw [z]; decide)), kA_u16 W Ta0 Z (fun f x z => by rw [z.1, ty_chTape W Ta0]; decide) (fun f q z => by rcases q with q | q | q | q <;> rw [q] at z <;> exact z.2.elim (fun y => absurd y (by decide)) (fun y => absurd y (by decide)))⟩⟩
        have A4 : zA κ_4 = zA κ := by rw [hκ_4]; rfl
        have f4 : zI κ_4 chFaultCode a0 = zI κ chFaultCode a0 := by rw [hκ_4]; rfl
        unfold oC9
        rw [tr_m9 cc, R4, A4, i4, f4]
    · skip
      intro κ_6 hκ_6
      refine hx _ _ ?_
      · exact ⟨rfl, hκ_6, tr_n9 (fun z => c3 z.2)⟩

theorem chI_o9 {C : zC} {n0 a : Nat} {L : Int} {ρ : Nat → Nat} {F : Nat → Nat → Prop} {κ τ : zS} (W : zW C n0 κ) (T : zT κ a = 15) (Z : zF F κ τ) (hF : ∀ f x, F f x → x = a) (hO : ∀ f, f / 100 = 15 → f ≠ chDrawnWeights → f ≠ chDrawnTotals → zR τ f a = zR κ f a) (hE : chE9 τ a) (I : chI9 ρ κ a L) : chI9 ρ τ a L := by
  have tt := ty_chTape W T
  have tm := ty_chMachine W T
  have un : ∀ x K, zT κ x = K → K ≠ 15 → un9 F x K := fun x K h1 h2 f _ z => by
    rw [hF f x z, T] at h1
    exact h2 h1.symm
  have ma : maL κ (zR κ chMachine a) := by
    have y := I.2.1.1.2.1
    rw [I.2.1.2.1] at y
    exact y
  have A := ta_u9 Z W tt (un _ 13 tt (by decide)) I.1.1
  exact chI_s9 W T Z (fun f x z => Or.inr (Or.inr (by rw [hF f x z]; exact T))) hO A.1 (ma_u9 Z W tm (un _ 7 tm (by decide)) ma) hE (by rw [A.2]; exact I.2.2.2.2.2.2.1) I
theorem Ch_tell_c {C : zC} {n0 : Nat} {a0 : Nat} {a1 : Int32} {κ : zS} {Q : Int32 → zS → Prop} {X : zXp} (W : zW C n0 κ) (Ta0 : zT κ a0 = 15) (ρ : Nat → Nat) (L9 : Int) (hp : chI9 ρ κ a0 L9) (h : ∀ (v : Int32) (κ' : zS), (chI9 ρ κ' a0 L9 ∧ (∃ F, zF F κ κ') ∧ TL21 κ κ' a0 a1) → Q v κ') (hx : ∀ (cls : String) (κ' : zS), (cls = "java/lang/UnsupportedOperationException" ∧ κ' = ut κ ∧ ¬ zI κ chTolds a0 < 200) → X cls κ') : zRun C 8 mCh_tell [.ref a0, .int a1] κ (oI Q X) := by
  refine Ch_tell_run W Ta0 ?_
  replace W := W.lo (Nat.le_trans W.1.2.1 W.1.2.2) (Nat.le_refl (zn κ))
  unfold w_Ch_tell_0
  have E := hp.2.2.2.2.2.1
  have e200 : (200 : Int32).toInt = 200 := rfl
  refine ⟨fun c1 => ?_, fun c1 => ?_⟩
  · skip
    refine ⟨?_, ?_⟩
    · rw [lti, e200] at c1
      rw [inb_iff, E.1.1]
      have y := E.1.2
      omega
    intro κ_2 hκ_2
    intro W3
    intro κ_4 hκ_4
    intro W5
    refine h _ _ ?_
    · have o := W.o (show zr chTold = some 20 by decide +kernel) (by decide) (Ta0.trans (by decide))
      have Z : zF (fun f b => b = a0 ∧ (f = chTold ∨ f = chTolds)) κ κ_4 := zF.tr (κ1 := κ_2) (by
        rw [hκ_2]
        exact zF_ua (by rw [o]; exact ⟨rfl, Or.inl rfl⟩)) (by
        rw [hκ_4]
        exact zF_ui ⟨rfl, Or.inr rfl⟩)
      have R4 : zR κ_4 = zR κ := by rw [hκ_4, hκ_2]; rfl
      have N4 : zN κ_4 = zN κ := by rw [hκ_4, hκ_2]; rfl
      have i2 : zI κ_2 chTolds a0 = zI κ chTolds a0 := by rw [hκ_2]; rfl
      have i4 : zI κ_4 chTolds a0 = zI κ chTolds a0 + 1 := by
        rw [← i2, hκ_4]
        exact if_pos ⟨rfl, rfl⟩
      have c1' := c1
      rw [lti, e200] at c1'
      have y := E.1.2
      have ix := cn1 (x := zI κ chTolds a0) y.1 (by omega)
      refine ⟨chI_o9 W Ta0 Z (fun f x z => z.1) (fun f _ _ _ => by rw [R4]) ?_ hp, ⟨_, Z⟩, ⟨⟨oC_u9 W Ta0 Z (fun z => z.2.elim (fun y => absurd y (by decide)) (fun y => absurd y (by decide))) (fun z => z.2.elim (fun y => absurd y (by decide)) (fun y => absurd y (by decide))) (fun z => z.2.elim (fun y => absurd y (by decide)) (fun y => absurd y (by decide))) (fun z => z.2.elim (fun y => absurd y (by decide)) (fun y => absurd y (by decide))), kD_z7 W Ta0 Z (fun z => z.2.elim (fun y => absurd y (by decide)) (fun y => absurd y (by decide))) (fun z => z.2.elim (fun y => absurd y (by decide)) (fun y => absurd y (by decide))) (fun f hf z => z.2.elim (fun y => absurd hf (by rw [y]; decide)) (fun y => absurd hf (by rw [y]; decide))), pq_z23 W Ta0 Z (fun z => z.2.elim (fun y => absurd y (by decide)) (fun y => absurd y (by decide))) (fun z => z.2.elim (fun y => absurd y (by decide)) (fun y => absurd y (by decide))) (fun z => z.2.elim (fun y => absurd y (by decide)) (fun y => absurd y (by decide)))⟩, ⟨kA_z7 W Ta0 Z (fun z => z.2.elim (fun y => absurd y (by decide)) (fun y => absurd y (by decide))) (fun f hf _ z => z.2.elim (fun y => absurd hf (by rw [y]; decide)) (fun y => absurd hf (by rw [y]; decide))) (fun f hf z => z.2.elim (fun y => absurd hf (by rw [y]; decide)) (fun y => absurd hf (by rw [y]; decide))) (fun f hf z => z.2.elim (fun y => absurd hf (by rw [y]; decide)) (fun y => absurd hf (by rw [y]; decide))), kA_u16 W Ta0 Z (fun f x z => by rw [z.1, Ta0]; decide) (fun f q z => by rcases q with q | q | q | q <;> rw [q] at z <;> exact z.2.elim (fun y => absurd y (by decide)) (fun y => absurd y (by decide)))⟩, Or.inl ⟨c1, i4, ?_⟩⟩⟩
      rotate_left
      · rw [R4]
        have o2 : zA κ_4 (zR κ chTold a0) = zA κ_2 (zR κ chTold a0) := by rw [hκ_4]; rfl
        rw [o2, hκ_2]
        exact if_pos rfl
      unfold chE9 dwI9
      rw [R4, N4, i4, ix.2]
      exact ⟨⟨E.1.1, by omega, by omega⟩, E.2⟩
  · skip
    intro κ_6 hκ_6
    refine hx _ _ ?_
    · exact ⟨rfl, hκ_6, c1⟩  -- x3

theorem Ch_forget_c {C : zC} {n0 : Nat} {a0 : Nat} {κ : zS} {Q : Int32 → zS → Prop} (W : zW C n0 κ) (Ta0 : zT κ a0 = 15) (ρ : Nat → Nat) (L9 : Int) (hp : chI9 ρ κ a0 L9) (h : ∀ (v : Int32) (κ' : zS), (chI9 ρ κ' a0 L9 ∧ (∃ F, zF F κ κ') ∧ FG21 κ κ' a0) → Q v κ') : zRun C 0 mCh_forget [.ref a0] κ (oI Q noX) := by
  refine Ch_forget_run W Ta0 ?_
  replace W := W.lo (Nat.le_trans W.1.2.1 W.1.2.2) (Nat.le_refl (zn κ))
  unfold w_Ch_forget_0
  intro x1 hx1
  intro κ_2 hκ_2
  intro W3
  refine h _ _ ?_
  · have E := hp.2.2.2.2.2.1
    have Z : zF (fun f b => b = a0 ∧ f = chTolds) κ κ_2 := by rw [hκ_2]; exact zF_ui ⟨rfl, rfl⟩
    have R4 : zR κ_2 = zR κ := by rw [hκ_2]; rfl
    have N4 : zN κ_2 = zN κ := by rw [hκ_2]; rfl
    have i4 : zI κ_2 chTolds a0 = 0 := by rw [hκ_2]; exact if_pos ⟨rfl, rfl⟩
    refine ⟨chI_o9 W Ta0 Z (fun f x z => z.1) (fun f _ _ _ => by rw [R4]) ?_ hp, ⟨_, Z⟩, ⟨⟨oC_u9 W Ta0 Z (fun z => absurd z.2 (by decide)) (fun z => absurd z.2 (by decide)) (fun z => absurd z.2 (by decide)) (fun z => absurd z.2 (by decide)), kD_z7 W Ta0 Z (fun z => absurd z.2 (by decide)) (fun z => absurd z.2 (by decide)) (fun f hf z => absurd hf (by rw [z.2]; decide)), pq_z23 W Ta0 Z (fun z => absurd z.2 (by decide)) (fun z => absurd z.2 (by decide)) (fun z => absurd z.2 (by decide))⟩, ⟨kA_z7 W Ta0 Z (fun z => absurd z.2 (by decide)) (fun f hf _ z => absurd hf (by rw [z.2]; decide)) (fun f hf z => absurd hf (by rw [z.2]; decide)) (fun f hf z => absurd hf (by rw [z.2]; decide)), kA_u16 W Ta0 Z (fun f x z => by rw [z.1, Ta0]; decide) (fun f q z => by rcases q with q | q | q | q <;> rw [q] at z <;> exact absurd z.2 (by decide))⟩, i4⟩⟩
    unfold chE9 dwI9
    rw [R4, N4, i4]
    exact ⟨⟨E.1.1, by decide, by decide⟩, E.2⟩

/-- a play keeps all -/
theorem pf_q9 {C : zC} {n0 a : Nat} {L : Int} {ρ : Nat → Nat} {κ τ : zS} (W : zW C n0 κ) (T : zT κ a = 15) (I : chI9 ρ κ a L) (q : zF (pfF9 (zR κ chMachine a) a) κ τ ∧ (∀ f, f ≠ chDrawnWeights → f ≠ chDrawnTotals → zR τ f a = zR κ f a) ∧ mkI τ (zR κ chMachine a) ∧ dwI9 τ a) : chI9 ρ τ a L ∧ (∃ F, zF F κ τ) ∧ (oC9 τ a = oC9 κ a ∧ kC6 κ τ a) ∧ (kA7 κ τ a ∧ kV16 κ τ a ∧ kW16 κ τ a ∧ kS16 κ τ a) := by
  obtain ⟨Z, R, K, D⟩ := q
  have tt := ty_chTape W T
  have tm := ty_chMachine W T
  have am := ch_m9 W T
  have hT : ∀ f x, pfF9 (zR κ chMachine a) a f x → zT κ x = 7 ∨ zT κ x = 15 := fun f x z => by
    rcases z with z | z
    · left; rw [z]; exact tm
    · right; rw [z.1]; exact T
  have it : zI τ chTolds a = zI κ chTolds a := Z.i (fun z => by
    rcases z with z | ⟨_, z | z | z | z | z⟩
    · exact am.1 z
    all_goals exact absurd z (by decide))
  have A := ta_u9 Z W tt (fun f _ z => by rcases hT f _ z with y | y <;> rw [tt] at y <;> exact absurd y (by decide)) I.1.1
  have E := I.2.2.2.2.2.1
  refine ⟨chI_s9 W T Z (fun f x z => (hT f x z).elim Or.inl (fun y => Or.inr (Or.inr y))) (fun f _ h2 h3 => R f h2 h3) A.1 K.1 ?_ (by rw [A.2]; exact I.2.2.2.2.2.2.1) I, ⟨_, Z⟩, ⟨⟨oC_u9 W T Z (fun z => by
    rcases z with z | ⟨_, z | z | z | z | z⟩
    · exact am.1 z
    all_goals exact absurd z (by decide)) (fun z => by
    rcases z with z | ⟨_, z | z | z | z | z⟩
    · exact am.1 z
    all_goals exact absurd z (by decide)) (fun z => by rcases hT _ _ z with y | y <;> rw [tt] at y <;> exact absurd y (by decide)) (fun z => by rcases hT _ _ z with y | y <;> rw [tt] at y <;> exact absurd y (by decide)), kC_z6 W T Z (fun z => by
    rcases z with z | ⟨_, z | z | z | z | z⟩
    · exact am.1 z
    all_goals exact absurd z (by decide)) (fun z => by
    rcases z with z | ⟨_, z | z | z | z | z⟩
    · exact am.1 z
    all_goals exact absurd z (by decide)) (fun z => by
    rcases z with z | ⟨_, z | z | z | z | z⟩
    · exact am.1 z
    all_goals exact absurd z (by decide)) (fun z => by
    rcases z with z | ⟨_, z | z | z | z | z⟩
    · exact am.1 z
    all_goals exact absurd z (by decide)) (fun f _ z => by have tc := ty_chCode W T; rcases hT _ _ z with y | y <;> rw [tc] at y <;> exact absurd y (by decide))⟩, ⟨kA_z7 W T Z (fun z => by
    rcases z with z | ⟨_, z | z | z | z | z⟩
    · exact am.1 z
    all_goals exact absurd z (by decide)) (fun f _ _ z => by have tc := ty_chAtlas W T; rcases hT _ _ z with y | y <;> rw [tc] at y <;> exact absurd y (by decide)) (fun f _ z => by have tc := ty_atStates W (ty_chAtlas W T); rcases hT _ _ z with y | y <;> rw [tc] at y <;> exact absurd y (by decide)) (fun f _ z => by have tc := ty_atEndings W (ty_chAtlas W T); rcases hT _ _ z with y | y <;> rw [tc] at y <;> exact absurd y (by decide)), kV_z16 W T Z (fun f w e z => by rcases hT _ _ z with y | y <;> rw [e] at y <;> exact absurd y (by decide)) (fun f w e z => by rcases hT _ _ z with y | y <;> rw [e] at y <;> exact absurd y (by decide)) (fun z => by
    rcases z with z | ⟨_, z | z | z | z | z⟩
    · exact am.1 z
    all_goals exact absurd z (by decide)) (fun z => by have tc := ty_chSolver W T; rcases hT _ _ z with y | y <;> rw [tc] at y <;> exact absurd y (by decide)) (fun z => by have tc := ty_chSolver W T; rcases hT _ _ z with y | y <;> rw [tc] at y <;> exact absurd y (by decide)), kW_z16 W T Z (fun f w e z => by rcases hT _ _ z with y | y <;> rw [e] at y <;> exact absurd y (by decide)) (fun f w e z => by rcases hT _ _ z with y | y <;> rw [e] at y <;> exact absurd y (by decide)) (fun z => by
    rcases z with z | ⟨_, z | z | z | z | z⟩
    · exact am.1 z
    all_goals exact absurd z (by decide)) (fun z => by have tc := ty_chSolver W T; rcases hT _ _ z with y | y <;> rw [tc] at y <;> exact absurd y (by decide)) (fun z => by have tc := ty_chSolver W T; rcases hT _ _ z with y | y <;> rw [tc] at y <;> exact absurd y (by decide)), kS_z16 W Z (fun f w e z => by rcases hT _ _ z with y | y <;> rw [e] at y <;> exact absurd y (by decide)) (fun f w e z => by rcases hT _ _ z with y | y <;> rw [e] at y <;> exact absurd y (by decide)) (fun z => by
    rcases z with z | ⟨_, z | z | z | z | z⟩
    · exact am.1 z
    all_goals exact absurd z (by decide))⟩⟩⟩
  refine ⟨?_, ?_, D⟩
  · rw [R chTold (by decide) (by decide), it, Z.l (ty_chTold W T)]
    exact E.1
  · rw [R chRecord (by decide) (by decide), R chLastShared (by decide) (by decide), Z.l (ty_chRecord W T), Z.l (ty_chLastShared W T)]
    exact E.2.1
theorem pf_p9 {a : Nat} {L : Int} {ρ : Nat → Nat} {κ : zS} {x : Int32} (I : chI9 ρ κ a L) (hx : x.toInt ≤ 2000) : maL κ (zR κ chMachine a) ∧ coI κ (zR κ chCode a) ∧ dwI9 κ a ∧ ((zN κ (zR κ chRecord a)) = 5 ∧ (zN κ (zR κ chLastShared a)) = 34 ∧ (zN κ (zR κ chTold a)) = 200 ∧ (zI κ chTolds a).toInt ≤ 200) ∧ atH κ (zR κ chAtlas a) ∧ (zI κ atExplored (zR κ chAtlas a) ≠ 0 → atM κ (zR κ chAtlas a)) ∧ x.toInt ≤ 2000 := by
  have ma := I.2.1.1.2.1
  rw [I.2.1.2.1] at ma
  have E := I.2.2.2.2.2.1
  refine ⟨ma, I.1.2.1.1.1, E.2.2, ⟨E.2.1.1, E.2.1.2, E.1.1, E.1.2.2⟩, I.2.1.1.1.2.2.1, fun z => ?_, hx⟩
  obtain ⟨n, hn⟩ := I.2.1.1.2.2.2.2 z
  exact hn.1

end
section
set_option maxHeartbeats 1600000
/-! the class: ChanceWorks' calls that change nothing -/
theorem ch_x9 {a : Nat} {L : Int} {ρ : Nat → Nat} {κ : zS} (I : chI9 ρ κ a L) (ex : zI κ atExplored (zR κ chAtlas a) ≠ 0) : (∃ n, atW κ (zR κ chAtlas a) n) ∧ atG κ (zR κ chAtlas a) := by
  refine ⟨I.2.1.1.2.2.2.2 ex, I.2.1.1.1.2.2.1, ?_⟩
  rw [(I.2.1.2.2 ex).1.1]
  exact I.1.2.1.1.1
/-- a state that is held -/
theorem ch_h9 {a : Nat} {L : Int} {ρ : Nat → Nat} {κ : zS} {r x : Int32} (I : chI9 ρ κ a L) (q : nb r ∧ (r ≠ 0 → zI κ atExplored (zR κ chAtlas a) ≠ 0 ∧ 0 ≤ x.toInt ∧ x.toInt < (zI κ hoTotal (zR κ atStates (zR κ chAtlas a))).toInt)) (hr : ¬ r = 0) : atG κ (zR κ chAtlas a) ∧ atM κ (zR κ chAtlas a) ∧ (0 ≤ x.toInt ∧ x.toInt < 1000) ∧ atL κ (zR κ chAtlas a) ∧ ((zI κ atNexts (zR κ chAtlas a)).toInt ≤ (zN κ (zR κ atNumbers (zR κ chAtlas a))) ∧ exK κ (zR κ chAtlas a) x.toNatClampNeg) := by
  obtain ⟨ex, x0, x1⟩ := q.2 hr
  obtain ⟨⟨n, A1, A2, A3, A4, A5, A6⟩, G⟩ := ch_x9 I ex
  have k := cnk x0
  exact ⟨G, A1, ⟨x0, by omega⟩, A2, A5, A6 _ (by omega)⟩
theorem ch_n9 {a : Nat} {L : Int} {ρ : Nat → Nat} {κ : zS} (I : chI9 ρ κ a L) : raJ κ (zR κ chShown a) 6500 := by
  have N := I.2.2.1.1.1.1
  have h30 := I.2.2.1.2.2.2
  have q := N.2 _ (show raR (ρ (zR κ chShown a)) by rw [h30]; exact Or.inr (Or.inl rfl))
  rw [h30] at q
  have t := nm_g N q.2.1 (show nmR (30 + 1) from Or.inr (Or.inr (Or.inr (Or.inl rfl)))) (by decide)
  have b := nm_g N q.2.2 (show nmR (30 + 2) from Or.inr (Or.inr (Or.inr (Or.inr (Or.inl rfl))))) (by decide)
  exact ⟨t.1, b.1, ro_n q.2.1 q.2.2 (by decide)⟩
theorem Ch_fault_c {C : zC} {n0 : Nat} {a0 : Nat} {κ : zS} {Q : Int32 → zS → Prop} (W : zW C n0 κ) (Ta0 : zT κ a0 = 15)  (h : ∀ (v : Int32) (κ' : zS), (κ = κ') → Q v κ') : zRun C 0 mCh_fault [.ref a0] κ (oI Q noX) := by
  refine Ch_fault_run W Ta0 ?_
  replace W := W.lo (Nat.le_trans W.1.2.1 W.1.2.2) (Nat.le_refl (zn κ))
  unfold w_Ch_fault_0
  refine h _ _ ?_
  · exact rfl  -- q1

theorem Ch_count_c {C : zC} {n0 : Nat} {a0 : Nat} {a1 : Int32} {κ : zS} {Q : Int32 → zS → Prop} {X : zXp} (W : zW C n0 κ) (Ta0 : zT κ a0 = 15)  (h : ∀ (v : Int32) (κ' : zS), (κ = κ') → Q v κ') (hx : ∀ (cls : String) (κ' : zS), (cls = "java/lang/IndexOutOfBoundsException" ∧ κ' = ut κ) → X cls κ') : zRun C 8 mCh_count [.ref a0, .int a1] κ (oI Q X) := by
  refine Ch_count_run W Ta0 ?_
  replace W := W.lo (Nat.le_trans W.1.2.1 W.1.2.2) (Nat.le_refl (zn κ))
  unfold w_Ch_count_0
  refine ⟨fun c1 => ?_, fun c1 => ?_⟩
  · skip
    intro κ_2 hκ_2
    refine hx _ _ ?_
    · exact ⟨rfl, hκ_2⟩  -- x1
  · skip
    refine ⟨fun c3 => ?_, fun c3 => ?_⟩
    · skip
      refine ⟨fun c4 => ?_, fun c4 => ?_⟩
      · skip
        refine ⟨fun c5 => ?_, fun c5 => ?_⟩
        · skip
          refine ⟨fun c6 => ?_, fun c6 => ?_⟩
          · skip
            refine h _ _ ?_
            · exact rfl  -- q2
          · skip
            intro T7
            refine At_howMany_c W T7  (fun r8 q10 => ?_)
            intro W11
            intro M12
            refine h _ _ ?_
            · exact rfl  -- q3
        · skip
          refine ⟨fun c13 => ?_, fun c13 => ?_⟩
          · skip
            refine h _ _ ?_
            · exact rfl  -- q4
          · skip
            intro T14
            refine Co_howMany_c W T14  (fun r15 q17 => ?_)
            intro W18
            intro M19
            refine h _ _ ?_
            · exact rfl  -- q5
      · skip
        refine h _ _ ?_
        · exact rfl  -- q6
    · skip
      intro κ_20 hκ_20
      refine hx _ _ ?_
      · exact ⟨rfl, hκ_20⟩  -- x7

theorem Ch_state_c {C : zC} {n0 : Nat} {a0 : Nat} {a1 : Int32} {a2 : Int32} {κ : zS} {Q : Int32 → zS → Prop} {X : zXp} (W : zW C n0 κ) (Ta0 : zT κ a0 = 15) (ρ : Nat → Nat) (L9 : Int) (hp : chI9 ρ κ a0 L9) (h : ∀ (v : Int32) (κ' : zS), (κ = κ') → Q v κ') (hx : ∀ (cls : String) (κ' : zS), (cls = "java/lang/IndexOutOfBoundsException" ∧ κ' = ut κ) → X cls κ') : zRun C 8 mCh_state [.ref a0, .int a1, .int a2] κ (oI Q X) := by
  refine Ch_state_run W Ta0 ?_
  replace W := W.lo (Nat.le_trans W.1.2.1 W.1.2.2) (Nat.le_refl (zn κ))
  unfold w_Ch_state_0
  intro T1
  refine At_holds_c W T1  (fun r2 q4 => ?_)
  intro W5
  intro M6
  refine ⟨fun c7 => ?_, fun c7 => ?_⟩
  · skip
    intro κ_8 hκ_8
    refine hx _ _ ?_
    · exact ⟨rfl, hκ_8⟩  -- x1
  · skip
    refine ⟨fun c9 => ?_, fun c9 => ?_⟩
    · skip
      intro κ_10 hκ_10
      refine hx _ _ ?_
      · exact ⟨rfl, hκ_10⟩  -- x2
    · skip
      refine ⟨fun c11 => ?_, fun c11 => ?_⟩
      · skip
        refine ⟨fun c12 => ?_, fun c12 => ?_, fun c12 => ?_, fun c12 => ?_, fun c12 => ?_, fun c12 => ?_⟩
        · skip
          refine ⟨?_, ?_⟩
          · have H := ch_h9 hp q4 c7
            rw [inb_iff, H.2.1.2.1]
            have y := H.2.2.1
            omega
          refine h _ _ ?_
          · exact rfl  -- q4
        · skip
          intro T13
          refine At_callsOf_c W5 T13  ?_ (fun r14 q16 => ?_)
          · exact (ch_h9 hp q4 c7).1  -- p5
          intro W17
          intro M18
          intro T19
          refine At_statementOf_c W17 T19  ?_ (fun r20 q22 => ?_)
          · exact (ch_h9 hp q4 c7).1  -- p6
          intro W23
          intro M24
          refine h _ _ ?_
          · exact rfl  -- q7
        · skip
          intro T25
          refine At_callsOf_c W5 T25  ?_ (fun r26 q28 => ?_)
          · exact (ch_h9 hp q4 c7).1  -- p8
          intro W29
          intro M30
          refine h _ _ ?_
          · exact rfl  -- q9
        · skip
          intro T31
          refine At_waysOf_c W5 T31  ?_ (fun r32 q34 => ?_)
          · have H := ch_h9 hp q4 c7
            exact ⟨H.2.1.1, H.2.2.1⟩
          intro W35
          intro M36
          refine h _ _ ?_
          · exact rfl  -- q11
        · skip
          refine ⟨?_, ?_⟩
          · have H := ch_h9 hp q4 c7
            rw [inb_iff, H.2.1.2.2.2.2.1]
            have y := H.2.2.1
            omega
          refine ⟨fun c37 => ?_, fun c37 => ?_⟩
          · skip
            refine h _ _ ?_
            · exact rfl  -- q13
          · skip
            refine h _ _ ?_
            · exact rfl  -- q14
        · skip
          refine ⟨?_, ?_⟩
          · have H := ch_h9 hp q4 c7
            rw [inb_iff, H.2.1.2.2.2.2.2]
            have y := H.2.2.1
            omega
          refine ⟨fun c38 => ?_, fun c38 => ?_⟩
          · skip
            refine h _ _ ?_
            · exact rfl  -- q16
          · skip
            refine h _ _ ?_
            · exact rfl  -- q17
      · skip
        intro κ_39 hκ_39
        refine hx _ _ ?_
        · exact ⟨rfl, hκ_39⟩  -- x18

theorem Ch_value_c {C : zC} {n0 : Nat} {a0 : Nat} {a1 : Int32} {a2 : Int32} {a3 : Int32} {κ : zS} {Q : Int32 → zS → Prop} {X : zXp} (W : zW C n0 κ) (Ta0 : zT κ a0 = 15) (ρ : Nat → Nat) (L9 : Int) (hp : chI9 ρ κ a0 L9) (h : ∀ (v : Int32) (κ' : zS), (κ = κ') → Q v κ') (hx : ∀ (cls : String) (κ' : zS), (cls = "java/lang/IndexOutOfBoundsException" ∧ κ' = ut κ) → X cls κ') : zRun C 8 mCh_value [.ref a0, .int a1, .int a2, .int a3] κ (oI Q X) := by
  refine Ch_value_run W Ta0 ?_
  replace W := W.lo (Nat.le_trans W.1.2.1 W.1.2.2) (Nat.le_refl (zn κ))
  unfold w_Ch_value_0
  intro T1
  refine At_holds_c W T1  (fun r2 q4 => ?_)
  intro W5
  intro M6
  refine ⟨fun c7 => ?_, fun c7 => ?_⟩
  · skip
    intro κ_8 hκ_8
    refine hx _ _ ?_
    · exact ⟨rfl, hκ_8⟩  -- x1
  · skip
    intro T9
    refine At_hasVariable_c W5 T9  ?_ (fun r10 q12 => ?_)
    · exact (ch_h9 hp q4 c7).1  -- p2
    intro W13
    intro M14
    refine ⟨fun c15 => ?_, fun c15 => ?_⟩
    · skip
      intro T16
      refine At_variableOf_c W13 T16  ?_ (fun r17 q19 => ?_)
      · exact (ch_h9 hp q4 c7).1  -- p3
      intro W20
      intro M21
      refine h _ _ ?_
      · exact rfl  -- q4
    · skip
      intro κ_22 hκ_22
      refine hx _ _ ?_
      · exact ⟨rfl, hκ_22⟩  -- x5

theorem Ch_next_c {C : zC} {n0 : Nat} {a0 : Nat} {a1 : Int32} {a2 : Int32} {a3 : Int32} {κ : zS} {Q : Int32 → zS → Prop} {X : zXp} (W : zW C n0 κ) (Ta0 : zT κ a0 = 15) (ρ : Nat → Nat) (L9 : Int) (hp : chI9 ρ κ a0 L9) (h : ∀ (v : Int32) (κ' : zS), (κ = κ') → Q v κ') (hx : ∀ (cls : String) (κ' : zS), (cls = "java/lang/IndexOutOfBoundsException" ∧ κ' = ut κ) → X cls κ') : zRun C 8 mCh_next [.ref a0, .int a1, .int a2, .int a3] κ (oI Q X) := by
  refine Ch_next_run W Ta0 ?_
  replace W := W.lo (Nat.le_trans W.1.2.1 W.1.2.2) (Nat.le_refl (zn κ))
  unfold w_Ch_next_0
  intro T1
  refine At_holds_c W T1  (fun r2 q4 => ?_)
  intro W5
  intro M6
  refine ⟨fun c7 => ?_, fun c7 => ?_⟩
  · skip
    intro κ_8 hκ_8
    refine hx _ _ ?_
    · exact ⟨rfl, hκ_8⟩  -- x1
  · skip
    refine ⟨fun c9 => ?_, fun c9 => ?_⟩
    · skip
      intro κ_10 hκ_10
      refine hx _ _ ?_
      · exact ⟨rfl, hκ_10⟩  -- x2
    · skip
      intro T11
      refine At_waysOf_c W5 T11  ?_ (fun r12 q14 => ?_)
      · have H := ch_h9 hp q4 c7
        exact ⟨H.2.1.1, H.2.2.1⟩
      intro W15
      intro M16
      refine ⟨fun c17 => ?_, fun c17 => ?_⟩
      · skip
        intro κ_18 hκ_18
        refine hx _ _ ?_
        · exact ⟨rfl, hκ_18⟩  -- x4
      · skip
        refine ⟨fun c19 => ?_, fun c19 => ?_⟩
        · skip
          intro κ_20 hκ_20
          refine hx _ _ ?_
          · exact ⟨rfl, hκ_20⟩  -- x5
        · skip
          refine ⟨fun c21 => ?_, fun c21 => ?_⟩
          · skip
            refine ⟨?_, ?_⟩
            · have H := ch_h9 hp q4 c7
              rw [inb_iff, H.2.1.1]
              have y := H.2.2.1
              omega
            intro x22 hx22
            have H := ch_h9 hp q4 c7
            have K := H.2.2.2.2.2.1
            have lw := H.2.2.2.1
            have l20 := lw.2
            have nx := H.2.2.2.2.1
            have xb : 0 ≤ x22.toInt ∧ x22.toInt < (zN κ (zR κ atNumbers (zR κ chAtlas a0))) := by
              rw [lti, t0i] at c9
              rw [lei, q14, sub_i (by omega) (by omega)] at c17
              rw [hx22, add_i (by omega) (by omega)]
              omega
            refine ⟨fun c23 => ?_, fun c23 => ?_⟩
            · skip
              refine ⟨fun c24 => ?_, fun c24 => ?_⟩
              · skip
                refine ⟨?_, ?_⟩
                · rw [inb_iff, lw.1.2]; exact xb  -- b7
                refine h _ _ ?_
                · exact rfl  -- q8
              · skip
                refine ⟨?_, ?_⟩
                · rw [inb_iff]; exact xb  -- b9
                refine h _ _ ?_
                · exact rfl  -- q10
            · skip
              refine ⟨?_, ?_⟩
              · rw [inb_iff, lw.1.1]; exact xb  -- b11
              refine h _ _ ?_
              · exact rfl  -- q12
          · skip
            intro κ_25 hκ_25
            refine hx _ _ ?_
            · exact ⟨rfl, hκ_25⟩  -- x13

theorem Ch_ending_c {C : zC} {n0 : Nat} {a0 : Nat} {a1 : Int32} {a2 : Int32} {κ : zS} {Q : Int32 → zS → Prop} {X : zXp} (W : zW C n0 κ) (Ta0 : zT κ a0 = 15) (ρ : Nat → Nat) (L9 : Int) (hp : chI9 ρ κ a0 L9) (h : ∀ (v : Int32) (κ' : zS), (κ = κ') → Q v κ') (hx : ∀ (cls : String) (κ' : zS), (cls = "java/lang/IndexOutOfBoundsException" ∧ κ' = ut κ) → X cls κ') : zRun C 8 mCh_ending [.ref a0, .int a1, .int a2] κ (oI Q X) := by
  refine Ch_ending_run W Ta0 ?_
  replace W := W.lo (Nat.le_trans W.1.2.1 W.1.2.2) (Nat.le_refl (zn κ))
  unfold w_Ch_ending_0
  intro T1
  refine At_holdsEnding_c W T1  (fun r2 q4 => ?_)
  intro W5
  intro M6
  refine ⟨fun c7 => ?_, fun c7 => ?_⟩
  · skip
    intro κ_8 hκ_8
    refine hx _ _ ?_
    · exact ⟨rfl, hκ_8⟩  -- x1
  · skip
    refine ⟨fun c9 => ?_, fun c9 => ?_⟩
    · skip
      intro κ_10 hκ_10
      refine hx _ _ ?_
      · exact ⟨rfl, hκ_10⟩  -- x2
    · skip
      intro T11
      refine Co_shared_c W5 T11  ?_ (fun r12 q14 => ?_)
      · exact hp.1.2.1.1.1  -- p3
      intro W15
      intro M16
      refine ⟨fun c17 => ?_, fun c17 => ?_⟩
      · skip
        refine ⟨fun c18 => ?_, fun c18 => ?_⟩
        · skip
          intro T19
          refine Ho_part_c W15 T19 1000 35 2048 ?_ (fun r20 q22 => ?_)
          · exact ⟨hp.2.1.1.1.2.2.1.2, Or.inr (Or.inl ⟨rfl, rfl, rfl⟩)⟩  -- p4
          intro W23
          intro M24
          refine h _ _ ?_
          · exact rfl  -- q5
        · skip
          intro T25
          refine Co_shared_c W15 T25  ?_ (fun r26 q28 => ?_)
          · exact hp.1.2.1.1.1  -- p6
          intro W29
          intro M30
          intro T31
          refine Ho_part_c W29 T31 1000 35 2048 ?_ (fun r32 q34 => ?_)
          · exact ⟨hp.2.1.1.1.2.2.1.2, Or.inr (Or.inl ⟨rfl, rfl, rfl⟩)⟩  -- p7
          intro W35
          intro M36
          refine h _ _ ?_
          · exact rfl  -- q8
      · skip
        intro κ_37 hκ_37
        refine hx _ _ ?_
        · exact ⟨rfl, hκ_37⟩  -- x9

theorem Ch_decided_c {C : zC} {n0 : Nat} {a0 : Nat} {a1 : Int32} {κ : zS} {Q : Int32 → zS → Prop} {X : zXp} (W : zW C n0 κ) (Ta0 : zT κ a0 = 15) (ρ : Nat → Nat) (L9 : Int) (hp : chI9 ρ κ a0 L9) (h : ∀ (v : Int32) (κ' : zS), (κ = κ') → Q v κ') (hx : ∀ (cls : String) (κ' : zS), (cls = "java/lang/IndexOutOfBoundsException" ∧ κ' = ut κ) → X cls κ') : zRun C 8 mCh_decided [.ref a0, .int a1] κ (oI Q X) := by
  refine Ch_decided_run W Ta0 ?_
  replace W := W.lo (Nat.le_trans W.1.2.1 W.1.2.2) (Nat.le_refl (zn κ))
  unfold w_Ch_decided_0
  intro T1
  refine At_holds_c W T1  (fun r2 q4 => ?_)
  intro W5
  intro M6
  refine ⟨fun c7 => ?_, fun c7 => ?_⟩
  · skip
    intro κ_8 hκ_8
    refine hx _ _ ?_
    · exact ⟨rfl, hκ_8⟩  -- x1
  · skip
    refine ⟨?_, ?_⟩
    · have H := ch_h9 hp q4 c7
      rw [inb_iff, H.2.1.2.2.2.2.1]
      have y := H.2.2.1
      omega
    refine ⟨fun c9 => ?_, fun c9 => ?_⟩
    · skip
      refine ⟨?_, ?_⟩
      · have H := ch_h9 hp q4 c7
        rw [inb_iff, H.2.1.2.2.2.1]
        have y := H.2.2.1
        omega
      refine h _ _ ?_
      · exact rfl  -- q4
    · skip
      intro κ_10 hκ_10
      refine hx _ _ ?_
      · exact ⟨rfl, hκ_10⟩  -- x5

theorem Ch_size_c {C : zC} {n0 : Nat} {a0 : Nat} {a1 : Int32} {κ : zS} {Q : Int32 → zS → Prop} {X : zXp} (W : zW C n0 κ) (Ta0 : zT κ a0 = 15) (ρ : Nat → Nat) (L9 : Int) (hp : chI9 ρ κ a0 L9) (h : ∀ (v : Int32) (κ' : zS), (κ = κ') → Q v κ') (hx : ∀ (cls : String) (κ' : zS), (cls = "java/lang/IndexOutOfBoundsException" ∧ κ' = ut κ) → X cls κ') : zRun C 8 mCh_size [.ref a0, .int a1] κ (oI Q X) := by
  refine Ch_size_run W Ta0 ?_
  replace W := W.lo (Nat.le_trans W.1.2.1 W.1.2.2) (Nat.le_refl (zn κ))
  unfold w_Ch_size_0
  refine ⟨fun c1 => ?_, fun c1 => ?_⟩
  · skip
    intro κ_2 hκ_2
    refine hx _ _ ?_
    · exact ⟨rfl, hκ_2⟩  -- x1
  · skip
    refine ⟨fun c3 => ?_, fun c3 => ?_⟩
    · skip
      refine ⟨fun c4 => ?_, fun c4 => ?_⟩
      · skip
        intro T5
        refine Nu_words_c W T5 6500 ?_ (fun r6 q8 => ?_)
        · exact ⟨(ch_n9 hp).2.1, by decide⟩  -- p2
        intro W9
        intro M10
        refine h _ _ ?_
        · exact rfl  -- q3
      · skip
        intro T11
        refine Nu_words_c W T11 6500 ?_ (fun r12 q14 => ?_)
        · exact ⟨(ch_n9 hp).1, by decide⟩  -- p4
        intro W15
        intro M16
        refine h _ _ ?_
        · exact rfl  -- q5
    · skip
      intro κ_17 hκ_17
      refine hx _ _ ?_
      · exact ⟨rfl, hκ_17⟩  -- x6

theorem Ch_limb_c {C : zC} {n0 : Nat} {a0 : Nat} {a1 : Int32} {a2 : Int32} {κ : zS} {Q : Int32 → zS → Prop} {X : zXp} (W : zW C n0 κ) (Ta0 : zT κ a0 = 15) (ρ : Nat → Nat) (L9 : Int) (hp : chI9 ρ κ a0 L9) (h : ∀ (v : Int32) (κ' : zS), (κ = κ') → Q v κ') (hx : ∀ (cls : String) (κ' : zS), (cls = "java/lang/IndexOutOfBoundsException" ∧ κ' = ut κ) → X cls κ') : zRun C 8 mCh_limb [.ref a0, .int a1, .int a2] κ (oI Q X) := by
  refine Ch_limb_run W Ta0 ?_
  replace W := W.lo (Nat.le_trans W.1.2.1 W.1.2.2) (Nat.le_refl (zn κ))
  unfold w_Ch_limb_0
  have hj41 : ∀ (l0 : Nat) (l2 : Int32) (s0 : Nat) (τ : zS), zW C (zn κ) τ → zT τ l0 = 15 → zT τ s0 = 8 → (κ = τ ∧ a0 = l0 ∧ a2 = l2 ∧ nuI κ s0 6500) → w_Ch_limb_41 C (zn κ) Q X  l0 l2 s0 τ := by
    rintro _ _ y41_s0 _ W41 T41_0 T41_1 ⟨rfl, rfl, rfl, j41⟩
    unfold w_Ch_limb_41
    refine ⟨fun c1 => ?_, fun c1 => ?_⟩
    · skip
      intro κ_2 hκ_2
      refine hx _ _ ?_
      · exact ⟨rfl, hκ_2⟩  -- x1
    · skip
      intro T3
      refine Nu_words_c W41 T3 6500 ?_ (fun r4 q6 => ?_)
      · exact ⟨j41, by decide⟩  -- p2
      intro W7
      intro M8
      refine ⟨fun c9 => ?_, fun c9 => ?_⟩
      · skip
        intro T10
        refine Nu_word_c W7 T10 6500 ?_ (fun r11 q13 => ?_)
        · exact j41.1  -- p3
        intro W14
        intro M15
        refine h _ _ ?_
        · exact rfl  -- q4
      · skip
        intro κ_16 hκ_16
        refine hx _ _ ?_
        · exact ⟨rfl, hκ_16⟩  -- x5
  refine ⟨fun c17 => ?_, fun c17 => ?_⟩
  · skip
    intro κ_18 hκ_18
    refine hx _ _ ?_
    · exact ⟨rfl, hκ_18⟩  -- x6
  · skip
    refine ⟨fun c19 => ?_, fun c19 => ?_⟩
    · skip
      refine ⟨fun c20 => ?_, fun c20 => ?_⟩
      · skip
        refine hj41 _ _ _ _ W ?_ ?_ ?_
        · exact Ta0  -- t7
        · exact ty_raBottom W (ty_chShown W Ta0)  -- t8
        · exact ⟨rfl, rfl, rfl, (ch_n9 hp).2.1⟩  -- k9
      · skip
        refine hj41 _ _ _ _ W ?_ ?_ ?_
        · exact Ta0  -- t10
        · exact ty_raTop W (ty_chShown W Ta0)  -- t11
        · exact ⟨rfl, rfl, rfl, (ch_n9 hp).1⟩  -- k12
    · skip
      intro κ_21 hκ_21
      refine hx _ _ ?_
      · exact ⟨rfl, hκ_21⟩  -- x13

theorem Ch_played_c {C : zC} {n0 : Nat} {a0 : Nat} {a1 : Int32} {κ : zS} {Q : Int64 → zS → Prop} {X : zXp} (W : zW C n0 κ) (Ta0 : zT κ a0 = 15) (ρ : Nat → Nat) (L9 : Int) (hp : chI9 ρ κ a0 L9) (h : ∀ (v : Int64) (κ' : zS), (κ = κ') → Q v κ') (hx : ∀ (cls : String) (κ' : zS), (cls = "java/lang/IndexOutOfBoundsException" ∧ κ' = ut κ) → X cls κ') : zRun C 8 mCh_played [.ref a0, .int a1] κ (oJ Q X) := by
  refine Ch_played_run W Ta0 ?_
  replace W := W.lo (Nat.le_trans W.1.2.1 W.1.2.2) (Nat.le_refl (zn κ))
  unfold w_Ch_played_0
  have E := hp.2.2.2.2.2.1
  have e5 : (5 : Int32).toInt = 5 := rfl
  have hj18 : ∀ (l0 : Nat) (l1 : Int32) (s0 : Int32) (τ : zS), zW C (zn κ) τ → zT τ l0 = 15 → (κ = τ ∧ a0 = l0 ∧ a1 = l1 ∧ 0 ≤ s0.toInt ∧ s0.toInt ≤ 34) → w_Ch_played_18 C (zn κ) Q X  l0 l1 s0 τ := by
    rintro _ _ y18_s0 _ W18 T18_0 ⟨rfl, rfl, rfl, j18⟩
    unfold w_Ch_played_18
    refine ⟨fun c1 => ?_, fun c1 => ?_⟩
    · skip
      intro κ_2 hκ_2
      refine hx _ _ ?_
      · exact ⟨rfl, hκ_2⟩  -- x1
    · skip
      refine ⟨fun c3 => ?_, fun c3 => ?_⟩
      · skip
        refine ⟨fun c4 => ?_, fun c4 => ?_⟩
        · skip
          refine ⟨fun c5 => ?_, fun c5 => ?_⟩
          · skip
            refine ⟨?_, ?_⟩
            · have s5 : ((5 : Int32) + y18_s0).toInt = 5 + y18_s0.toInt := by rw [add_i (by rw [e5]; omega) (by rw [e5]; omega), e5]
              rw [lti, s5] at c3
              rw [lei, e5] at c5
              rw [inb_iff, E.2.1.2, sub_i (by rw [e5]; omega) (by rw [e5]; omega), e5]
              omega
            refine h _ _ ?_
            · exact rfl  -- q3
          · skip
            refine ⟨?_, ?_⟩
            · rw [lti, t0i] at c1
              rw [lei, e5] at c5
              rw [inb_iff, E.2.1.1]
              omega
            refine h _ _ ?_
            · exact rfl  -- q5
        · skip
          refine h _ _ ?_
          · exact rfl  -- q6
      · skip
        intro κ_6 hκ_6
        refine hx _ _ ?_
        · exact ⟨rfl, hκ_6⟩  -- x7
  refine ⟨fun c7 => ?_, fun c7 => ?_⟩
  · skip
    refine hj18 _ _ _ _ W ?_ ?_
    · exact Ta0  -- t8
    · exact ⟨rfl, rfl, rfl, by decide, by decide⟩  -- k9
  · skip
    intro T8
    refine Co_shared_c W T8  ?_ (fun r9 q11 => ?_)
    · exact hp.1.2.1.1.1  -- p10
    intro W12
    intro M13
    refine hj18 _ _ _ _ W12 ?_ ?_
    · exact Ta0  -- t11
    · obtain ⟨-, hv, ha, hc, -⟩ := hp.1.2.1.1.1
      exact ⟨rfl, rfl, rfl, by omega, by omega⟩

end
section
set_option maxHeartbeats 1600000
/-! the class: ChanceWorks' showsNow, show -/
theorem so_un9 {ρ : Nat → Nat} {R : Nat → Prop} {ca x K : Nat} (hK : K ≠ 8 ∧ K ≠ 11 ∧ K ≠ 4) : un9 (soF ρ R ca) x K := fun f hf z => by
  rcases z with ⟨_, z | z | z⟩ | ⟨_, z | z | z | z⟩
  · rw [z] at hf; exact hK.1 hf.symm
  · rw [z] at hf; exact hK.1 hf.symm
  · rw [z] at hf; exact hK.2.1 hf.symm
  · rw [z] at hf; exact hK.2.2 hf.symm
  · rw [z] at hf; exact hK.2.2 hf.symm
  · rw [z] at hf; exact hK.2.2 hf.symm
  · rw [z] at hf; exact hK.2.2 hf.symm
/-- a call that works with numbers of small roles alone -/
theorem chI_n9 {C : zC} {n0 a ca : Nat} {L : Int} {ρ : Nat → Nat} {R : Nat → Prop} {κ τ : zS} (W : zW C n0 κ) (T : zT κ a = 15) (Z : zF (soF ρ R ca) κ τ) (hR : ∀ r, R r → r < 100) (N : nmI ρ τ ∧ soI ρ τ (zR κ chSolver a)) (hl : nuN τ (zR κ soLess (zR κ chSolver a)) < pB9 4000) (I : chI9 ρ κ a L) : chI9 ρ τ a L ∧ (∃ F, zF F κ τ) ∧ zI τ chTolds a = zI κ chTolds a := by
  obtain ⟨⟨A1, ⟨⟨A2, A3⟩, A4⟩, A5, A6⟩, B, ⟨C1, C2, C3, C4⟩, ⟨S1, S2⟩, ⟨D1, D2, D3, ⟨D4, D5⟩, D6, D7⟩, E0, L0, K0⟩ := I
  have tA := ty_chAtlas W T
  have tS := ty_chSolver W T
  have tO := ty_chOdds W T
  have tm := ty_chMachine W T
  have E := chE_u9 W T Z (so_un9 (by decide)) E0
  have o := E.2.1
  have ma : maL κ (zR κ chMachine a) := by
    have y := B.1.2.1
    rw [B.2.1] at y
    exact y
  have hB := chB_u9 W T Z (fun f hf _ _ => o f hf) (so_un9 (by decide)) (so_un9 (by decide)) (so_un9 (by decide)) (so_un9 (by decide)) (fun _ => so_un9 (by decide)) (ma_u9 Z W tm (so_un9 (by decide)) ma) B
  have hS := pw_r9 W tS C1 (Z.mono (fun f b z => (Or.inl z : pwF9 ρ R ca (zR κ chSolver a) f b))) (fun r z => Or.inl (hR r z)) N hl
  have P := pa_u9 Z W (ty_chParser W T) (so_un9 (by decide)) A5
  have K1 := co_u9 Z W (ty_chCode W T) (so_un9 (by decide))
  have K2 := co_u9 Z W (ty_chSpare W T) (so_un9 (by decide))
  have G := odd_u9 Z W tO (so_un9 (by decide))
  have H := ho_u9 (M := 3000) (D := 3) (S := 8192) Z W (ty_odGroups W tO) (so_un9 (by decide))
  have A := ta_u9 Z W (ty_chTape W T) (so_un9 (by decide)) A1
  have rS : ∀ f, f / 100 = 12 → zR τ f (zR κ chSolver a) = zR κ f (zR κ chSolver a) := fun f hf => Z.r (so_un9 (by decide) f hf)
  have iS : ∀ f, f / 100 = 12 → zI τ f (zR κ chSolver a) = zI κ f (zR κ chSolver a) := fun f hf => Z.i (so_un9 (by decide) f hf)
  have nv : zN τ (zR κ soVisits (zR κ chSolver a)) = zN κ (zR κ soVisits (zR κ chSolver a)) := Z.l (ty_soVisits W tS)
  have nw := hS.2.2.2
  rw [rS soWorths (by decide)] at nw
  refine ⟨⟨⟨?_, ?_, ?_⟩, hB.1, ?_, ?_, ?_, E.1, ?_, ?_⟩, ⟨_, Z⟩, E.2.2⟩
  · rw [o chTape (by decide)]; exact A.1
  · rw [o chCode (by decide), o chSpare (by decide)]
    exact ⟨⟨K1.1 A2, K2.1 A3⟩, A4⟩
  · rw [o chParser (by decide), o chTape (by decide)]
    exact ⟨P.1, P.2.trans A6⟩
  · unfold chC9
    rw [o chSolver (by decide), o chAtlas (by decide), o chShown (by decide), rS soTaken (by decide), rS soAtlas (by decide), rS soWeb (by decide), Z.l (ty_soTaken W tS), hB.2.2.2 atWeb (by decide)]
    exact ⟨hS.1, C2, C3, C4⟩
  · unfold chS9
    rw [o chSolver (by decide), o chAtlas (by decide), iS soSolved (by decide), iS soPlanned (by decide), rS soVisits (by decide), rS soWorths (by decide), nv, nw.1, nw.2, hB.2.2.1]
    refine ⟨fun z => ?_, fun z => ?_⟩
    · obtain ⟨x1, P9, x2, x3⟩ := S1 z
      refine ⟨x1, P9, x2, fun n hn => ?_⟩
      have hn' := (hB.2.1 n).mp hn
      have y := x3 n hn'
      exact ⟨hS.2.2.1 n P9 hn'.2.2.1 y.1, y.2⟩
    · obtain ⟨x1, x3⟩ := S2 z
      exact ⟨x1, fun n hn => x3 n ((hB.2.1 n).mp hn)⟩
  · unfold chD9
    rw [o chSolver (by decide), o chAtlas (by decide), o chOdds (by decide), G.2.2.2.2, G.2.2.1, G.2.2.2.1, G.1 odAtlas (by decide), G.1 odSolver (by decide), G.1 odCalc (by decide), G.1 odHeld (by decide), G.1 odGroups (by decide), rS soCalc (by decide), hB.2.2.2 atStates (by decide), hB.2.2.2 atEndings (by decide)]
    exact ⟨D1, D2, ⟨G.2.1 D3.1, D3.2⟩, ⟨H.1 D4, D5⟩, D6, D7⟩
  · rw [o chTape (by decide), A.2]; exact L0
  · exact cK_z9 W T Z (o chSolver (by decide)) (o chOdds (by decide)) (fun b _ => soF_no9 (by decide)) (fun f hf => so_un9 (K := 12) (by decide) f (by rcases hf with y | y | y <;> rw [y] <;> rfl)) (Nat.le_of_eq (nE_z9 W tO Z (so_un9 (K := 9) (by decide) odEdges rfl)).symm) K0
/-- what Odds reads, where all is solved -/
theorem ch_o9 {a : Nat} {L : Int} {ρ : Nat → Nat} {κ : zS} (I : chI9 ρ κ a L) : ∃ n P, zI κ soSolved (zR κ chSolver a) ≠ 0 → odX9 ρ κ (zR κ chOdds a) n P ∧ (0 < P ∧ P < pB9 1490) ∧ atW κ (zR κ chAtlas a) n ∧ vsI9 ρ κ (zR κ chSolver a) n P ∧ n ≤ (zN κ (zR κ soVisits (zR κ chSolver a))) := by
  by_cases z : zI κ soSolved (zR κ chSolver a) = 0
  · exact ⟨0, 0, fun y => absurd z y⟩
  · obtain ⟨x1, P, x2, x3⟩ := I.2.2.2.1.1 z
    obtain ⟨⟨n, hn⟩, G⟩ := ch_x9 I x1
    have y := x3 n hn
    have D := I.2.2.2.2.1
    refine ⟨n, P, fun _ => ⟨?_, x2, hn, y.1, y.2⟩⟩
    unfold odX9
    rw [D.1.1, D.1.2.1, D.1.2.2]
    refine ⟨⟨I.2.2.1.2.2.1.1, rfl⟩, D.2.1, ⟨hn, y.2⟩, y.1, ⟨G.2, fun e => (I.2.1.2.2 x1).2 ?_⟩, G.1.2⟩
    have t := hn.2.2.2.1
    omega
theorem Ch_showsNow_c {C : zC} {n0 : Nat} {a0 : Nat} {a1 : Int32} {κ : zS} {Q : Int32 → zS → Prop} (W : zW C n0 κ) (Ta0 : zT κ a0 = 15) (ρ : Nat → Nat) (n9 P9 : Nat) (hp : zI κ soSolved (zR κ chSolver a0) ≠ 0 → odX9 ρ κ (zR κ chOdds a0) n9 P9) (h : ∀ (v : Int32), (nb v ∧ (v ≠ 0 → (¬ a1 = 12 → ¬ a1 = 11 → zI κ soSolved (zR κ chSolver a0) ≠ 0) ∧ (a1 = 11 → zI κ soPlanned (zR κ chSolver a0) ≠ 0))) → Q v κ) : zRun C 6 mCh_showsNow [.ref a0, .int a1] κ (oI Q noX) := by
  refine Ch_showsNow_run W Ta0 ?_
  replace W := W.lo (Nat.le_trans W.1.2.1 W.1.2.2) (Nat.le_refl (zn κ))
  unfold w_Ch_showsNow_0
  have tS := ty_chSolver W Ta0
  refine ⟨fun c1 => ?_, fun c1 => ?_⟩
  · skip
    refine ⟨fun c2 => ?_, fun c2 => ?_⟩
    · skip
      refine ⟨fun c3 => ?_, fun c3 => ?_⟩
      · skip
        refine ⟨fun c4 => ?_, fun c4 => ?_⟩
        · skip
          refine ⟨fun c5 => ?_, fun c5 => ?_⟩
          · skip
            refine h _ ?_
            · exact ⟨nb_1, fun _ => ⟨fun _ _ => c3, fun z => absurd z c2⟩⟩  -- q1
          · skip
            intro T6
            refine Od_weighs_c W T6 ρ n9 P9 ?_ (fun r7 q9 => ?_)
            · exact hp c3  -- p2
            intro W10
            intro M11
            refine ⟨fun c12 => ?_, fun c12 => ?_⟩
            · skip
              refine h _ ?_
              · exact ⟨nb_0, fun z => absurd rfl z⟩  -- q3
            · skip
              refine h _ ?_
              · exact ⟨nb_1, fun _ => ⟨fun _ _ => c3, fun z => absurd z c2⟩⟩  -- q4
        · skip
          intro T13
          refine Od_weighs_c W T13 ρ n9 P9 ?_ (fun r14 q16 => ?_)
          · exact hp c3  -- p5
          intro W17
          intro M18
          refine ⟨?_, h _ ?_⟩
          · exact q16  -- b6
          · exact ⟨q16, fun _ => ⟨fun _ _ => c3, fun z => absurd z c2⟩⟩  -- q7
      · skip
        refine h _ ?_
        · exact ⟨nb_0, fun z => absurd rfl z⟩  -- q8
    · skip
      refine ⟨?_, h _ ?_⟩
      · exact W.2.2.2.2.2.1 soPlanned _ (by decide) (tS.trans (by decide))  -- b9
      · exact ⟨W.2.2.2.2.2.1 soPlanned _ (by decide) (tS.trans (by decide)), fun z => ⟨fun _ y => absurd c2 y, fun _ => z⟩⟩  -- q10
  · skip
    refine ⟨?_, h _ ?_⟩
    · exact W.2.2.2.2.2.1 chPlayMade _ (by decide) (Ta0.trans (by decide))  -- b11
    · exact ⟨W.2.2.2.2.2.1 chPlayMade _ (by decide) (Ta0.trans (by decide)), fun _ => ⟨fun y => absurd c1 y, fun y => by rw [y] at c1; exact absurd c1 (by decide)⟩⟩  -- q12

theorem Ch_show_c {C : zC} {n0 : Nat} {a0 : Nat} {a1 : Int32} {a2 : Int32} {κ : zS} {Q : Int32 → zS → Prop} {X : zXp} (W : zW C n0 κ) (Ta0 : zT κ a0 = 15) (ρ : Nat → Nat) (L9 : Int) (n9 P9 : Nat) (hp : chI9 ρ κ a0 L9 ∧ (zI κ soSolved (zR κ chSolver a0) ≠ 0 → odX9 ρ κ (zR κ chOdds a0) n9 P9 ∧ (0 < P9 ∧ P9 < pB9 1490) ∧ atW κ (zR κ chAtlas a0) n9 ∧ vsI9 ρ κ (zR κ chSolver a0) n9 P9 ∧ n9 ≤ (zN κ (zR κ soVisits (zR κ chSolver a0))))) (h : ∀ (v : Int32) (κ' : zS), (chI9 ρ κ' a0 L9 ∧ (∃ F, zF F κ κ') ∧ zI κ' chTolds a0 = zI κ chTolds a0) → Q v κ') (hx : ∀ (cls : String) (κ' : zS), ((cls = "java/lang/IllegalArgumentException" ∨ cls = "java/lang/IllegalStateException" ∨ cls = "java/lang/IndexOutOfBoundsException") ∧ κ' = ut κ) → X cls κ') : zRun C 8 mCh_show [.ref a0, .int a1, .int a2] κ (oI Q X) := by
  refine Ch_show_run W Ta0 ?_
  replace W := W.lo (Nat.le_trans W.1.2.1 W.1.2.2) (Nat.le_refl (zn κ))
  unfold w_Ch_show_0
  obtain ⟨I, hX⟩ := hp
  have tS := ty_chSolver W Ta0
  have NS := I.2.2.1.1.1
  have h30 := I.2.2.1.2.2.2
  have J := ch_n9 I
  have D1 := I.2.2.2.2.1.1
  have hj156 : ∀ (l0 : Nat) (l1 : Int32) (l2 : Int32) (τ : zS), zW C (zn κ) τ → zT τ l0 = 15 → (κ = τ ∧ a0 = l0 ∧ a1 = l1 ∧ a2 = l2 ∧ zI κ soSolved (zR κ chSolver a0) ≠ 0) → w_Ch_show_156 C (zn κ) Q X  l0 l1 l2 τ := by
    rintro _ _ _ _ W156 T156_0 ⟨rfl, rfl, rfl, rfl, j156⟩
    unfold w_Ch_show_156
    intro T1
    intro T2
    refine Od_showWeight_c W156 T1 T2 ρ n9 P9 ?_ (fun κ_3 q4 => ?_)
    · have X := hX j156
      rw [D1.2.1]
      exact ⟨NS, X.1, X.2.1, h30⟩
    intro W5
    intro M6
    refine h _ _ ?_
    · rw [D1.2.1] at q4
      exact chI_n9 W Ta0 q4.1.1 (fun r z => z) ⟨q4.1.2.1, q4.1.2.2⟩ q4.2 I
  have hj90 : ∀ (l0 : Nat) (l1 : Int32) (l2 : Int32) (τ : zS), zW C (zn κ) τ → zT τ l0 = 15 → (κ = τ ∧ a0 = l0 ∧ a1 = l1 ∧ a2 = l2 ∧ ((¬ a1 = 12 → ¬ a1 = 11 → zI κ soSolved (zR κ chSolver a0) ≠ 0) ∧ (a1 = 11 → zI κ soPlanned (zR κ chSolver a0) ≠ 0)) ∧ (a1 = 8 ∨ a1 = 11 → zI κ atExplored (zR κ chAtlas a0) ≠ 0 ∧ 0 ≤ a2.toInt ∧ a2.toInt < (zI κ hoTotal (zR κ atStates (zR κ chAtlas a0))).toInt)) → w_Ch_show_90 C (zn κ) Q X  l0 l1 l2 τ := by
    rintro _ _ _ _ W90 T90_0 ⟨rfl, rfl, rfl, rfl, j90⟩
    unfold w_Ch_show_90
    refine ⟨fun c7 => ?_, fun c7 => ?_⟩
    · skip
      refine ⟨fun c8 => ?_, fun c8 => ?_⟩
      · skip
        refine ⟨fun c9 => ?_, fun c9 => ?_⟩
        · skip
          refine hj156 _ _ _ _ W90 ?_ ?_
          · exact Ta0  -- t3
          · exact ⟨rfl, rfl, rfl, rfl, j90.1.1 c7 c8⟩  -- k4
        · skip
          refine ⟨fun c10 => ?_, fun c10 => ?_⟩
          · skip
            refine hj156 _ _ _ _ W90 ?_ ?_
            · exact Ta0  -- t5
            · exact ⟨rfl, rfl, rfl, rfl, j90.1.1 c7 c8⟩  -- k6
          · skip
            intro T11
            intro T12
            refine So_showVisits_c W90 T11 T12 ρ n9 P9 ?_ (fun κ_13 q14 => ?_)
            · have X := hX (j90.1.1 c7 c8)
              refine ⟨NS, ⟨by rw [I.2.2.1.2.2.1.1]; exact X.2.2.1, X.2.2.2.2⟩, X.2.2.2.1, X.2.1, h30, fun z => ?_⟩
              have y := j90.2 (Or.inl z)
              have t := X.2.2.1.2.2.2.1
              exact ⟨y.2.1, by omega⟩
            intro W15
            intro M16
            refine h _ _ ?_
            · refine chI_n9 W Ta0 q14.1.1 (fun r z => z) ⟨q14.1.2.1, q14.1.2.2⟩ ?_ I
              rcases q14.2 with y | y
              · exact y
              · rw [y]; exact I.2.2.1.1.2.2.2.2.2.2
      · skip
        have H11 : zI κ soPlanned (zR κ chSolver a0) ≠ 0 → (zI κ atExplored (zR κ chAtlas a0) ≠ 0 ∧ 0 ≤ a2.toInt ∧ a2.toInt < (zI κ hoTotal (zR κ atStates (zR κ chAtlas a0))).toInt) → (a2.toInt < (zN κ (zR κ soWorths (zR κ chSolver a0))) ∧ a2.toNatClampNeg < 1000) ∧ ∃ u, zQ κ (zR κ soWorths (zR κ chSolver a0)) a2.toNatClampNeg = some u := fun y1 y2 => by
          obtain ⟨x1, x3⟩ := I.2.2.2.1.2 y1
          obtain ⟨⟨n, hn⟩, _⟩ := ch_x9 I x1
          have t := hn.2.2.2.1
          have t3 := hn.2.2.1
          have k := cnk y2.2.1
          have z := x3 n hn
          exact ⟨⟨by omega, by omega⟩, z.2 _ (by omega)⟩
        refine ⟨?_, ?_⟩
        · have y2 := j90.2 (Or.inr c8)
          have H := H11 (j90.1.2 c8) y2
          rw [inb_iff]
          exact ⟨y2.2.1, H.1.1⟩
        refine ex_some ?_ (fun u17 hu17 => ?_)
        · exact (H11 (j90.1.2 c8) (j90.2 (Or.inr c8))).2  -- e10
        intro T18
        intro T19
        have hw := I.2.2.1.1.2.2.2.2.1.1 _ u17 (H11 (j90.1.2 c8) (j90.2 (Or.inr c8))).1.2 hu17
        have hr : raR (104 + 8 * a2.toNatClampNeg) := Or.inr (Or.inr ⟨by omega, by have := (H11 (j90.1.2 c8) (j90.2 (Or.inr c8))).1.2; omega, by omega⟩)
        have q := NS.1.2 u17 (by rw [hw]; exact hr)
        rw [hw] at q
        have q30 := ra_t9 NS.1 h30 (Or.inr rfl)
        have g1 := nm_g NS.1 q.2.1 (raR_n hr).1 (by omega)
        have g2 := nm_g NS.1 q.2.2 (raR_n hr).2 (by omega)
        have c1 : capR (104 + 8 * a2.toNatClampNeg + 1) = 20 := by
          have := (H11 (j90.1.2 c8) (j90.2 (Or.inr c8))).1.2
          unfold capR
          rw [if_neg (by omega), if_pos (by omega)]
        have c2 : capR (104 + 8 * a2.toNatClampNeg + 2) = 20 := by
          have := (H11 (j90.1.2 c8) (j90.2 (Or.inr c8))).1.2
          unfold capR
          rw [if_neg (by omega), if_pos (by omega)]
        rw [c1] at g1
        rw [c2] at g2
        have k1 := nuK_c9 g1.1
        have k2 := nuK_c9 g2.1
        refine Ra_copy_c W90 T18 T19 6500 ?_ (fun κ_20 q21 => ?_)
        · refine ⟨q30.2.1, ⟨g1.2.1, g2.2.1, ro_n q.2.1 q.2.2 (by omega)⟩, ⟨ro_n q30.1.1 q.2.1 (by omega), ro_n q30.1.1 q.2.2 (by omega), ro_n q30.1.2 q.2.1 (by omega), ro_n q30.1.2 q.2.2 (by omega)⟩, ⟨by omega, by omega⟩, by decide⟩  -- p11
        intro W22
        intro M23
        refine h _ _ ?_
        · have rt := raF_r q21.1 (f := raTop) (x := zR κ chShown a0) (by decide) (by decide) (by decide)
          have rb := raF_r q21.1 (f := raBottom) (x := zR κ chShown a0) (by decide) (by decide) (by decide)
          have y := q21.2.1
          unfold raJ at y
          rw [rt, rb] at y
          have M := nm_ra W tS NS.1 NS.2 h30 (Or.inr (Or.inl rfl)) q21.1 y.1 y.2.1
          have tl := ty_soLess W tS
          have l8 : ρ (zR κ soLess (zR κ chSolver a0)) = 8 := NS.2.1.2.2.2.2.2.1
          have nl := (soF_B (c := 0) W tl (M.2 0) (by rw [l8]; decide)).2.1
          exact chI_n9 W Ta0 (M.2 0) (fun r z => by rcases z with z | z | z <;> omega) M.1 (by rw [nl]; exact I.2.2.1.1.2.2.2.2.2.2) I
    · skip
      intro T24
      refine Ch_showPlay_c W90 T24  ?_ (fun κ_25 q26 => ?_)
      · exact ⟨(ra_t9 NS.1 h30 (Or.inr rfl)).2.1, I.2.2.2.2.2.1.2.2.2.2, I.2.2.2.2.2.1.2.1.1⟩  -- p13
      intro W27
      intro M28
      refine h _ _ ?_
      · have rt := raF_r q26.1 (f := raTop) (x := zR κ chShown a0) (by decide) (by decide) (by decide)
        have rb := raF_r q26.1 (f := raBottom) (x := zR κ chShown a0) (by decide) (by decide) (by decide)
        have y := q26.2
        unfold raJ at y
        rw [rt, rb] at y
        have M := nm_ra W tS NS.1 NS.2 h30 (Or.inr (Or.inl rfl)) q26.1 y.1 y.2.1
        have tl := ty_soLess W tS
        have l8 : ρ (zR κ soLess (zR κ chSolver a0)) = 8 := NS.2.1.2.2.2.2.2.1
        have nl := (soF_B (c := 0) W tl (M.2 0) (by rw [l8]; decide)).2.1
        exact chI_n9 W Ta0 (M.2 0) (fun r z => by rcases z with z | z | z <;> omega) M.1 (by rw [nl]; exact I.2.2.1.1.2.2.2.2.2.2) I
  have hj68 : ∀ (l0 : Nat) (l1 : Int32) (l2 : Int32) (τ : zS), zW C (zn κ) τ → zT τ l0 = 15 → (κ = τ ∧ a0 = l0 ∧ a1 = l1 ∧ a2 = l2 ∧ ((¬ a1 = 12 → ¬ a1 = 11 → zI κ soSolved (zR κ chSolver a0) ≠ 0) ∧ (a1 = 11 → zI κ soPlanned (zR κ chSolver a0) ≠ 0))) → w_Ch_show_68 C (zn κ) Q X  l0 l1 l2 τ := by
    rintro _ _ _ _ W68 T68_0 ⟨rfl, rfl, rfl, rfl, j68⟩
    unfold w_Ch_show_68
    intro T29
    refine At_holds_c W68 T29  (fun r30 q32 => ?_)
    intro W33
    intro M34
    refine ⟨fun c35 => ?_, fun c35 => ?_⟩
    · skip
      refine hj90 _ _ _ _ W33 ?_ ?_
      · exact Ta0  -- t15
      · exact ⟨rfl, rfl, rfl, rfl, j68, fun _ => q32.2 c35⟩  -- k16
    · skip
      intro κ_36 hκ_36
      refine hx _ _ ?_
      · exact ⟨Or.inr (Or.inr rfl), hκ_36⟩  -- x17
  have hj56 : ∀ (l0 : Nat) (l1 : Int32) (l2 : Int32) (τ : zS), zW C (zn κ) τ → zT τ l0 = 15 → (κ = τ ∧ a0 = l0 ∧ a1 = l1 ∧ a2 = l2 ∧ ((¬ a1 = 12 → ¬ a1 = 11 → zI κ soSolved (zR κ chSolver a0) ≠ 0) ∧ (a1 = 11 → zI κ soPlanned (zR κ chSolver a0) ≠ 0))) → w_Ch_show_56 C (zn κ) Q X  l0 l1 l2 τ := by
    rintro _ _ _ _ W56 T56_0 ⟨rfl, rfl, rfl, rfl, j56⟩
    unfold w_Ch_show_56
    refine ⟨fun c37 => ?_, fun c37 => ?_⟩
    · skip
      refine hj68 _ _ _ _ W56 ?_ ?_
      · exact Ta0  -- t18
      · exact ⟨rfl, rfl, rfl, rfl, j56⟩  -- k19
    · skip
      refine ⟨fun c38 => ?_, fun c38 => ?_⟩
      · skip
        refine hj90 _ _ _ _ W56 ?_ ?_
        · exact Ta0  -- t20
        · exact ⟨rfl, rfl, rfl, rfl, j56, fun z => z.elim (fun y => absurd y c37) (fun y => absurd y c38)⟩  -- k21
      · skip
        refine hj68 _ _ _ _ W56 ?_ ?_
        · exact Ta0  -- t22
        · exact ⟨rfl, rfl, rfl, rfl, j56⟩  -- k23
  refine ⟨fun c39 => ?_, fun c39 => ?_⟩
  · skip
    intro κ_40 hκ_40
    refine hx _ _ ?_
    · exact ⟨Or.inl rfl, hκ_40⟩  -- x24
  · skip
    refine ⟨fun c41 => ?_, fun c41 => ?_⟩
    · skip
      intro T42
      refine Ch_showsNow_c W T42 ρ n9 P9 ?_ (fun r43 q45 => ?_)
      · exact fun z => (hX z).1  -- p25
      intro W46
      intro M47
      refine ⟨fun c48 => ?_, fun c48 => ?_⟩
      · skip
        refine ⟨fun c49 => ?_, fun c49 => ?_⟩
        · skip
          refine hj56 _ _ _ _ W46 ?_ ?_
          · exact Ta0  -- t26
          · exact ⟨rfl, rfl, rfl, rfl, q45.2 c48⟩  -- k27
        · skip
          intro T50
          refine At_holdsEnding_c W46 T50  (fun r51 q53 => ?_)
          intro W54
          intro M55
          refine ⟨fun c56 => ?_, fun c56 => ?_⟩
          · skip
            intro κ_57 hκ_57
            refine hx _ _ ?_
            · exact ⟨Or.inr (Or.inr rfl), hκ_57⟩  -- x28
          · skip
            refine hj56 _ _ _ _ W54 ?_ ?_
            · exact Ta0  -- t29
            · exact ⟨rfl, rfl, rfl, rfl, q45.2 c48⟩  -- k30
      · skip
        intro κ_58 hκ_58
        refine hx _ _ ?_
        · exact ⟨Or.inr (Or.inl rfl), hκ_58⟩  -- x31
    · skip
      intro κ_59 hκ_59
      refine hx _ _ ?_
      · exact ⟨Or.inl rfl, hκ_59⟩  -- x32

end
section
set_option maxHeartbeats 1600000
/-! the class: show, by its value -/
noncomputable def sq16 (κ : zS) (a : Nat) (σ : rS) (V U : Nat → Rat) (n : Nat) (kind v : Int32) : Rat :=
  if kind = 12 then pd16 (dW16 κ a) (dT16 κ a) (dC16 κ a).toNat
  else if kind = 11 then U v.toNatClampNeg
  else if kind < 7 ∨ 9 < kind then tK16 κ (zR κ chSolver a) σ V kind v n * (dK16 κ (zR κ chSolver a) σ V kind v n)⁻¹
  else if kind = 8 then V v.toNatClampNeg
  else vs16 V (gg16 κ (zR κ chSolver a)) kind n
def sB16 (κ : zS) (a : Nat) (σ : rS) (V : Nat → Rat) (n : Nat) (kind : Int32) : Prop := (kind = 12 ∧ zI κ chPlayMade a ≠ 0) ∨ (kind = 11 ∧ zI κ soPlanned (zR κ chSolver a) ≠ 0) ∨ (¬ kind = 12 ∧ ¬ kind = 11 ∧ zI κ soSolved (zR κ chSolver a) ≠ 0 ∧ (¬ 1 < kind → n = 0 ∨ ∃ k, k < n ∧ uV16 σ V 6 0 k ≠ 0) ∧ (kind = 10 → n = 0 ∨ ∃ k, k < n ∧ uV16 σ V 7 0 k ≠ 0))
def sD16 (κ : zS) (a : Nat) (kind v : Int32) : Prop := (kind = 2 → 0 ≤ v.toInt ∧ v.toInt < (zI κ hoTotal (zR κ atEndings (zR κ chAtlas a))).toInt) ∧ (kind = 8 ∨ kind = 11 → 0 ≤ v.toInt ∧ v.toInt < (zI κ hoTotal (zR κ atStates (zR κ chAtlas a))).toInt)
theorem uV_616 {σ : rS} {V : Nat → Rat} {v : Int32} {k : Nat} : uV16 σ V 6 v k = uV16 σ V 6 0 k := by
  have e : si16 σ 6 v = si16 σ 6 0 := by
    funext i
    unfold si16
    rw [sh_616, sh_616]
  unfold uV16
  rw [e]
theorem uV_716 {σ : rS} {V : Nat → Rat} {v : Int32} {k : Nat} : uV16 σ V 7 v k = uV16 σ V 7 0 k := by
  have e : si16 σ 7 v = si16 σ 7 0 := by
    funext i
    unfold si16
    rw [sh_716, sh_716]
  unfold uV16
  rw [e]
theorem uV_n16 {κ : zS} {b n : Nat} {σ : rS} {V : Nat → Rat} {a v : Int32} (h : tbl15 κ b n σ) {k : Nat} (hk : k < n) (h0 : 0 ≤ a.toInt) (h7 : a.toInt ≤ 7) : 0 ≤ uV16 σ V a v k := by
  unfold uV16
  split
  · exact Int.le_refl 0
  · refine sI_n16 (fun d hd => Int.mul_nonneg (tw_n16 h hk hd) ?_)
    unfold si16
    exact sh_n16 h0 h7
theorem sK_p16 {κ : zS} {a b n : Nat} {σ : rS} {V : Nat → Rat} {kind v : Int32} (h : tbl15 κ b n σ) (hV : vV15 κ a n V) (hk : kind = 6 ∨ kind = 7) (c : n = 0 ∨ ∃ k, k < n ∧ uV16 σ V kind v k ≠ 0) : 0 < sK16 κ a σ V kind v n := by
  have h0 : 0 ≤ kind.toInt := by rcases hk with z | z <;> rw [z] <;> decide
  have h7 : kind.toInt ≤ 7 := by rcases hk with z | z <;> rw [z] <;> decide
  unfold sK16
  by_cases z : n = 0
  · have e : al16 n kind v = 1 := by
      unfold al16
      rw [if_pos z]
      rcases hk with y | y <;> rw [y]
      · rw [sh_616]; rfl
      · rw [sh_716]; rfl
    have i1 : ((1 : Int) : Rat) = 1 := rfl
    have w0 : wK16 κ a σ V kind v n = 0 := by rw [z]; rfl
    rw [e, w0, i1, Rat.add_zero]
    decide
  · obtain ⟨k, k1, k2⟩ := c.resolve_left z
    have e : al16 n kind v = 0 := if_neg z
    have i0 : ((0 : Int) : Rat) = 0 := rfl
    rw [e, i0, Rat.zero_add]
    have nn : ∀ i, i < n → 0 ≤ un15 κ a V i * ((uV16 σ V kind v i : Int) : Rat) := fun i hi => Rat.mul_nonneg (un_p15 (hV i hi).2) (by
      have y : ((0 : Int) : Rat) ≤ ((uV16 σ V kind v i : Int) : Rat) := Rat.intCast_le_intCast.mpr (uV_n16 h hi h0 h7)
      exact y)
    have g := smQ_ge nn k1
    have v0 : V k ≠ 0 := fun y => k2 (by
      unfold uV16
      rw [if_pos y])
    have v1 := (hV k k1).2
    have p1 : 0 < un15 κ a V k := by
      unfold un15
      refine Rat.mul_pos (by grind) ?_
      have i1 : ((1 : Int) : Rat) = 1 := rfl
      rw [mk_d, i1, Rat.one_mul]
      exact Rat.inv_pos.mpr (nq0 dvN9_p)
    have p2 : (0 : Rat) < ((uV16 σ V kind v k : Int) : Rat) := by
      have y := uV_n16 (V := V) (v := v) h k1 h0 h7
      have y2 : ((0 : Int) : Rat) < ((uV16 σ V kind v k : Int) : Rat) := Rat.intCast_lt_intCast.mpr (by omega)
      exact y2
    have p := Rat.mul_pos p1 p2
    show 0 < smQ (fun k => un15 κ a V k * ((uV16 σ V kind v k : Int) : Rat)) n
    grind
theorem dK_p16 {κ : zS} {a b n : Nat} {σ : rS} {V : Nat → Rat} {kind v : Int32} (h : tbl15 κ b n σ) (hV : vV15 κ a n V) (h0 : 0 ≤ kind.toInt) (c6 : ¬ 1 < kind → n = 0 ∨ ∃ k, k < n ∧ uV16 σ V 6 0 k ≠ 0) (c7 : kind = 10 → n = 0 ∨ ∃ k, k < n ∧ uV16 σ V 7 0 k ≠ 0) : 0 < dK16 κ a σ V kind v n := by
  unfold dK16
  by_cases e : aK16 kind = kind
  · rw [if_pos e]; decide
  · rw [if_neg e]
    rcases aK_16 h0 e with ⟨y, y2⟩ | ⟨y, y2⟩
    · rw [y2]
      refine sK_p16 h hV (Or.inl rfl) ((c6 (by rcases y with y | y <;> rw [y] <;> decide)).imp id (fun ⟨k, k1, k2⟩ => ⟨k, k1, by rw [uV_616]; exact k2⟩))
    · rw [y2]
      refine sK_p16 h hV (Or.inr rfl) ((c7 y).imp id (fun ⟨k, k1, k2⟩ => ⟨k, k1, by rw [uV_716]; exact k2⟩))
theorem At_holds_q6 {C : zC} {n0 : Nat} {a0 : Nat} {a1 : Int32} {κ : zS} {Q : Int32 → zS → Prop} (W : zW C n0 κ) (Ta0 : zT κ a0 = 3)  (h9 : ∀ (v : Int32), ((nb v ∧ (v ≠ 0 → zI κ atExplored a0 ≠ 0 ∧ 0 ≤ a1.toInt ∧ a1.toInt < (zI κ hoTotal (zR κ atStates a0)).toInt)) ∧ (v ≠ 0 ↔ zI κ atExplored a0 ≠ 0 ∧ 0 ≤ a1.toInt ∧ a1.toInt < (zI κ hoTotal (zR κ atStates a0)).toInt)) → Q v κ) : zRun C 0 mAt_holds [.ref a0, .int a1] κ (oI Q noX) := by
  have h : ∀ (v : Int32), (nb v ∧ (v ≠ 0 ↔ zI κ atExplored a0 ≠ 0 ∧ 0 ≤ a1.toInt ∧ a1.toInt < (zI κ hoTotal (zR κ atStates a0)).toInt)) → Q v κ := fun v z => h9 v ⟨⟨z.1, z.2.mp⟩, z.2⟩
  refine At_holds_run W Ta0 ?_
  replace W := W.lo (Nat.le_trans W.1.2.1 W.1.2.2) (Nat.le_refl (zn κ))
  unfold w_At_holds_0
  refine ⟨fun c1 => ?_, fun c1 => ?_⟩
  · refine h _ ⟨nb_0, fun z => absurd rfl z, fun z => absurd c1 z.1⟩
  · refine ⟨fun c2 => ?_, fun c2 => ?_⟩
    · refine h _ ⟨nb_0, fun z => absurd rfl z, fun z => ?_⟩
      rw [lti, t0i] at c2
      omega
    · refine ⟨fun c3 => ?_, fun c3 => ?_⟩
      · refine h _ ⟨nb_0, fun z => absurd rfl z, fun z => ?_⟩
        rw [lei] at c3
        omega
      · refine h _ ?_
        rw [lti, t0i] at c2
        rw [lei] at c3
        exact ⟨nb_1, fun _ => ⟨c1, by omega, by omega⟩, fun _ => by decide⟩
theorem At_holdsEnding_q6 {C : zC} {n0 : Nat} {a0 : Nat} {a1 : Int32} {κ : zS} {Q : Int32 → zS → Prop} (W : zW C n0 κ) (Ta0 : zT κ a0 = 3)  (h9 : ∀ (v : Int32), ((nb v ∧ (v ≠ 0 → zI κ atExplored a0 ≠ 0 ∧ 0 ≤ a1.toInt ∧ a1.toInt < (zI κ hoTotal (zR κ atEndings a0)).toInt)) ∧ (v ≠ 0 ↔ zI κ atExplored a0 ≠ 0 ∧ 0 ≤ a1.toInt ∧ a1.toInt < (zI κ hoTotal (zR κ atEndings a0)).toInt)) → Q v κ) : zRun C 0 mAt_holdsEnding [.ref a0, .int a1] κ (oI Q noX) := by
  have h : ∀ (v : Int32), (nb v ∧ (v ≠ 0 ↔ zI κ atExplored a0 ≠ 0 ∧ 0 ≤ a1.toInt ∧ a1.toInt < (zI κ hoTotal (zR κ atEndings a0)).toInt)) → Q v κ := fun v z => h9 v ⟨⟨z.1, z.2.mp⟩, z.2⟩
  refine At_holdsEnding_run W Ta0 ?_
  replace W := W.lo (Nat.le_trans W.1.2.1 W.1.2.2) (Nat.le_refl (zn κ))
  unfold w_At_holdsEnding_0
  refine ⟨fun c1 => ?_, fun c1 => ?_⟩
  · refine h _ ⟨nb_0, fun z => absurd rfl z, fun z => absurd c1 z.1⟩
  · refine ⟨fun c2 => ?_, fun c2 => ?_⟩
    · refine h _ ⟨nb_0, fun z => absurd rfl z, fun z => ?_⟩
      rw [lti, t0i] at c2
      omega
    · refine ⟨fun c3 => ?_, fun c3 => ?_⟩
      · refine h _ ⟨nb_0, fun z => absurd rfl z, fun z => ?_⟩
        rw [lei] at c3
        omega
      · refine h _ ?_
        rw [lti, t0i] at c2
        rw [lei] at c3
        exact ⟨nb_1, fun _ => ⟨c1, by omega, by omega⟩, fun _ => by decide⟩
theorem exx_16 {a n : Nat} {L : Int} {ρ : Nat → Nat} {κ : zS} {σ : rS} {V : Nat → Rat} {kind : Int32} (I : chI9 ρ κ a L) (n12 : ¬ kind = 12) (B : sB16 κ a σ V n kind) : zI κ atExplored (zR κ chAtlas a) ≠ 0 := by
  rcases B with ⟨z, _⟩ | ⟨_, p⟩ | ⟨_, _, s, _⟩
  · exact absurd z n12
  · exact (I.2.2.2.1.2 p).1
  · exact (I.2.2.2.1.1 s).1
theorem sB_t16 {κ : zS} {a n : Nat} {σ : rS} {V : Nat → Rat} {kind : Int32} (n12 : ¬ kind = 12) (n11 : ¬ kind = 11) (B : sB16 κ a σ V n kind) : (¬ 1 < kind → n = 0 ∨ ∃ k, k < n ∧ uV16 σ V 6 0 k ≠ 0) ∧ (kind = 10 → n = 0 ∨ ∃ k, k < n ∧ uV16 σ V 7 0 k ≠ 0) := by
  rcases B with ⟨z, _⟩ | ⟨z, _⟩ | ⟨_, _, _, c⟩
  · exact absurd z n12
  · exact absurd z n11
  · exact c
theorem sB_m16 {κ : zS} {a n : Nat} {σ : rS} {V : Nat → Rat} {kind : Int32} (e : kind = 12) (B : sB16 κ a σ V n kind) : zI κ chPlayMade a ≠ 0 := by
  rcases B with ⟨_, p⟩ | ⟨z, _⟩ | ⟨z, _⟩
  · exact p
  · rw [e] at z; exact absurd z (by decide)
  · exact absurd e z
theorem Ch_show_q6 {C : zC} {n0 : Nat} {a0 : Nat} {a1 : Int32} {a2 : Int32} {κ : zS} {Q : Int32 → zS → Prop} {X : zXp} (W : zW C n0 κ) (Ta0 : zT κ a0 = 15) (ρ : Nat → Nat) (L9 : Int) (n9 P9 : Nat) (σ9 : rS) (V9 U9 : Nat → Rat) (hS9 : zI κ soSolved (zR κ chSolver a0) ≠ 0 → tbl15 κ (zR κ chAtlas a0) n9 σ9 ∧ lst16 κ (zR κ chAtlas a0) σ9 ∧ vV15 κ (zR κ chSolver a0) n9 V9 ∧ lz16 κ (zR κ chAtlas a0) n9) (hU9 : zI κ soPlanned (zR κ chSolver a0) ≠ 0 → ∀ k : Nat, (k : Int) < (zI κ hoTotal (zR κ atStates (zR κ chAtlas a0))).toInt → rqW8 κ (wU9 κ (zR κ chSolver a0) k) (U9 k)) (hD9 : zI κ chPlayMade a0 ≠ 0 → dO16 κ a0) (hp : chI9 ρ κ a0 L9 ∧ (zI κ soSolved (zR κ chSolver a0) ≠ 0 → odX9 ρ κ (zR κ chOdds a0) n9 P9 ∧ (0 < P9 ∧ P9 < pB9 1490) ∧ atW κ (zR κ chAtlas a0) n9 ∧ vsI9 ρ κ (zR κ chSolver a0) n9 P9 ∧ n9 ≤ (zN κ (zR κ soVisits (zR κ chSolver a0))))) (h : ∀ (v : Int32) (κ' : zS), ((chI9 ρ κ' a0 L9 ∧ (∃ F, zF F κ κ') ∧ zI κ' chTolds a0 = zI κ chTolds a0) ∧ ((v.toInt = (sq16 κ a0 σ9 V9 U9 n9 a1 a2).num.sign ∧ rqW8 κ' (zR κ chShown a0) (sq16 κ a0 σ9 V9 U9 n9 a1 a2)) ∧ (0 ≤ a1.toInt ∧ a1.toInt ≤ 12) ∧ sB16 κ a0 σ9 V9 n9 a1 ∧ sD16 κ a0 a1 a2)) → Q v κ') (hx : ∀ (cls : String) (κ' : zS), (((cls = "java/lang/IllegalArgumentException" ∨ cls = "java/lang/IllegalStateException" ∨ cls = "java/lang/IndexOutOfBoundsException") ∧ κ' = ut κ) ∧ ((cls = "java/lang/IllegalArgumentException" ∧ ¬ (0 ≤ a1.toInt ∧ a1.toInt ≤ 12)) ∨ (cls = "java/lang/IllegalStateException" ∧ (0 ≤ a1.toInt ∧ a1.toInt ≤ 12) ∧ ¬ sB16 κ a0 σ9 V9 n9 a1) ∨ (cls = "java/lang/IndexOutOfBoundsException" ∧ (0 ≤ a1.toInt ∧ a1.toInt ≤ 12) ∧ sB16 κ a0 σ9 V9 n9 a1 ∧ ¬ sD16 κ a0 a1 a2))) → X cls κ') : zRun C 8 mCh_show [.ref a0, .int a1, .int a2] κ (oI Q X) := by
  refine Ch_show_run W Ta0 ?_
  replace W := W.lo (Nat.le_trans W.1.2.1 W.1.2.2) (Nat.le_refl (zn κ))
  unfold w_Ch_show_0
  obtain ⟨I, hX⟩ := hp
  have tS := ty_chSolver W Ta0
  have NS := I.2.2.1.1.1
  have h30 := I.2.2.1.2.2.2
  have J := ch_n9 I
  have D1 := I.2.2.2.2.1.1
  have hj156 : ∀ (l0 : Nat) (l1 : Int32) (l2 : Int32) (τ : zS), zW C (zn κ) τ → zT τ l0 = 15 → ((κ = τ ∧ a0 = l0 ∧ a1 = l1 ∧ a2 = l2 ∧ zI κ soSolved (zR κ chSolver a0) ≠ 0) ∧ (¬ a1 = 12 ∧ ¬ a1 = 11 ∧ (a1 < 7 ∨ 9 < a1)) ∧ (0 ≤ a1.toInt ∧ a1.toInt ≤ 12) ∧ sB16 κ a0 σ9 V9 n9 a1 ∧ sD16 κ a0 a1 a2) → w_Ch_show_156 C (zn κ) Q X  l0 l1 l2 τ := by
    rintro _ _ _ _ W156 T156_0 ⟨⟨rfl, rfl, rfl, rfl, j156⟩, hE⟩
    unfold w_Ch_show_156
    intro T1
    intro T2
    refine Od_showWeight_q6 W156 T1 T2 ρ n9 P9 σ9 V9 (by rw [D1.1]; exact (hS9 j156).1) (by rw [D1.1]; exact (hS9 j156).2.1) (by rw [D1.2.1]; exact (hS9 j156).2.2.1) (by rw [D1.1]; exact (hS9 j156).2.2.2) hE.2.1.1 (by rw [D1.2.1]; exact dK_p16 (hS9 j156).1 (hS9 j156).2.2.1 hE.2.1.1 (sB_t16 hE.1.1 hE.1.2.1 hE.2.2.1).1 (sB_t16 hE.1.1 hE.1.2.1 hE.2.2.1).2) ?_ (fun κ_3 q4 => ?_)
    · have X := hX j156
      rw [D1.2.1]
      exact ⟨NS, X.1, X.2.1, h30⟩
    obtain ⟨q4, z9⟩ := q4
    intro W5
    intro M6
    refine h _ _ ?_
    · refine and_5 ?_ (fun o9 => ?_)  -- q2
      · rw [D1.2.1] at q4
        exact chI_n9 W Ta0 q4.1.1 (fun r z => z) ⟨q4.1.2.1, q4.1.2.2⟩ q4.2 I
      · rw [D1.2.1] at z9
        have e : sq16 κ a0 σ9 V9 U9 n9 a1 a2 = tK16 κ (zR κ chSolver a0) σ9 V9 a1 a2 n9 * (dK16 κ (zR κ chSolver a0) σ9 V9 a1 a2 n9)⁻¹ := by
          unfold sq16
          rw [if_neg hE.1.1, if_neg hE.1.2.1, if_pos hE.1.2.2]
        rw [e]
        refine ⟨⟨?_, z9⟩, hE.2⟩
        rw [(soF_r9 q4.1.1 (f := chShown) (by decide)).1]
        exact z9.1
  have hj90 : ∀ (l0 : Nat) (l1 : Int32) (l2 : Int32) (τ : zS), zW C (zn κ) τ → zT τ l0 = 15 → ((κ = τ ∧ a0 = l0 ∧ a1 = l1 ∧ a2 = l2 ∧ ((¬ a1 = 12 → ¬ a1 = 11 → zI κ soSolved (zR κ chSolver a0) ≠ 0) ∧ (a1 = 11 → zI κ soPlanned (zR κ chSolver a0) ≠ 0)) ∧ (a1 = 8 ∨ a1 = 11 → zI κ atExplored (zR κ chAtlas a0) ≠ 0 ∧ 0 ≤ a2.toInt ∧ a2.toInt < (zI κ hoTotal (zR κ atStates (zR κ chAtlas a0))).toInt)) ∧ (0 ≤ a1.toInt ∧ a1.toInt ≤ 12) ∧ sB16 κ a0 σ9 V9 n9 a1 ∧ sD16 κ a0 a1 a2) → w_Ch_show_90 C (zn κ) Q X  l0 l1 l2 τ := by
    rintro _ _ _ _ W90 T90_0 ⟨⟨rfl, rfl, rfl, rfl, j90⟩, hE⟩
    unfold w_Ch_show_90
    refine ⟨fun c7 => ?_, fun c7 => ?_⟩
    · skip
      refine ⟨fun c8 => ?_, fun c8 => ?_⟩
      · skip
        refine ⟨fun c9 => ?_, fun c9 => ?_⟩
        · skip
          refine hj156 _ _ _ _ W90 ?_ ?_
          · exact Ta0  -- t3
          · refine and_5 ?_ (fun o9 => ⟨⟨c7, c8, Or.inl c9⟩, hE⟩)  -- k4
            exact ⟨rfl, rfl, rfl, rfl, j90.1.1 c7 c8⟩
        · skip
          refine ⟨fun c10 => ?_, fun c10 => ?_⟩
          · skip
            refine hj156 _ _ _ _ W90 ?_ ?_
            · exact Ta0  -- t5
            · refine and_5 ?_ (fun o9 => ⟨⟨c7, c8, Or.inr c10⟩, hE⟩)  -- k6
              exact ⟨rfl, rfl, rfl, rfl, j90.1.1 c7 c8⟩
          · skip
            intro T11
            intro T12
            refine So_showVisits_q6 W90 T11 T12 ρ n9 P9 V9 (hS9 (j90.1.1 c7 c8)).2.2.1 ?_ (fun κ_13 q14 => ?_)
            · have X := hX (j90.1.1 c7 c8)
              refine ⟨NS, ⟨by rw [I.2.2.1.2.2.1.1]; exact X.2.2.1, X.2.2.2.2⟩, X.2.2.2.1, X.2.1, h30, fun z => ?_⟩
              have y := j90.2 (Or.inl z)
              have t := X.2.2.1.2.2.2.1
              exact ⟨y.2.1, by omega⟩
            obtain ⟨q14, z9⟩ := q14
            intro W15
            intro M16
            refine h _ _ ?_
            · refine and_5 ?_ (fun o9 => ?_)  -- q8
              · refine chI_n9 W Ta0 q14.1.1 (fun r z => z) ⟨q14.1.2.1, q14.1.2.2⟩ ?_ I
                rcases q14.2 with y | y
                · exact y
                · rw [y]; exact I.2.2.1.1.2.2.2.2.2.2
              · have e : sq16 κ a0 σ9 V9 U9 n9 a1 a2 = if a1 = 8 then V9 a2.toNatClampNeg else vs16 V9 (gg16 κ (zR κ chSolver a0)) a1 n9 := by
                  unfold sq16
                  rw [if_neg c7, if_neg c8, if_neg (fun z => z.elim c9 c10)]
                rw [e]
                refine ⟨⟨?_, z9⟩, hE⟩
                rw [(soF_r9 q14.1.1 (f := chShown) (by decide)).1]
                exact z9.1
      · skip
        have H11 : zI κ soPlanned (zR κ chSolver a0) ≠ 0 → (zI κ atExplored (zR κ chAtlas a0) ≠ 0 ∧ 0 ≤ a2.toInt ∧ a2.toInt < (zI κ hoTotal (zR κ atStates (zR κ chAtlas a0))).toInt) → (a2.toInt < (zN κ (zR κ soWorths (zR κ chSolver a0))) ∧ a2.toNatClampNeg < 1000) ∧ ∃ u, zQ κ (zR κ soWorths (zR κ chSolver a0)) a2.toNatClampNeg = some u := fun y1 y2 => by
          obtain ⟨x1, x3⟩ := I.2.2.2.1.2 y1
          obtain ⟨⟨n, hn⟩, _⟩ := ch_x9 I x1
          have t := hn.2.2.2.1
          have t3 := hn.2.2.1
          have k := cnk y2.2.1
          have z := x3 n hn
          exact ⟨⟨by omega, by omega⟩, z.2 _ (by omega)⟩
        refine ⟨?_, ?_⟩
        · have y2 := j90.2 (Or.inr c8)
          have H := H11 (j90.1.2 c8) y2
          rw [inb_iff]
          exact ⟨y2.2.1, H.1.1⟩
        refine ex_some ?_ (fun u17 hu17 => ?_)
        · exact (H11 (j90.1.2 c8) (j90.2 (Or.inr c8))).2  -- e10
        intro T18
        intro T19
        have hw := I.2.2.1.1.2.2.2.2.1.1 _ u17 (H11 (j90.1.2 c8) (j90.2 (Or.inr c8))).1.2 hu17
        have hr : raR (104 + 8 * a2.toNatClampNeg) := Or.inr (Or.inr ⟨by omega, by have := (H11 (j90.1.2 c8) (j90.2 (Or.inr c8))).1.2; omega, by omega⟩)
        have q := NS.1.2 u17 (by rw [hw]; exact hr)
        rw [hw] at q
        have q30 := ra_t9 NS.1 h30 (Or.inr rfl)
        have g1 := nm_g NS.1 q.2.1 (raR_n hr).1 (by omega)
        have g2 := nm_g NS.1 q.2.2 (raR_n hr).2 (by omega)
        have c1 : capR (104 + 8 * a2.toNatClampNeg + 1) = 20 := by
          have := (H11 (j90.1.2 c8) (j90.2 (Or.inr c8))).1.2
          unfold capR
          rw [if_neg (by omega), if_pos (by omega)]
        have c2 : capR (104 + 8 * a2.toNatClampNeg + 2) = 20 := by
          have := (H11 (j90.1.2 c8) (j90.2 (Or.inr c8))).1.2
          unfold capR
          rw [if_neg (by omega), if_pos (by omega)]
        rw [c1] at g1
        rw [c2] at g2
        have k1 := nuK_c9 g1.1
        have k2 := nuK_c9 g2.1
        refine Ra_copy_c W90 T18 T19 6500 ?_ (fun κ_20 q21 => ?_)
        · refine ⟨q30.2.1, ⟨g1.2.1, g2.2.1, ro_n q.2.1 q.2.2 (by omega)⟩, ⟨ro_n q30.1.1 q.2.1 (by omega), ro_n q30.1.1 q.2.2 (by omega), ro_n q30.1.2 q.2.1 (by omega), ro_n q30.1.2 q.2.2 (by omega)⟩, ⟨by omega, by omega⟩, by decide⟩  -- p11
        intro W22
        intro M23
        refine h _ _ ?_
        · refine and_5 ?_ (fun o9 => ?_)  -- q12
          · have rt := raF_r q21.1 (f := raTop) (x := zR κ chShown a0) (by decide) (by decide) (by decide)
            have rb := raF_r q21.1 (f := raBottom) (x := zR κ chShown a0) (by decide) (by decide) (by decide)
            have y := q21.2.1
            unfold raJ at y
            rw [rt, rb] at y
            have M := nm_ra W tS NS.1 NS.2 h30 (Or.inr (Or.inl rfl)) q21.1 y.1 y.2.1
            have tl := ty_soLess W tS
            have l8 : ρ (zR κ soLess (zR κ chSolver a0)) = 8 := NS.2.1.2.2.2.2.2.1
            have nl := (soF_B (c := 0) W tl (M.2 0) (by rw [l8]; decide)).2.1
            exact chI_n9 W Ta0 (M.2 0) (fun r z => by rcases z with z | z | z <;> omega) M.1 (by rw [nl]; exact I.2.2.1.1.2.2.2.2.2.2) I
          · have y2 := hE.2.2.2 (Or.inr c8)
            have k2 := cnk y2.1
            have H := hU9 (j90.1.2 c8) a2.toNatClampNeg (by omega)
            have eu : wU9 κ (zR κ chSolver a0) a2.toNatClampNeg = u17 := by
              unfold wU9
              rw [hu17]
              rfl
            rw [eu] at H
            have e : sq16 κ a0 σ9 V9 U9 n9 a1 a2 = U9 a2.toNatClampNeg := by
              unfold sq16
              rw [if_neg c7, if_pos c8]
            have rs := raF_r q21.1 (f := chShown) (x := a0) (by decide) (by decide) (by decide)
            have Vc := q21.2.2
            rw [e, rs]
            exact ⟨⟨Vc.1.trans H.1, Vc.1.trans H.1, Vc.2.1.trans H.2.1, Vc.2.2.trans H.2.2⟩, hE⟩
    · skip
      intro T24
      refine Ch_showPlay_q6 W90 T24 (hD9 (sB_m16 c7 hE.2.1)) ?_ (fun κ_25 q26 => ?_)
      · exact ⟨(ra_t9 NS.1 h30 (Or.inr rfl)).2.1, I.2.2.2.2.2.1.2.2.2.2, I.2.2.2.2.2.1.2.1.1⟩  -- p13
      obtain ⟨q26, z9⟩ := q26
      intro W27
      intro M28
      refine h _ _ ?_
      · refine and_5 ?_ (fun o9 => ?_)  -- q14
        · have rt := raF_r q26.1 (f := raTop) (x := zR κ chShown a0) (by decide) (by decide) (by decide)
          have rb := raF_r q26.1 (f := raBottom) (x := zR κ chShown a0) (by decide) (by decide) (by decide)
          have y := q26.2
          unfold raJ at y
          rw [rt, rb] at y
          have M := nm_ra W tS NS.1 NS.2 h30 (Or.inr (Or.inl rfl)) q26.1 y.1 y.2.1
          have tl := ty_soLess W tS
          have l8 : ρ (zR κ soLess (zR κ chSolver a0)) = 8 := NS.2.1.2.2.2.2.2.1
          have nl := (soF_B (c := 0) W tl (M.2 0) (by rw [l8]; decide)).2.1
          exact chI_n9 W Ta0 (M.2 0) (fun r z => by rcases z with z | z | z <;> omega) M.1 (by rw [nl]; exact I.2.2.1.1.2.2.2.2.2.2) I
        · have e : sq16 κ a0 σ9 V9 U9 n9 a1 a2 = pd16 (dW16 κ a0) (dT16 κ a0) (dC16 κ a0).toNat := by
            unfold sq16
            rw [if_pos c7]
          have rs := raF_r q26.1 (f := chShown) (x := a0) (by decide) (by decide) (by decide)
          rw [e, rs]
          exact ⟨⟨z9.1, z9⟩, hE⟩
  have hj68 : ∀ (l0 : Nat) (l1 : Int32) (l2 : Int32) (τ : zS), zW C (zn κ) τ → zT τ l0 = 15 → ((κ = τ ∧ a0 = l0 ∧ a1 = l1 ∧ a2 = l2 ∧ ((¬ a1 = 12 → ¬ a1 = 11 → zI κ soSolved (zR κ chSolver a0) ≠ 0) ∧ (a1 = 11 → zI κ soPlanned (zR κ chSolver a0) ≠ 0))) ∧ (0 ≤ a1.toInt ∧ a1.toInt ≤ 12) ∧ sB16 κ a0 σ9 V9 n9 a1 ∧ (a1 = 2 → 0 ≤ a2.toInt ∧ a2.toInt < (zI κ hoTotal (zR κ atEndings (zR κ chAtlas a0))).toInt) ∧ (a1 = 8 ∨ a1 = 11)) → w_Ch_show_68 C (zn κ) Q X  l0 l1 l2 τ := by
    rintro _ _ _ _ W68 T68_0 ⟨⟨rfl, rfl, rfl, rfl, j68⟩, hE⟩
    unfold w_Ch_show_68
    intro T29
    refine At_holds_q6 W68 T29  (fun r30 q32 => ?_)
    obtain ⟨q32, z9⟩ := q32
    intro W33
    intro M34
    refine ⟨fun c35 => ?_, fun c35 => ?_⟩
    · skip
      refine hj90 _ _ _ _ W33 ?_ ?_
      · exact Ta0  -- t15
      · refine and_5 ?_ (fun o9 => ⟨hE.1, hE.2.1, hE.2.2.1, fun _ => (q32.2 c35).2⟩)  -- k16
        exact ⟨rfl, rfl, rfl, rfl, j68, fun _ => q32.2 c35⟩
    · skip
      intro κ_36 hκ_36
      refine hx _ _ ?_
      · refine and_5 ?_ (fun o9 => ?_)  -- x17
        · exact ⟨Or.inr (Or.inr rfl), hκ_36⟩
        · have n12 : ¬ a1 = 12 := fun z => by rcases hE.2.2.2 with y | y <;> rw [z] at y <;> exact absurd y (by decide)
          exact Or.inr (Or.inr ⟨rfl, hE.1, hE.2.1, fun z => z9.mpr ⟨exx_16 I n12 hE.2.1, z.2 hE.2.2.2⟩ c35⟩)
  have hj56 : ∀ (l0 : Nat) (l1 : Int32) (l2 : Int32) (τ : zS), zW C (zn κ) τ → zT τ l0 = 15 → ((κ = τ ∧ a0 = l0 ∧ a1 = l1 ∧ a2 = l2 ∧ ((¬ a1 = 12 → ¬ a1 = 11 → zI κ soSolved (zR κ chSolver a0) ≠ 0) ∧ (a1 = 11 → zI κ soPlanned (zR κ chSolver a0) ≠ 0))) ∧ (0 ≤ a1.toInt ∧ a1.toInt ≤ 12) ∧ sB16 κ a0 σ9 V9 n9 a1 ∧ (a1 = 2 → 0 ≤ a2.toInt ∧ a2.toInt < (zI κ hoTotal (zR κ atEndings (zR κ chAtlas a0))).toInt)) → w_Ch_show_56 C (zn κ) Q X  l0 l1 l2 τ := by
    rintro _ _ _ _ W56 T56_0 ⟨⟨rfl, rfl, rfl, rfl, j56⟩, hE⟩
    unfold w_Ch_show_56
    refine ⟨fun c37 => ?_, fun c37 => ?_⟩
    · skip
      refine hj68 _ _ _ _ W56 ?_ ?_
      · exact Ta0  -- t18
      · refine and_5 ?_ (fun o9 => ⟨hE.1, hE.2.1, hE.2.2, Or.inl c37⟩)  -- k19
        exact ⟨rfl, rfl, rfl, rfl, j56⟩
    · skip
      refine ⟨fun c38 => ?_, fun c38 => ?_⟩
      · skip
        refine hj90 _ _ _ _ W56 ?_ ?_
        · exact Ta0  -- t20
        · refine and_5 ?_ (fun o9 => ⟨hE.1, hE.2.1, hE.2.2, fun z => z.elim (fun y => absurd y c37) (fun y => absurd y c38)⟩)  -- k21
          exact ⟨rfl, rfl, rfl, rfl, j56, fun z => z.elim (fun y => absurd y c37) (fun y => absurd y c38)⟩
      · skip
        refine hj68 _ _ _ _ W56 ?_ ?_
        · exact Ta0  -- t22
        · refine and_5 ?_ (fun o9 => ⟨hE.1, hE.2.1, hE.2.2, Or.inr c38⟩)  -- k23
          exact ⟨rfl, rfl, rfl, rfl, j56⟩
  refine ⟨fun c39 => ?_, fun c39 => ?_⟩
  · skip
    intro κ_40 hκ_40
    refine hx _ _ ?_
    · refine and_5 ?_ (fun o9 => Or.inl ⟨rfl, fun z => by rw [lti, t0i] at c39; omega⟩)  -- x24
      exact ⟨Or.inl rfl, hκ_40⟩
  · skip
    refine ⟨fun c41 => ?_, fun c41 => ?_⟩
    · skip
      intro T42
      refine Ch_showsNow_q6 W T42 ρ n9 P9 σ9 V9 (fun z => by rw [D1.1, D1.2.1]; exact ⟨(hS9 z).1, (hS9 z).2.1, (hS9 z).2.2.1⟩) ?_ (fun r43 q45 => ?_)
      · exact fun z => (hX z).1  -- p25
      obtain ⟨q45, z9⟩ := q45
      have zs := z9
      intro W46
      intro M47
      refine ⟨fun c48 => ?_, fun c48 => ?_⟩
      · skip
        refine ⟨fun c49 => ?_, fun c49 => ?_⟩
        · skip
          refine hj56 _ _ _ _ W46 ?_ ?_
          · exact Ta0  -- t26
          · refine and_5 ?_ (fun o9 => ?_)  -- k27
            · exact ⟨rfl, rfl, rfl, rfl, q45.2 c48⟩
            · have A : 0 ≤ a1.toInt ∧ a1.toInt ≤ 12 := by
                have l12 : (12 : Int32).toInt = 12 := rfl
                rw [lti, t0i] at c39
                rw [lei, l12] at c41
                omega
              exact ⟨A, zs.mp c48, fun z => absurd z c49⟩
        · skip
          intro T50
          refine At_holdsEnding_q6 W46 T50  (fun r51 q53 => ?_)
          obtain ⟨q53, z9⟩ := q53
          intro W54
          intro M55
          refine ⟨fun c56 => ?_, fun c56 => ?_⟩
          · skip
            intro κ_57 hκ_57
            refine hx _ _ ?_
            · refine and_5 ?_ (fun o9 => ?_)  -- x28
              · exact ⟨Or.inr (Or.inr rfl), hκ_57⟩
              · have A : 0 ≤ a1.toInt ∧ a1.toInt ≤ 12 := by
                  have l12 : (12 : Int32).toInt = 12 := rfl
                  rw [lti, t0i] at c39
                  rw [lei, l12] at c41
                  omega
                have n12 : ¬ a1 = 12 := fun z => by rw [z] at c49; exact absurd c49 (by decide)
                exact Or.inr (Or.inr ⟨rfl, A, zs.mp c48, fun z => z9.mpr ⟨exx_16 I n12 (zs.mp c48), z.1 c49⟩ c56⟩)
          · skip
            refine hj56 _ _ _ _ W54 ?_ ?_
            · exact Ta0  -- t29
            · refine and_5 ?_ (fun o9 => ?_)  -- k30
              · exact ⟨rfl, rfl, rfl, rfl, q45.2 c48⟩
              · have A : 0 ≤ a1.toInt ∧ a1.toInt ≤ 12 := by
                  have l12 : (12 : Int32).toInt = 12 := rfl
                  rw [lti, t0i] at c39
                  rw [lei, l12] at c41
                  omega
                exact ⟨A, zs.mp c48, fun _ => (z9.mp c56).2⟩
      · skip
        intro κ_58 hκ_58
        refine hx _ _ ?_
        · refine and_5 ?_ (fun o9 => ?_)  -- x31
          · exact ⟨Or.inr (Or.inl rfl), hκ_58⟩
          · have A : 0 ≤ a1.toInt ∧ a1.toInt ≤ 12 := by
              have l12 : (12 : Int32).toInt = 12 := rfl
              rw [lti, t0i] at c39
              rw [lei, l12] at c41
              omega
            exact Or.inr (Or.inl ⟨rfl, A, fun z => zs.mpr z c48⟩)
    · skip
      intro κ_59 hκ_59
      refine hx _ _ ?_
      · refine and_5 ?_ (fun o9 => Or.inl ⟨rfl, fun z => c41 (by have l12 : (12 : Int32).toInt = 12 := rfl; rw [lei, l12]; exact z.2)⟩)  -- x32
        exact ⟨Or.inl rfl, hκ_59⟩

end
