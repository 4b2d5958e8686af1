set_option maxHeartbeats 1600000
/-! the class: ChanceWorks.program, what it leaves -/
/-- the parser has read into the spare code -/
theorem chI_r9 {C : zC} {n0 a : Nat} {L L' : Int} {ρ : Nat → Nat} {κ τ : zS} (W : zW C n0 κ) (T : zT κ a = 15) (Z : zF (fun _ x => x = zR κ chParser a ∨ x = zR κ chTape a ∨ x = zR κ chSpare a) κ τ) (hA : (taI τ (zR κ chTape a) ∧ tokI τ (zR κ chTape a)) ∧ coI τ (zR κ chSpare a) ∧ (paL τ (zR κ chParser a) ∧ paC τ (zR κ chParser a)) ∧ zR τ paTape (zR κ chParser a) = zR κ chTape a) (hL : (zI τ taLength (zR κ chTape a)).toInt ≤ L') (I : chI9 ρ κ a L) : chI9 ρ τ a L' ∧ (∃ F, zF F κ τ) ∧ zI τ chTolds a = zI κ chTolds a := by
  obtain ⟨⟨A1, ⟨⟨A2, A3⟩, A4⟩, A5, A6⟩, B, ⟨C1, C2, C3, C4⟩, ⟨S1, S2⟩, ⟨D1, D2, D3, ⟨D4, D5⟩, D6, D7⟩, E0, L0, K0⟩ := I
  have tA := ty_chAtlas W T
  have tS := ty_chSolver W T
  have tO := ty_chOdds W T
  have tm := ty_chMachine W T
  have tP := ty_chParser W T
  have tt := ty_chTape W T
  have tp := ty_chSpare W T
  have tC := ty_chCode W T
  have no : ∀ x K, zT κ x = K → K ≠ 10 ∧ K ≠ 13 ∧ K ≠ 5 → ∀ f : Nat, ¬ (x = zR κ chParser a ∨ x = zR κ chTape a ∨ x = zR κ chSpare a) := fun x K h1 h2 f z => by
    rcases z with z | z | z
    · rw [z, tP] at h1; exact h2.1 h1.symm
    · rw [z, tt] at h1; exact h2.2.1 h1.symm
    · rw [z, tp] at h1; exact h2.2.2 h1.symm
  have nC : ∀ f : Nat, ¬ (zR κ chCode a = zR κ chParser a ∨ zR κ chCode a = zR κ chTape a ∨ zR κ chCode a = zR κ chSpare a) := fun f z => by
    rcases z with z | z | z
    · rw [z, tP] at tC; exact absurd tC (by decide)
    · rw [z, tt] at tC; exact absurd tC (by decide)
    · exact A4 z
  have E := chE_u9 W T Z (fun f _ => no a 15 T (by decide) f) E0
  have o := E.2.1
  have ma : maL κ (zR κ chMachine a) := by
    have y := B.1.2.1
    rw [B.2.1] at y
    exact y
  have hB := chB_u9 W T Z (fun f hf _ _ => o f hf) (fun f _ => no _ 3 tA (by decide) f) (fun f _ => no _ 6 (ty_atStates W tA) (by decide) f) (fun f _ => no _ 6 (ty_atEndings W tA) (by decide) f) (fun f _ => no _ 14 (ty_atWeb W tA) (by decide) f) (fun ex f _ => by rw [(B.2.2 ex).1.1]; exact nC f) (ma_u9 Z W tm (fun f _ => no _ 7 tm (by decide) f) ma) B
  have nS := no _ 12 tS (by decide)
  have hS := rs_h9 W tS C1 Z (fun f w y => no w 8 y (by decide) f) (fun f w y => no w 11 y (by decide) f) (fun f w y => no w 4 y (by decide) f) (fun f _ _ => nS f)
  have K1 := co_u9 Z W tC (fun f _ => nC f)
  have G := odd_u9 Z W tO (fun f _ => no _ 9 tO (by decide) f)
  have H := ho_u9 (M := 3000) (D := 3) (S := 8192) Z W (ty_odGroups W tO) (fun f _ => no _ 6 (ty_odGroups W tO) (by decide) f)
  have rS : ∀ f, zR τ f (zR κ chSolver a) = zR κ f (zR κ chSolver a) := fun f => Z.r (nS f)
  have iS : ∀ f, zI τ f (zR κ chSolver a) = zI κ f (zR κ chSolver a) := fun f => Z.i (nS f)
  have nv : zN τ (zR κ soVisits (zR κ chSolver a)) = zN κ (zR κ soVisits (zR κ chSolver a)) := Z.l (ty_soVisits W tS)
  have qw := (Z.row W (show zr soWorths = some 25 by decide +kernel) (by decide) (tS.trans (by decide)) (nS 0)).2.2
  rw [rS] at qw
  have nw : zN τ (zR κ soWorths (zR κ chSolver a)) = zN κ (zR κ soWorths (zR κ chSolver a)) := Z.l (ty_soWorths W tS)
  refine ⟨⟨⟨?_, ?_, ?_⟩, hB.1, ?_, ?_, ?_, E.1, ?_, ?_⟩, ⟨_, Z⟩, E.2.2⟩
  · rw [o chTape (by decide)]; exact hA.1
  · rw [o chCode (by decide), o chSpare (by decide)]
    exact ⟨⟨K1.1 A2, hA.2.1⟩, A4⟩
  · rw [o chParser (by decide), o chTape (by decide)]
    exact ⟨hA.2.2.1, hA.2.2.2⟩
  · unfold chC9
    rw [o chSolver (by decide), o chAtlas (by decide), o chShown (by decide), rS, rS, rS, Z.l (ty_soTaken W tS), hB.2.2.2 atWeb (by decide)]
    exact ⟨hS.1, C2, C3, C4⟩
  · unfold chS9
    rw [o chSolver (by decide), o chAtlas (by decide), iS, iS, rS, rS, nv, nw, qw, hB.2.2.1]
    refine ⟨fun z => ?_, fun z => ?_⟩
    · obtain ⟨x1, P9, x2, x3⟩ := S1 z
      refine ⟨x1, P9, x2, fun n hn => ?_⟩
      have y := x3 n ((hB.2.1 n).mp hn)
      exact ⟨vs_h9 W tS Z (fun f w y => no w 8 y (by decide) f) (fun f w y => no w 11 y (by decide) f) (fun f w y => no w 3 y (by decide) f) nS y.1, y.2⟩
    · obtain ⟨x1, x3⟩ := S2 z
      exact ⟨x1, fun n hn => x3 n ((hB.2.1 n).mp hn)⟩
  · unfold chD9
    rw [o chSolver (by decide), o chAtlas (by decide), o chOdds (by decide), G.2.2.2.2, G.2.2.1, G.2.2.2.1, G.1 odAtlas (by decide), G.1 odSolver (by decide), G.1 odCalc (by decide), G.1 odHeld (by decide), G.1 odGroups (by decide), rS, hB.2.2.2 atStates (by decide), hB.2.2.2 atEndings (by decide)]
    exact ⟨D1, D2, ⟨G.2.1 D3.1, D3.2⟩, ⟨H.1 D4, D5⟩, D6, D7⟩
  · rw [o chTape (by decide)]; exact hL
  · exact cK_z9 W T Z (o chSolver (by decide)) (o chOdds (by decide)) (fun b hb => no b 0 (zT_o9 W hb) (by decide) 0) (fun f _ => nS f) (Nat.le_of_eq (nE_z9 W tO Z (no _ 9 tO (by decide) 0)).symm) K0
/-- what a sound program stores -/
def swF9 (κ : zS) (a : Nat) : Nat → Nat → Prop := fun f x => (x = a ∧ (f = chCode ∨ f = chSpare ∨ f = chReady ∨ f = chPlayMade)) ∨ (x = zR κ chAtlas a ∧ f = atExplored) ∨ (x = zR κ chSolver a ∧ (f = soSolved ∨ f = soPlanned))
theorem chI_w9 {C : zC} {n0 a : Nat} {L : Int} {ρ : Nat → Nat} {κ τ : zS} (W : zW C n0 κ) (T : zT κ a = 15) (Z : zF (swF9 κ a) κ τ) (N : zN τ = zN κ) (R : ∀ f b, f ≠ chCode → f ≠ chSpare → zR τ f b = zR κ f b) (r1 : zR τ chCode a = zR κ chSpare a) (r2 : zR τ chSpare a = zR κ chCode a) (h0 : zI τ atExplored (zR κ chAtlas a) = 0) (h1 : zI τ soSolved (zR κ chSolver a) = 0) (h2 : zI τ soPlanned (zR κ chSolver a) = 0) (I : chI9 ρ κ a L) : chI9 ρ τ a L ∧ (∃ F, zF F κ τ) ∧ zI τ chTolds a = zI κ chTolds a := by
  obtain ⟨⟨A1, ⟨⟨A2, A3⟩, A4⟩, A5, A6⟩, ⟨⟨⟨b1, b2, b3, b4⟩, b5, ⟨b6, b7⟩, b8, b9⟩, c1, c2⟩, ⟨C1, C2, C3, C4⟩, _, ⟨D1, D2, D3, ⟨D4, D5⟩, D6, D7⟩, E0, L0, K0⟩ := I
  have tA := ty_chAtlas W T
  have tS := ty_chSolver W T
  have tO := ty_chOdds W T
  have tm := ty_atMachine W tA
  have no : ∀ x K, zT κ x = K → K ≠ 15 ∧ K ≠ 3 ∧ K ≠ 12 → ∀ f, ¬ swF9 κ a f x := fun x K h1 h2 f z => by
    rcases z with z | z | z
    · rw [z.1, T] at h1; exact h2.1 h1.symm
    · rw [z.1, tA] at h1; exact h2.2.1 h1.symm
    · rw [z.1, tS] at h1; exact h2.2.2 h1.symm
  have nS : ∀ f, f ≠ soSolved → f ≠ soPlanned → ¬ swF9 κ a f (zR κ chSolver a) := fun f h1 h2 z => by
    rcases z with z | z | z
    · have y := z.1
      rw [y, T] at tS; exact absurd tS (by decide)
    · have y := z.1
      rw [y, tA] at tS; exact absurd tS (by decide)
    · exact z.2.elim h1 h2
  have it : zI τ chTolds a = zI κ chTolds a := Z.i (fun z => by
    rcases z with z | z | z
    · exact absurd z.2 (by decide)
    · exact absurd z.2 (by decide)
    · exact absurd z.2 (by decide))
  have hS := rs_h9 W tS C1 Z (fun f w y => no w 8 y (by decide) f) (fun f w y => no w 11 y (by decide) f) (fun f w y => no w 4 y (by decide) f) nS
  have A := ta_u9 Z W (ty_chTape W T) (fun f _ => no _ 13 (ty_chTape W T) (by decide) f) A1
  have P := pa_u9 Z W (ty_chParser W T) (fun f _ => no _ 10 (ty_chParser W T) (by decide) f) A5
  have K1 := co_u9 Z W (ty_chCode W T) (fun f _ => no _ 5 (ty_chCode W T) (by decide) f)
  have K2 := co_u9 Z W (ty_chSpare W T) (fun f _ => no _ 5 (ty_chSpare W T) (by decide) f)
  have G := odd_u9 Z W tO (fun f _ => no _ 9 tO (by decide) f)
  have H := ho_u9 (M := 3000) (D := 3) (S := 8192) Z W (ty_odGroups W tO) (fun f _ => no _ 6 (ty_odGroups W tO) (by decide) f)
  have Hs := ho_u9 (M := 1000) (D := 142) (S := 2048) Z W (ty_atStates W tA) (fun f _ => no _ 6 (ty_atStates W tA) (by decide) f)
  have He := ho_u9 (M := 1000) (D := 35) (S := 2048) Z W (ty_atEndings W tA) (fun f _ => no _ 6 (ty_atEndings W tA) (by decide) f)
  have V := we_u9 Z W (ty_atWeb W tA) (fun f _ => no _ 14 (ty_atWeb W tA) (by decide) f)
  have mm := ma_u9 Z W tm (fun f _ => no _ 7 tm (by decide) f) b5
  have q : ∀ f b, f / 100 ≠ 15 → zR τ f b = zR κ f b := fun f b hf => R f b (fun e => hf (by rw [e]; rfl)) (fun e => hf (by rw [e]; rfl))
  refine ⟨⟨⟨?_, ?_, ?_⟩, ?_, ?_, ?_, ?_, ?_, ?_, ?_⟩, ⟨_, Z⟩, it⟩
  · rw [R chTape a (by decide) (by decide)]; exact A.1
  · rw [r1, r2]
    exact ⟨⟨K2.1 A3, K1.1 A2⟩, A4.symm⟩
  · rw [R chParser a (by decide) (by decide), R chTape a (by decide) (by decide)]
    exact ⟨P.1, P.2.trans A6⟩
  · unfold chB9 atI
    rw [R chAtlas a (by decide) (by decide), R chMachine a (by decide) (by decide), q atMachine _ (by decide), q atWeb _ (by decide), h0]
    refine ⟨⟨⟨?_, ?_, ⟨?_, ?_⟩, ?_⟩, mm, ⟨b6.elim (fun z => Or.inl (V.2.1 z)) (fun z => Or.inr (V.1 z)), V.2.2 b7⟩, nb_0, fun z => absurd rfl z⟩, c1, fun z => absurd rfl z⟩
    · unfold atU atM at b1 ⊢
      rw [q atPlan _ (by decide), q atFirsts _ (by decide), q atTotals _ (by decide), q atGains _ (by decide), q atChooses _ (by decide), q atHopeless _ (by decide), N]
      exact b1
    · unfold atL at b2 ⊢
      rw [q atSorts _ (by decide), q atNumbers _ (by decide), q atWeights _ (by decide), N]
      exact b2
    · rw [q atStates _ (by decide)]; exact Hs.1 b3.1
    · rw [q atEndings _ (by decide)]; exact He.1 b3.2
    · rw [q atStates _ (by decide), q atEndings _ (by decide)]; exact b4
  · unfold chC9
    rw [R chSolver a (by decide) (by decide), R chAtlas a (by decide) (by decide), R chShown a (by decide) (by decide), q soTaken _ (by decide), q soAtlas _ (by decide), q soWeb _ (by decide), q atWeb _ (by decide), N]
    exact ⟨hS.1, C2, C3, C4⟩
  · unfold chS9
    rw [R chSolver a (by decide) (by decide), h1, h2]
    exact ⟨fun z => absurd rfl z, fun z => absurd rfl z⟩
  · unfold chD9
    rw [R chSolver a (by decide) (by decide), R chAtlas a (by decide) (by decide), R chOdds a (by decide) (by decide), G.2.2.2.2, G.2.2.1, G.2.2.2.1, G.1 odAtlas (by decide), G.1 odSolver (by decide), G.1 odCalc (by decide), G.1 odHeld (by decide), G.1 odGroups (by decide), q soCalc _ (by decide), q atStates _ (by decide), q atEndings _ (by decide)]
    exact ⟨D1, D2, ⟨G.2.1 D3.1, D3.2⟩, ⟨H.1 D4, D5⟩, D6, D7⟩
  · unfold chE9 dwI9
    rw [R chTold a (by decide) (by decide), R chRecord a (by decide) (by decide), R chLastShared a (by decide) (by decide), R chDrawnWeights a (by decide) (by decide), R chDrawnTotals a (by decide) (by decide), it, N]
    exact E0
  · rw [R chTape a (by decide) (by decide), A.2]; exact L0
  · exact cK_z9 W T Z (R chSolver a (by decide) (by decide)) (R chOdds a (by decide) (by decide)) (fun b hb => no b 0 (zT_o9 W hb) (by decide) 0) (fun f hf => nS f (by rcases hf with y | y | y <;> rw [y] <;> decide) (by rcases hf with y | y | y <;> rw [y] <;> decide)) (Nat.le_of_eq (nE_z9 W tO Z (no _ 9 tO (by decide) _)).symm) K0
/-- behind the parser: faultCode stored, and a sound program taken -/
theorem pg_f9 {C : zC} {n0 a : Nat} {L : Int} {ρ : Nat → Nat} {κ : zS} {x y : Int32} (W : zW C n0 κ) (T : zT κ a = 15) (hl : zI κ taLength (zR κ chTape a) = 0) (I : chI9 ρ κ a L) : w_Ch_program_43 C n0 (fun v κ' => chI9 ρ κ' a L ∧ (∃ F, zF F κ κ') ∧ (oC9 κ' a = ((fun _ => 0, 0, y) : Ob9) ∧ (x = 0 → v = (-1 : Int32) - zI κ paFaultPlace (zR κ chParser a)) ∧ (¬ x = 0 → v = zI κ coStatements (zR κ chSpare a))) ∧ zc κ' = zc κ) a x a y κ := by
  unfold w_Ch_program_43
  intro κ3 e3 W3
  have Z3 : zF (fun f b => b = a ∧ f = chFaultCode) κ κ3 := by rw [e3]; exact zF_ui ⟨rfl, rfl⟩
  have R3 : zR κ3 = zR κ := by rw [e3]; rfl
  have N3 : zN κ3 = zN κ := by rw [e3]; rfl
  have i3 : zI κ3 chTolds a = zI κ chTolds a := by rw [e3]; rfl
  have I3 : chI9 ρ κ3 a L := chI_o9 W T Z3 (fun f x z => z.1) (fun f _ _ _ => by rw [R3]) (by
    have E := I.2.2.2.2.2.1
    unfold chE9 dwI9 at E ⊢
    rw [R3, N3, i3]
    exact E) I
  have T3 := Z3.t T (by decide)
  have l3 : zI κ3 taLength (zR κ chTape a) = 0 := by rw [e3]; exact hl
  have f3 : zI κ3 chFaultCode a = y := by rw [e3]; exact if_pos ⟨rfl, rfl⟩
  have o3 : oC9 κ3 a = ((fun _ => 0, 0, y) : Ob9) := by
    unfold oC9
    rw [R3, l3, f3]
    exact mk_09
  have p3 : zI κ3 paFaultPlace (zR κ chParser a) = zI κ paFaultPlace (zR κ chParser a) := by rw [e3]; rfl
  refine ⟨fun c => ?_, fun c => ⟨I3, ⟨_, Z3⟩, ⟨o3, fun _ => by rw [R3, p3], fun z => absurd c z⟩, by rw [e3]; rfl⟩⟩
  intro v ev κ4 e4 W4 κ5 e5 W5 κ8 e8 W8 κ11 e11 W11 κ13 e13 W13 κ15 e15 W15 κ16 e16 W16
  have r4 : ∀ f b, f ≠ chCode → zR κ4 f b = zR κ3 f b := fun f b h => by rw [e4]; exact if_neg (fun z => h z.1)
  have r5 : ∀ f b, f ≠ chCode → f ≠ chSpare → zR κ5 f b = zR κ3 f b := fun f b h1 h2 => by rw [e5]; exact (if_neg (fun z => h2 z.1)).trans (r4 f b h1)
  have R8 : zR κ8 = zR κ5 := by rw [e8]; rfl
  have R11 : zR κ11 = zR κ5 := by rw [e11]; exact R8
  have R13 : zR κ13 = zR κ5 := by rw [e13]; exact R11
  have R15 : zR κ15 = zR κ5 := by rw [e15]; exact R13
  have R16 : zR κ16 = zR κ5 := by rw [e16]; exact R15
  have at5 : zR κ5 chAtlas a = zR κ3 chAtlas a := r5 _ _ (by decide) (by decide)
  have so5 : zR κ5 chSolver a = zR κ3 chSolver a := r5 _ _ (by decide) (by decide)
  rw [R8, at5] at e11
  rw [R11, so5] at e13
  rw [R13, so5] at e15
  have Z4 : zF (swF9 κ3 a) κ3 κ4 := by rw [e4]; exact zF_ur (Or.inl ⟨rfl, Or.inl rfl⟩) (show zr chCode = some 5 by decide +kernel) (by decide)
  have Z5 : zF (swF9 κ3 a) κ4 κ5 := by rw [e5]; exact zF_ur (Or.inl ⟨rfl, Or.inr (Or.inl rfl)⟩) (show zr chSpare = some 5 by decide +kernel) (by decide)
  have Z8 : zF (swF9 κ3 a) κ5 κ8 := by rw [e8]; exact zF_ui (Or.inl ⟨rfl, Or.inr (Or.inr (Or.inl rfl))⟩)
  have Z11 : zF (swF9 κ3 a) κ8 κ11 := by rw [e11]; exact zF_ui (Or.inr (Or.inl ⟨rfl, rfl⟩))
  have Z13 : zF (swF9 κ3 a) κ11 κ13 := by rw [e13]; exact zF_ui (Or.inr (Or.inr ⟨rfl, Or.inl rfl⟩))
  have Z15 : zF (swF9 κ3 a) κ13 κ15 := by rw [e15]; exact zF_ui (Or.inr (Or.inr ⟨rfl, Or.inr rfl⟩))
  have Z16 : zF (swF9 κ3 a) κ15 κ16 := by rw [e16]; exact zF_ui (Or.inl ⟨rfl, Or.inr (Or.inr (Or.inr rfl))⟩)
  have Z := (((((Z4.tr Z5).tr Z8).tr Z11).tr Z13).tr Z15).tr Z16
  have N16 : zN κ16 = zN κ3 := by rw [e16, e15, e13, e11, e8, e5, e4]; rfl
  have h0 : zI κ16 atExplored (zR κ3 chAtlas a) = 0 := by
    have y : zI κ11 atExplored (zR κ3 chAtlas a) = 0 := by rw [e11]; exact if_pos ⟨rfl, rfl⟩
    rw [e16, e15, e13]
    exact y
  have h1 : zI κ16 soSolved (zR κ3 chSolver a) = 0 := by
    have y : zI κ13 soSolved (zR κ3 chSolver a) = 0 := by rw [e13]; exact if_pos ⟨rfl, rfl⟩
    rw [e16, e15]
    exact y
  have h2 : zI κ16 soPlanned (zR κ3 chSolver a) = 0 := by
    have y : zI κ15 soPlanned (zR κ3 chSolver a) = 0 := by rw [e15]; exact if_pos ⟨rfl, rfl⟩
    rw [e16]
    exact y
  have c5 : zR κ5 chCode a = zR κ3 chSpare a := by
    have y : zR κ4 chCode a = zR κ3 chSpare a := by rw [e4]; exact if_pos ⟨rfl, rfl⟩
    rw [e5]
    exact y
  have s5 : zR κ5 chSpare a = zR κ3 chCode a := by
    rw [e5, ← ev]
    exact if_pos ⟨rfl, rfl⟩
  have l16 : zI κ16 taLength (zR κ chTape a) = 0 := by
    rw [e16, e15, e13, e11, e8, e5, e4]
    exact l3
  have f16 : zI κ16 chFaultCode a = y := by
    rw [e16, e15, e13, e11, e8, e5, e4]
    exact f3
  have o16 : oC9 κ16 a = ((fun _ => 0, 0, y) : Ob9) := by
    unfold oC9
    rw [R16, r5 chTape a (by decide) (by decide), R3, l16, f16]
    exact mk_09
  have v16 : zI κ16 coStatements (zR κ16 chCode a) = zI κ coStatements (zR κ chSpare a) := by
    rw [R16, c5, R3, e16, e15, e13, e11, e8, e5, e4, e3]
    rfl
  have K := chI_w9 W3 T3 Z N16 (fun f b g1 g2 => by rw [R16]; exact r5 f b g1 g2) (by rw [R16]; exact c5) (by rw [R16]; exact s5) h0 h1 h2 I3
  exact ⟨K.1, ⟨fun _ _ => True, (Z3.mono (fun _ _ _ => trivial)).tr (Z.mono (fun _ _ _ => trivial))⟩, ⟨o16, fun z => absurd z c, fun _ => v16⟩, by rw [e16, e15, e13, e11, e8, e5, e4, e3]; rfl⟩
/-- behind the parser, from its own end -/
def pgR9 (κ κ1 : zS) (a : Nat) (x v : Int32) (κ' : zS) : Prop := oC9 κ' a = ((fun _ => 0, 0, if x = 0 then zI κ1 paFaultCode (zR κ chParser a) else 0) : Ob9) ∧ (x = 0 → v = (-1 : Int32) - zI κ1 paFaultPlace (zR κ chParser a)) ∧ (¬ x = 0 → v = zI κ1 coStatements (zR κ chSpare a))
theorem pg_w9 {C : zC} {n0 a : Nat} {L : Int} {ρ : Nat → Nat} {κ κ1 : zS} {x : Int32} (W : zW C n0 κ) (T : zT κ a = 15) (h0 : 0 ≤ L) (I : chI9 ρ κ a L) (W1 : zW C n0 κ1) (F : rdF κ κ1 (zR κ chParser a) (zR κ chSpare a) ∧ paI κ1 (zR κ chParser a)) : w_Ch_program_19 C n0 (fun v κ' => chI9 ρ κ' a L ∧ (∃ F, zF F κ κ') ∧ pgR9 κ κ1 a x v κ' ∧ zc κ' = zc κ1) a x κ1 := by
  obtain ⟨⟨Z1, f2, f3, f4⟩, ⟨p1, p2, p3⟩, p4, p5, p6⟩ := F
  have lk := I.1.2.2.2
  rw [lk] at Z1 f2
  rw [f2] at p1 p2
  rw [f3] at p4
  have tt := ty_chTape W T
  have na : ∀ f : Nat, ¬ (a = zR κ chParser a ∨ a = zR κ chTape a ∨ a = zR κ chSpare a) := fun f z => by
    have y1 := ty_chParser W T
    have y3 := ty_chSpare W T
    rcases z with z | z | z
    · rw [← z, T] at y1; exact absurd y1 (by decide)
    · rw [← z, T] at tt; exact absurd tt (by decide)
    · rw [← z, T] at y3; exact absurd y3 (by decide)
  have rt : zR κ1 chTape a = zR κ chTape a := Z1.r (na 0)
  unfold w_Ch_program_19
  intro κ2 e2 W2
  rw [rt] at e2
  have Z2 : zF (fun _ x => x = zR κ chParser a ∨ x = zR κ chTape a ∨ x = zR κ chSpare a) κ κ2 := Z1.tr (by rw [e2]; exact zF_ui (Or.inr (Or.inl rfl)))
  have R2 : zR κ2 = zR κ1 := by rw [e2]; rfl
  have N2 : zN κ2 = zN κ1 := by rw [e2]; rfl
  have il : zI κ2 taLength (zR κ chTape a) = 0 := by rw [e2]; exact if_pos ⟨rfl, rfl⟩
  have ix : ∀ f b, f ≠ taLength → zI κ2 f b = zI κ1 f b := fun f b h => by rw [e2]; exact if_neg (fun z => h z.1)
  have q1 : taI κ2 (zR κ chTape a) := by
    have B := p1.1
    unfold taI at p1 ⊢
    rw [R2, N2, il, ix taTotal _ (by decide), t0i]
    exact ⟨⟨by decide, by omega, B.2.2⟩, p1.2⟩
  have q2 : tokI κ2 (zR κ chTape a) := by rw [e2]; exact p2
  have q4 : coI κ2 (zR κ chSpare a) := by
    have i5 : ∀ f, f ∈ coIf → f ≠ taLength := by decide
    exact coI_g p4 (fun f hf => ix f _ (i5 f hf)) (fun f _ => by rw [R2]) (fun f _ => by rw [N2]) (fun f _ => by rw [e2]; rfl)
  have q5 : paL κ2 (zR κ chParser a) := by
    unfold paL at p5 ⊢
    rw [R2, N2]
    exact p5
  have q6 : paC κ2 (zR κ chParser a) := by
    unfold paC at p6 ⊢
    rw [R2, N2, ix paOwns _ (by decide), ix paBlocks _ (by decide), ix paWaits _ (by decide)]
    exact p6
  have I2 := chI_r9 (L' := L) W T Z2 ⟨⟨q1, q2⟩, q4, ⟨q5, q6⟩, by rw [R2]; exact f2⟩ (by rw [il]; exact h0) I
  have T2 := Z2.t T (by decide)
  have pr1 : zR κ1 chParser a = zR κ chParser a := Z1.r (na 0)
  have ps1 : zR κ1 chSpare a = zR κ chSpare a := Z1.r (na 0)
  have K : ∀ y, y = (if x = 0 then zI κ1 paFaultCode (zR κ chParser a) else 0) → w_Ch_program_43 C n0 (fun v κ' => chI9 ρ κ' a L ∧ (∃ F, zF F κ κ') ∧ pgR9 κ κ1 a x v κ' ∧ zc κ' = zc κ1) a x a y κ2 := fun y hy => by
    have z2 : zc κ2 = zc κ1 := by rw [e2]; rfl
    have k := pg_f9 (x := x) (y := y) W2 T2 (by rw [R2, rt]; exact il) I2.1
    unfold w_Ch_program_43 at k ⊢
    intro κ3 e3 W3
    obtain ⟨k1, k2⟩ := k κ3 e3 W3
    refine ⟨fun c v ev κ4 e4 W4 κ5 e5 W5 κ8 e8 W8 κ11 e11 W11 κ13 e13 W13 κ15 e15 W15 κ16 e16 W16 => ?_, fun c => ?_⟩
    · obtain ⟨k3, ⟨F3, k4⟩, ⟨k5, k7, k8⟩, k6⟩ := k1 c v ev κ4 e4 W4 κ5 e5 W5 κ8 e8 W8 κ11 e11 W11 κ13 e13 W13 κ15 e15 W15 κ16 e16 W16
      exact ⟨k3, ⟨fun _ _ => True, (Z2.mono (fun _ _ _ => trivial)).tr (k4.mono (fun _ _ _ => trivial))⟩, ⟨by rw [k5, hy], fun q => by rw [k7 q, R2, pr1, ix _ _ (by decide)], fun q => by rw [k8 q, R2, ps1, ix _ _ (by decide)]⟩, k6.trans z2⟩
    · obtain ⟨k3, ⟨F3, k4⟩, ⟨k5, k7, k8⟩, k6⟩ := k2 c
      exact ⟨k3, ⟨fun _ _ => True, (Z2.mono (fun _ _ _ => trivial)).tr (k4.mono (fun _ _ _ => trivial))⟩, ⟨by rw [k5, hy], fun q => by rw [k7 q, R2, pr1, ix _ _ (by decide)], fun q => by rw [k8 q, R2, ps1, ix _ _ (by decide)]⟩, k6.trans z2⟩
  exact ⟨fun c => K _ (by rw [if_pos c, R2, pr1, ix _ _ (by decide)]), fun c => K _ (by rw [if_neg c])⟩
