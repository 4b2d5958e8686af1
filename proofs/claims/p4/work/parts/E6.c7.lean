set_option maxHeartbeats 1600000
/-! the class: ChanceWorks' explore, decide -/
/-- atlas, where its plan, machine and web alone may be touched -/
theorem chB_w9 {C : zC} {n0 a : Nat} {F : Nat → Nat → Prop} {κ τ : zS} (W : zW C n0 κ) (T : zT κ a = 15) (Z : zF F κ τ) (hO : ∀ f, f / 100 = 15 → f ≠ chDrawnWeights → f ≠ chDrawnTotals → zR τ f a = zR κ f a) (n3 : ∀ f, f / 100 = 3 → f ≠ atPlan → ¬ F f (zR κ chAtlas a)) (ns : un9 F (zR κ atStates (zR κ chAtlas a)) 6) (ne : un9 F (zR κ atEndings (zR κ chAtlas a)) 6) (nc : un9 F (zR κ atCode (zR κ chAtlas a)) 5) (hm : maL τ (zR κ chMachine a)) (hw : (weU τ (zR κ atWeb (zR κ chAtlas a)) ∨ weM τ (zR κ atWeb (zR κ chAtlas a))) ∧ weL τ (zR κ atWeb (zR κ chAtlas a))) (hA : (atU τ (zR κ chAtlas a) ∨ atM τ (zR κ chAtlas a)) ∧ atL τ (zR κ chAtlas a)) (hN : zI κ atExplored (zR κ chAtlas a) ≠ 0 → ∃ n, atW τ (zR κ chAtlas a) n) (B : chB9 κ a) : chB9 τ a ∧ (zI τ atExplored (zR κ chAtlas a) = zI κ atExplored (zR κ chAtlas a)) ∧ (∀ f, f / 100 = 3 → f ≠ atPlan → zR τ f (zR κ chAtlas a) = zR κ f (zR κ chAtlas a)) ∧ zI τ hoTotal (zR κ atStates (zR κ chAtlas a)) = zI κ hoTotal (zR κ atStates (zR κ chAtlas a)) := by
  have tA := ty_chAtlas W T
  obtain ⟨⟨⟨b1, b2, b3, b4⟩, b5, _, b8, b9⟩, c1, c2⟩ := B
  have S := ho_u9 (M := 1000) (D := 142) (S := 2048) Z W (ty_atStates W tA) ns
  have E := ho_u9 (M := 1000) (D := 35) (S := 2048) Z W (ty_atEndings W tA) ne
  have K := co_u9 Z W (ty_atCode W tA) nc
  have ex : zI τ atExplored (zR κ chAtlas a) = zI κ atExplored (zR κ chAtlas a) := Z.i (n3 _ (by decide) (by decide))
  have r : ∀ f, f / 100 = 3 → f ≠ atPlan → zR τ f (zR κ chAtlas a) = zR κ f (zR κ chAtlas a) := fun f h1 h2 => Z.r (n3 f h1 h2)
  refine ⟨?_, ex, r, S.2.2⟩
  unfold chB9 atI
  rw [hO chAtlas (by decide) (by decide) (by decide), hO chMachine (by decide) (by decide) (by decide), hO chCode (by decide) (by decide) (by decide), r atMachine (by decide) (by decide), r atWeb (by decide) (by decide), r atStates (by decide) (by decide), r atEndings (by decide) (by decide), r atCode (by decide) (by decide), ex, S.2.2]
  refine ⟨⟨⟨hA.1, hA.2, ⟨?_, ?_⟩, b4⟩, by rw [c1]; exact hm, hw, b8, hN⟩, c1, fun z => ⟨⟨(c2 z).1.1, by rw [Z.i (n3 atNexts (by decide) (by decide))]; exact (c2 z).1.2⟩, fun y => ?_⟩⟩
  · rw [r atStates (by decide) (by decide)]; exact S.1 b3.1
  · rw [r atEndings (by decide) (by decide)]; exact E.1 b3.2
  · intro i hi
    rw [r atCode (by decide) (by decide), K.2.1, K.2.2] at hi
    rw [r atEndings (by decide) (by decide), E.2.1]
    exact (c2 z).2 y i hi
/-- a call that touches atlas, machine, web, their hoards and the Solver's marks -/
theorem chI_e9 {C : zC} {n0 a : Nat} {L : Int} {ρ : Nat → Nat} {F : Nat → Nat → Prop} {κ τ : zS} (W : zW C n0 κ) (T : zT κ a = 15) (Z : zF F κ τ) (hF : ∀ f x, F f x → zT κ x = 3 ∨ zT κ x = 7 ∨ zT κ x = 14 ∨ (zT κ x = 6 ∧ x ≠ zR κ odGroups (zR κ chOdds a)) ∨ (x = zR κ chSolver a ∧ (f = soSolved ∨ f = soPlanned))) (hB : chB9 τ a) (hr : zR τ atStates (zR κ chAtlas a) = zR κ atStates (zR κ chAtlas a) ∧ zR τ atEndings (zR κ chAtlas a) = zR κ atEndings (zR κ chAtlas a) ∧ zR τ atWeb (zR κ chAtlas a) = zR κ atWeb (zR κ chAtlas a)) (hS9 : chS9 ρ τ a) (I : chI9 ρ κ a L) : chI9 ρ τ a L ∧ (∃ F, zF F κ τ) ∧ oC9 τ a = oC9 κ a := by
  obtain ⟨⟨A1, ⟨⟨A2, A3⟩, A4⟩, A5, A6⟩, B, ⟨C1, C2, C3, C4⟩, _, ⟨D1, D2, D3, ⟨D4, D5⟩, D6, D7⟩, E0, L0, K0⟩ := I
  have tS := ty_chSolver W T
  have tO := ty_chOdds W T
  have no : ∀ x K, zT κ x = K → K ≠ 3 ∧ K ≠ 7 ∧ K ≠ 14 ∧ K ≠ 6 ∧ K ≠ 12 → ∀ f, ¬ F f x := fun x K h1 h2 f z => by
    rcases hF f x z with y | y | y | y | y
    · exact h2.1 (h1.symm.trans y)
    · exact h2.2.1 (h1.symm.trans y)
    · exact h2.2.2.1 (h1.symm.trans y)
    · exact h2.2.2.2.1 (h1.symm.trans y.1)
    · rw [y.1, tS] at h1
      exact h2.2.2.2.2 h1.symm
  have nS : ∀ f, f ≠ soSolved → f ≠ soPlanned → ¬ F f (zR κ chSolver a) := fun f h1 h2 z => by
    rcases hF f _ z with y | y | y | y | y
    · rw [tS] at y; exact absurd y (by decide)
    · rw [tS] at y; exact absurd y (by decide)
    · rw [tS] at y; exact absurd y (by decide)
    · have y1 := y.1
      rw [tS] at y1; exact absurd y1 (by decide)
    · exact y.2.elim h1 h2
  have tG := ty_odGroups W tO
  have nG : ∀ f, ¬ F f (zR κ odGroups (zR κ chOdds a)) := fun f z => by
    rcases hF f _ z with y | y | y | y | y
    · rw [tG] at y; exact absurd y (by decide)
    · rw [tG] at y; exact absurd y (by decide)
    · rw [tG] at y; exact absurd y (by decide)
    · exact y.2 rfl
    · have y1 := y.1
      rw [y1, tS] at tG; exact absurd tG (by decide)
  have E := chE_u9 W T Z (fun f _ => no a 15 T (by decide) f) E0
  have o := E.2.1
  have hS := rs_h9 W tS C1 Z (fun f w y => no w 8 y (by decide) f) (fun f w y => no w 11 y (by decide) f) (fun f w y => no w 4 y (by decide) f) nS
  have P := pa_u9 Z W (ty_chParser W T) (fun f _ => no _ 10 (ty_chParser W T) (by decide) f) A5
  have K1 := co_u9 Z W (ty_chCode W T) (fun f _ => no _ 5 (ty_chCode W T) (by decide) f)
  have K2 := co_u9 Z W (ty_chSpare W T) (fun f _ => no _ 5 (ty_chSpare W T) (by decide) f)
  have G := odd_u9 Z W tO (fun f _ => no _ 9 tO (by decide) f)
  have H := ho_u9 (M := 3000) (D := 3) (S := 8192) Z W tG (fun f _ => nG f)
  have A := ta_u9 Z W (ty_chTape W T) (fun f _ => no _ 13 (ty_chTape W T) (by decide) f) A1
  have rS : ∀ f, f ≠ soSolved → f ≠ soPlanned → zR τ f (zR κ chSolver a) = zR κ f (zR κ chSolver a) := fun f h1 h2 => Z.r (nS f h1 h2)
  refine ⟨⟨⟨?_, ?_, ?_⟩, hB, ?_, hS9, ?_, E.1, ?_, ?_⟩, ⟨_, Z⟩, oC_v9 W T Z (fun f _ => no a 15 T (by decide) f) (fun f _ => no _ 13 (ty_chTape W T) (by decide) f)⟩
  · rw [o chTape (by decide)]; exact A.1
  · rw [o chCode (by decide), o chSpare (by decide)]
    exact ⟨⟨K1.1 A2, K2.1 A3⟩, A4⟩
  · rw [o chParser (by decide), o chTape (by decide)]
    exact ⟨P.1, P.2.trans A6⟩
  · unfold chC9
    rw [o chSolver (by decide), o chAtlas (by decide), o chShown (by decide), rS soTaken (by decide) (by decide), rS soAtlas (by decide) (by decide), rS soWeb (by decide) (by decide), Z.l (ty_soTaken W tS), hr.2.2]
    exact ⟨hS.1, C2, C3, C4⟩
  · unfold chD9
    rw [o chSolver (by decide), o chAtlas (by decide), o chOdds (by decide), G.2.2.2.2, G.2.2.1, G.2.2.2.1, G.1 odAtlas (by decide), G.1 odSolver (by decide), G.1 odCalc (by decide), G.1 odHeld (by decide), G.1 odGroups (by decide), rS soCalc (by decide) (by decide), hr.1, hr.2.1]
    exact ⟨D1, D2, ⟨G.2.1 D3.1, D3.2⟩, ⟨H.1 D4, D5⟩, D6, D7⟩
  · rw [o chTape (by decide), A.2]; exact L0
  · exact cK_z9 W T Z (o chSolver (by decide)) (o chOdds (by decide)) (fun b hb => no b 0 (zT_o9 W hb) (by decide) 0) (fun f hf => nS f (by rcases hf with y | y | y <;> rw [y] <;> decide) (by rcases hf with y | y | y <;> rw [y] <;> decide)) (Nat.le_of_eq (nE_z9 W tO Z (no _ 9 tO (by decide) _)).symm) K0
/-- the Solver's marks, perhaps the plan, are stored -/
def mkF9 (κ : zS) (a : Nat) : Nat → Nat → Prop := fun f x => (x = zR κ chSolver a ∧ (f = soSolved ∨ f = soPlanned)) ∨ (x = zR κ chAtlas a ∧ f = atPlan)
theorem chI_m9 {C : zC} {n0 a : Nat} {L : Int} {ρ : Nat → Nat} {κ τ : zS} (W : zW C n0 κ) (T : zT κ a = 15) (Z : zF (mkF9 κ a) κ τ) (R : zR τ = zR κ) (h0 : zI τ soSolved (zR κ chSolver a) = 0) (h1 : zI τ soPlanned (zR κ chSolver a) = 0 ∨ zI τ soPlanned (zR κ chSolver a) = zI κ soPlanned (zR κ chSolver a)) (I : chI9 ρ κ a L) : chI9 ρ τ a L ∧ (∃ F, zF F κ τ) ∧ oC9 τ a = oC9 κ a := by
  have tA := ty_chAtlas W T
  have tS := ty_chSolver W T
  have tm := ty_chMachine W T
  have no : ∀ x K, zT κ x = K → K ≠ 3 ∧ K ≠ 12 → ∀ f, ¬ mkF9 κ a f x := fun x K h1 h2 f z => by
    rcases z with z | z
    · rw [z.1, tS] at h1; exact h2.2 h1.symm
    · rw [z.1, tA] at h1; exact h2.1 h1.symm
  have n3 : ∀ f, f / 100 = 3 → f ≠ atPlan → ¬ mkF9 κ a f (zR κ chAtlas a) := fun f hf h2 z => by
    rcases z with z | z
    · rw [z.1, tS] at tA; exact absurd tA (by decide)
    · exact h2 z.2
  have g := at_u9 Z W tA n3 (by rw [R])
  have M := atM_u9 g
  have B := I.2.1
  have iS := (ho_u9 (M := 1000) (D := 142) (S := 2048) Z W (ty_atStates W tA) (fun f _ => no _ 6 (ty_atStates W tA) (by decide) f)).2.2
  have iE := (ho_u9 (M := 1000) (D := 142) (S := 2048) Z W (ty_atEndings W tA) (fun f _ => no _ 6 (ty_atEndings W tA) (by decide) f)).2.2
  have Wn : ∀ n, atW τ (zR κ chAtlas a) n ↔ atW κ (zR κ chAtlas a) n := fun n => atW_u9 g (Z.i (n3 _ (by decide) (by decide))) iS iE
  have V := we_u9 Z W (ty_atWeb W tA) (fun f _ => no _ 14 (ty_atWeb W tA) (by decide) f)
  have ma : maL κ (zR κ chMachine a) := by
    have y := B.1.2.1
    rw [B.2.1] at y
    exact y
  have hB := chB_w9 W T Z (fun f _ _ _ => by rw [R]) n3 (fun f _ => no _ 6 (ty_atStates W tA) (by decide) f) (fun f _ => no _ 6 (ty_atEndings W tA) (by decide) f) (fun f _ => no _ 5 (ty_atCode W tA) (by decide) f) (ma_u9 Z W tm (fun f _ => no _ 7 tm (by decide) f) ma) ⟨B.1.2.2.1.1.elim (fun z => Or.inl (V.2.1 z)) (fun z => Or.inr (V.1 z)), V.2.2 B.1.2.2.1.2⟩ ⟨B.1.1.1.elim (fun z => Or.inl (M.2.1 z)) (fun z => Or.inr (M.1 z)), M.2.2 B.1.1.2.1⟩ (fun z => by
    obtain ⟨n, hn⟩ := B.1.2.2.2.2 z
    exact ⟨n, (Wn n).mpr hn⟩) B
  refine chI_e9 W T Z (fun f x z => ?_) hB.1 ⟨by rw [R], by rw [R], by rw [R]⟩ ?_ I
  · rcases z with z | z
    · exact Or.inr (Or.inr (Or.inr (Or.inr z)))
    · left; rw [z.1]; exact tA
  · unfold chS9
    rw [R, hB.2.1]
    refine ⟨fun z => absurd h0 z, fun z => ?_⟩
    have z' : zI κ soPlanned (zR κ chSolver a) ≠ 0 := by
      rcases h1 with y | y
      · exact absurd y z
      · rw [y] at z; exact z
    obtain ⟨x1, x3⟩ := I.2.2.2.1.2 z'
    have nw : ¬ mkF9 κ a soWorths (zR κ chSolver a) := fun y => by
      rcases y with y | y
      · exact y.2.elim (fun q => absurd q (by decide)) (fun q => absurd q (by decide))
      · exact absurd y.2 (by decide)
    have q := (Z.row W (show zr soWorths = some 25 by decide +kernel) (by decide) (tS.trans (by decide)) nw).2.2
    rw [R] at q
    rw [q, Z.l (ty_soWorths W tS)]
    exact ⟨x1, fun n hn => x3 n ((Wn n).mp hn)⟩
theorem Ch_explore_c {C : zC} {n0 : Nat} {a0 : Nat} {a1 : Int32} {κ : zS} {Q : Int32 → zS → Prop} {X : zXp} (W : zW C n0 κ) (Ta0 : zT κ a0 = 15) (ρ : Nat → Nat) (L9 : Int) (hp : chI9 ρ κ a0 L9) (h : ∀ (v : Int32) (κ' : zS), (chI9 ρ κ' a0 L9 ∧ (∃ F, zF F κ κ') ∧ oC9 κ' a0 = oC9 κ a0) → Q v κ') (hx : ∀ (cls : String) (κ' : zS), ((cls = "java/lang/IllegalArgumentException" ∨ cls = "java/lang/IllegalStateException") ∧ κ' = ut κ) → X cls κ') : zRun C 8 mCh_explore [.ref a0, .int a1] κ (oI Q X) := by
  refine Ch_explore_run W Ta0 ?_
  replace W := W.lo (Nat.le_trans W.1.2.1 W.1.2.2) (Nat.le_refl (zn κ))
  unfold w_Ch_explore_0
  refine ⟨fun c1 => ?_, fun c1 => ?_⟩
  · skip
    refine ⟨fun c2 => ?_, fun c2 => ?_⟩
    · skip
      intro κ_3 hκ_3
      refine hx _ _ ?_
      · exact ⟨Or.inl rfl, hκ_3⟩  -- x1
    · skip
      refine ⟨fun c4 => ?_, fun c4 => ?_⟩
      · skip
        intro κ_5 hκ_5
        intro W6
        intro κ_7 hκ_7
        intro W8
        intro T9
        intro T10
        refine At_discover_c2 W8 T9 T10  ?_ (fun r11 κ_12 q13 => ?_)
        · have R5 : zR κ_5 = zR κ := by rw [hκ_5]; rfl
          have Z5 : zF (mkF9 κ a0) κ κ_5 := by rw [hκ_5]; exact zF_ui (Or.inl ⟨rfl, Or.inl rfl⟩)
          rw [R5] at hκ_7
          have Z7 : zF (mkF9 κ a0) κ κ_7 := Z5.tr (by rw [hκ_7]; exact zF_ui (Or.inl ⟨rfl, Or.inr rfl⟩))
          have R7 : zR κ_7 = zR κ := by rw [hκ_7]; exact R5
          have s5 : zI κ_5 soSolved (zR κ chSolver a0) = 0 := by rw [hκ_5]; exact if_pos ⟨rfl, rfl⟩
          have s7 : zI κ_7 soSolved (zR κ chSolver a0) = 0 := by
            rw [hκ_7]
            exact s5
          have p7 : zI κ_7 soPlanned (zR κ chSolver a0) = 0 := by rw [hκ_7]; exact if_pos ⟨rfl, rfl⟩
          have I7 := chI_m9 W Ta0 Z7 R7 s7 (Or.inl p7) hp
          have T7 := Z7.t Ta0 (by decide)
          rw [lti] at c2
          rw [lei] at c4
          have e1 : (1 : Int32).toInt = 1 := rfl
          have e1000 : (1000 : Int32).toInt = 1000 := rfl
          exact ⟨I7.1.2.1.1, I7.1.1.2.1.1.1, by omega, by omega⟩
        intro W14
        intro M15
        refine h _ _ ?_
        · have R5 : zR κ_5 = zR κ := by rw [hκ_5]; rfl
          have Z5 : zF (mkF9 κ a0) κ κ_5 := by rw [hκ_5]; exact zF_ui (Or.inl ⟨rfl, Or.inl rfl⟩)
          rw [R5] at hκ_7
          have Z7 : zF (mkF9 κ a0) κ κ_7 := Z5.tr (by rw [hκ_7]; exact zF_ui (Or.inl ⟨rfl, Or.inr rfl⟩))
          have R7 : zR κ_7 = zR κ := by rw [hκ_7]; exact R5
          have s5 : zI κ_5 soSolved (zR κ chSolver a0) = 0 := by rw [hκ_5]; exact if_pos ⟨rfl, rfl⟩
          have s7 : zI κ_7 soSolved (zR κ chSolver a0) = 0 := by
            rw [hκ_7]
            exact s5
          have p7 : zI κ_7 soPlanned (zR κ chSolver a0) = 0 := by rw [hκ_7]; exact if_pos ⟨rfl, rfl⟩
          have I7 := chI_m9 W Ta0 Z7 R7 s7 (Or.inl p7) hp
          have T7 := Z7.t Ta0 (by decide)
          have tA7 := ty_chAtlas W8 T7
          have tS7 := ty_chSolver W8 T7
          have Ds := I7.1.2.2.2.2.1.2.2.2.2.2
          have na : ∀ f, ¬ dsF κ_7 (zR κ_7 chAtlas a0) f a0 := fun f z => by
            have y1 := ty_atMachine W8 tA7
            have y2 := ty_atStates W8 tA7
            have y3 := ty_atEndings W8 tA7
            have y4 := ty_atWeb W8 tA7
            rcases z with (z | z | z | z) | z
            · have z1 := z.1
              rw [← z1, T7] at tA7; exact absurd tA7 (by decide)
            · rw [← z, T7] at y1; exact absurd y1 (by decide)
            · rw [← z, T7] at y2; exact absurd y2 (by decide)
            · rw [← z, T7] at y3; exact absurd y3 (by decide)
            · rw [← z, T7] at y4; exact absurd y4 (by decide)
          have nr : ∀ f, f < 304 → zR κ_12 f (zR κ_7 chAtlas a0) = zR κ_7 f (zR κ_7 chAtlas a0) := fun f hf => q13.1.r (fun z => by
            have y1 := ty_atMachine W8 tA7
            have y2 := ty_atStates W8 tA7
            have y3 := ty_atEndings W8 tA7
            have y4 := ty_atWeb W8 tA7
            rcases z with (z | z | z | z) | z
            · omega
            · rw [← z, tA7] at y1; exact absurd y1 (by decide)
            · rw [← z, tA7] at y2; exact absurd y2 (by decide)
            · rw [← z, tA7] at y3; exact absurd y3 (by decide)
            · rw [← z, tA7] at y4; exact absurd y4 (by decide))
          have ns : ∀ f, ¬ dsF κ_7 (zR κ_7 chAtlas a0) f (zR κ_7 chSolver a0) := fun f z => by
            have y1 := ty_atMachine W8 tA7
            have y2 := ty_atStates W8 tA7
            have y3 := ty_atEndings W8 tA7
            have y4 := ty_atWeb W8 tA7
            rcases z with (z | z | z | z) | z
            · have z1 := z.1
              rw [← z1, tS7] at tA7; exact absurd tA7 (by decide)
            · rw [← z, tS7] at y1; exact absurd y1 (by decide)
            · rw [← z, tS7] at y2; exact absurd y2 (by decide)
            · rw [← z, tS7] at y3; exact absurd y3 (by decide)
            · rw [← z, tS7] at y4; exact absurd y4 (by decide)
          have R := chI_e9 (ρ := ρ) (L := L9) W8 T7 q13.1 (fun f x z => by
            rcases z with (z | z | z | z) | z
            · left; rw [z.1]; exact tA7
            · right; left; rw [z]; exact ty_atMachine W8 tA7
            · right; right; right; left; rw [z]; exact ⟨ty_atStates W8 tA7, Ds.1⟩
            · right; right; right; left; rw [z]; exact ⟨ty_atEndings W8 tA7, Ds.2⟩
            · right; right; left; rw [z]; exact ty_atWeb W8 tA7) (by
            unfold chB9
            rw [q13.1.r (na chAtlas), q13.1.r (na chMachine), q13.1.r (na chCode), nr atMachine (by decide)]
            exact ⟨q13.2.1, I7.1.2.1.2.1, fun z => ⟨⟨q13.2.2.1, (q13.2.2.2 z).1⟩, (q13.2.2.2 z).2⟩⟩) ⟨nr _ (by decide), nr _ (by decide), nr _ (by decide)⟩ (by
            unfold chS9
            rw [q13.1.r (na chSolver), q13.1.i (ns soSolved), q13.1.i (ns soPlanned), R7, s7, p7]
            exact ⟨fun z => absurd rfl z, fun z => absurd rfl z⟩) I7.1
          obtain ⟨F5, G5⟩ := R.2.1
          exact ⟨R.1, ⟨fun _ _ => True, (Z7.mono (fun _ _ _ => trivial)).tr (G5.mono (fun _ _ _ => trivial))⟩, R.2.2.trans I7.2.2⟩
      · skip
        intro κ_16 hκ_16
        refine hx _ _ ?_
        · exact ⟨Or.inl rfl, hκ_16⟩  -- x4
  · skip
    intro κ_17 hκ_17
    refine hx _ _ ?_
    · exact ⟨Or.inr rfl, hκ_17⟩  -- x5

theorem Ch_decide_c {C : zC} {n0 : Nat} {a0 : Nat} {a1 : Int32} {a2 : Int32} {κ : zS} {Q : Int32 → zS → Prop} {X : zXp} (W : zW C n0 κ) (Ta0 : zT κ a0 = 15) (ρ : Nat → Nat) (L9 : Int) (hp : chI9 ρ κ a0 L9) (h : ∀ (v : Int32) (κ' : zS), (chI9 ρ κ' a0 L9 ∧ (∃ F, zF F κ κ') ∧ oC9 κ' a0 = oC9 κ a0) → Q v κ') (hx : ∀ (cls : String) (κ' : zS), (cls = "java/lang/IndexOutOfBoundsException" ∧ κ' = ut κ) → X cls κ') : zRun C 8 mCh_decide [.ref a0, .int a1, .int a2] κ (oI Q X) := by
  refine Ch_decide_run W Ta0 ?_
  replace W := W.lo (Nat.le_trans W.1.2.1 W.1.2.2) (Nat.le_refl (zn κ))
  unfold w_Ch_decide_0
  intro T1
  refine At_holds_c W T1  (fun r2 q4 => ?_)
  intro W5
  intro M6
  refine ⟨fun c7 => ?_, fun c7 => ?_⟩
  · skip
    intro κ_8 hκ_8
    refine hx _ _ ?_
    · exact ⟨rfl, hκ_8⟩  -- x1
  · skip
    refine ⟨?_, ?_⟩
    · have H := ch_h9 hp q4 c7
      rw [inb_iff, H.2.1.2.2.2.2.1]
      have y := H.2.2.1
      omega
    refine ⟨fun c9 => ?_, fun c9 => ?_⟩
    · skip
      intro κ_10 hκ_10
      refine hx _ _ ?_
      · exact ⟨rfl, hκ_10⟩  -- x3
    · skip
      refine ⟨fun c11 => ?_, fun c11 => ?_⟩
      · skip
        intro κ_12 hκ_12
        refine hx _ _ ?_
        · exact ⟨rfl, hκ_12⟩  -- x4
      · skip
        intro T13
        refine At_waysOf_c W5 T13  ?_ (fun r14 q16 => ?_)
        · have H := ch_h9 hp q4 c7
          exact ⟨H.2.1.1, H.2.2.1⟩
        intro W17
        intro M18
        refine ⟨fun c19 => ?_, fun c19 => ?_⟩
        · skip
          refine ⟨?_, ?_⟩
          · have H := ch_h9 hp q4 c7
            rw [inb_iff, H.2.1.2.2.2.1]
            have y := H.2.2.1
            omega
          intro x20 hx20
          refine ⟨?_, ?_⟩
          · have H := ch_h9 hp q4 c7
            rw [inb_iff, H.2.1.2.2.2.1]
            have y := H.2.2.1
            omega
          intro κ_21 hκ_21
          intro W22
          intro κ_23 hκ_23
          intro W24
          refine h _ _ ?_
          · have o := W.o (show zr atPlan = some 20 by decide +kernel) (by decide) ((ty_chAtlas W Ta0).trans (by decide))
            have R1 : zR κ_21 = zR κ := by rw [hκ_21]; rfl
            have Z1 : zF (mkF9 κ a0) κ κ_21 := by rw [hκ_21]; exact zF_ua (by rw [o]; exact Or.inr ⟨rfl, rfl⟩)
            rw [R1] at hκ_23
            have Z3 : zF (mkF9 κ a0) κ κ_23 := Z1.tr (by rw [hκ_23]; exact zF_ui (Or.inl ⟨rfl, Or.inl rfl⟩))
            have R3 : zR κ_23 = zR κ := by rw [hκ_23]; exact R1
            refine chI_m9 W Ta0 Z3 R3 (by rw [hκ_23]; exact if_pos ⟨rfl, rfl⟩) (Or.inr ?_) hp
            rw [hκ_23, hκ_21]
            rfl
        · skip
          intro κ_25 hκ_25
          refine hx _ _ ?_
          · exact ⟨rfl, hκ_25⟩  -- x9
