section
set_option maxHeartbeats 1600000
/-! the class: ChanceWorks' showsNow, show -/
theorem so_un9 {ρ : Nat → Nat} {R : Nat → Prop} {ca x K : Nat} (hK : K ≠ 8 ∧ K ≠ 11 ∧ K ≠ 4) : un9 (soF ρ R ca) x K := fun f hf z => by
  rcases z with ⟨_, z | z | z⟩ | ⟨_, z | z | z | z⟩
  · rw [z] at hf; exact hK.1 hf.symm
  · rw [z] at hf; exact hK.1 hf.symm
  · rw [z] at hf; exact hK.2.1 hf.symm
  · rw [z] at hf; exact hK.2.2 hf.symm
  · rw [z] at hf; exact hK.2.2 hf.symm
  · rw [z] at hf; exact hK.2.2 hf.symm
  · rw [z] at hf; exact hK.2.2 hf.symm
/-- a call that works with numbers of small roles alone -/
theorem chI_n9 {C : zC} {n0 a ca : Nat} {L : Int} {ρ : Nat → Nat} {R : Nat → Prop} {κ τ : zS} (W : zW C n0 κ) (T : zT κ a = 15) (Z : zF (soF ρ R ca) κ τ) (hR : ∀ r, R r → r < 100) (N : nmI ρ τ ∧ soI ρ τ (zR κ chSolver a)) (hl : nuN τ (zR κ soLess (zR κ chSolver a)) < pB9 4000) (I : chI9 ρ κ a L) : chI9 ρ τ a L ∧ (∃ F, zF F κ τ) ∧ pC8 κ τ a := by
  obtain ⟨⟨A1, ⟨⟨A2, A3⟩, A4⟩, A5, A6⟩, B, ⟨C1, C2, C3, C4⟩, ⟨S1, S2⟩, ⟨D1, D2, D3, ⟨D4, D5⟩, D6, D7⟩, E0, L0, K0⟩ := I
  have tA := ty_chAtlas W T
  have tS := ty_chSolver W T
  have tO := ty_chOdds W T
  have tm := ty_chMachine W T
  have E := chE_u9 W T Z (so_un9 (by decide)) E0
  have o := E.2.1
  have ma : maL κ (zR κ chMachine a) := by
    have y := B.1.2.1
    rw [B.2.1] at y
    exact y
  have hB := chB_u9 W T Z (fun f hf _ _ => o f hf) (so_un9 (by decide)) (so_un9 (by decide)) (so_un9 (by decide)) (so_un9 (by decide)) (fun _ => so_un9 (by decide)) (ma_u9 Z W tm (so_un9 (by decide)) ma) B
  have hS := pw_r9 W tS C1 (Z.mono (fun f b z => (Or.inl z : pwF9 ρ R ca (zR κ chSolver a) f b))) (fun r z => Or.inl (hR r z)) N hl
  have P := pa_u9 Z W (ty_chParser W T) (so_un9 (by decide)) A5
  have K1 := co_u9 Z W (ty_chCode W T) (so_un9 (by decide))
  have K2 := co_u9 Z W (ty_chSpare W T) (so_un9 (by decide))
  have G := odd_u9 Z W tO (so_un9 (by decide))
  have H := ho_u9 (M := 3000) (D := 3) (S := 8192) Z W (ty_odGroups W tO) (so_un9 (by decide))
  have A := ta_u9 Z W (ty_chTape W T) (so_un9 (by decide)) A1
  have rS : ∀ f, f / 100 = 12 → zR τ f (zR κ chSolver a) = zR κ f (zR κ chSolver a) := fun f hf => Z.r (so_un9 (by decide) f hf)
  have iS : ∀ f, f / 100 = 12 → zI τ f (zR κ chSolver a) = zI κ f (zR κ chSolver a) := fun f hf => Z.i (so_un9 (by decide) f hf)
  have nv : zN τ (zR κ soVisits (zR κ chSolver a)) = zN κ (zR κ soVisits (zR κ chSolver a)) := Z.l (ty_soVisits W tS)
  have nw := hS.2.2.2
  rw [rS soWorths (by decide)] at nw
  refine ⟨⟨⟨?_, ?_, ?_⟩, hB.1, ?_, ?_, ?_, E.1, ?_, ?_⟩, ⟨_, Z⟩, ⟨pC_v7 W T Z (so_un9 (by decide)) (so_un9 (by decide)) (so_un9 (by decide)), kA_z8 W T Z (so_un9 (K := 15) (by decide) _ (by decide)) (fun f hf _ => so_un9 (K := 3) (by decide) f hf) (so_un9 (by decide)) (so_un9 (by decide))⟩⟩
  · rw [o chTape (by decide)]; exact A.1
  · rw [o chCode (by decide), o chSpare (by decide)]
    exact ⟨⟨K1.1 A2, K2.1 A3⟩, A4⟩
  · rw [o chParser (by decide), o chTape (by decide)]
    exact ⟨P.1, P.2.trans A6⟩
  · unfold chC9
    rw [o chSolver (by decide), o chAtlas (by decide), o chShown (by decide), rS soTaken (by decide), rS soAtlas (by decide), rS soWeb (by decide), Z.l (ty_soTaken W tS), hB.2.2.2 atWeb (by decide)]
    exact ⟨hS.1, C2, C3, C4⟩
  · unfold chS9
    rw [o chSolver (by decide), o chAtlas (by decide), iS soSolved (by decide), iS soPlanned (by decide), rS soVisits (by decide), rS soWorths (by decide), nv, nw.1, nw.2, hB.2.2.1]
    refine ⟨fun z => ?_, fun z => ?_⟩
    · obtain ⟨x1, P9, x2, x3⟩ := S1 z
      refine ⟨x1, P9, x2, fun n hn => ?_⟩
      have hn' := (hB.2.1 n).mp hn
      have y := x3 n hn'
      exact ⟨hS.2.2.1 n P9 hn'.2.2.1 y.1, y.2⟩
    · obtain ⟨x1, x3⟩ := S2 z
      exact ⟨x1, fun n hn => x3 n ((hB.2.1 n).mp hn)⟩
  · unfold chD9
    rw [o chSolver (by decide), o chAtlas (by decide), o chOdds (by decide), G.2.2.2.2, G.2.2.1, G.2.2.2.1, G.1 odAtlas (by decide), G.1 odSolver (by decide), G.1 odCalc (by decide), G.1 odHeld (by decide), G.1 odGroups (by decide), rS soCalc (by decide), hB.2.2.2 atStates (by decide), hB.2.2.2 atEndings (by decide)]
    exact ⟨D1, D2, ⟨G.2.1 D3.1, D3.2⟩, ⟨H.1 D4, D5⟩, D6, D7⟩
  · rw [o chTape (by decide), A.2]; exact L0
  · exact cK_z9 W T Z (o chSolver (by decide)) (o chOdds (by decide)) (fun b _ => soF_no9 (by decide)) (fun f hf => so_un9 (K := 12) (by decide) f (by rcases hf with y | y | y <;> rw [y] <;> rfl)) (Nat.le_of_eq (nE_z9 W tO Z (so_un9 (K := 9) (by decide) odEdges rfl)).symm) K0
/-- what Odds reads, where all is solved -/
theorem ch_o9 {a : Nat} {L : Int} {ρ : Nat → Nat} {κ : zS} (I : chI9 ρ κ a L) : ∃ n P, zI κ soSolved (zR κ chSolver a) ≠ 0 → odX9 ρ κ (zR κ chOdds a) n P ∧ (0 < P ∧ P < pB9 1490) ∧ atW κ (zR κ chAtlas a) n ∧ vsI9 ρ κ (zR κ chSolver a) n P ∧ n ≤ (zN κ (zR κ soVisits (zR κ chSolver a))) := by
  by_cases z : zI κ soSolved (zR κ chSolver a) = 0
  · exact ⟨0, 0, fun y => absurd z y⟩
  · obtain ⟨x1, P, x2, x3⟩ := I.2.2.2.1.1 z
    obtain ⟨⟨n, hn⟩, G⟩ := ch_x9 I x1
    have y := x3 n hn
    have D := I.2.2.2.2.1
    refine ⟨n, P, fun _ => ⟨?_, x2, hn, y.1, y.2⟩⟩
    unfold odX9
    rw [D.1.1, D.1.2.1, D.1.2.2]
    refine ⟨⟨I.2.2.1.2.2.1.1, rfl⟩, D.2.1, ⟨hn, y.2⟩, y.1, ⟨G.2, fun e => (I.2.1.2.2 x1).2 ?_⟩, G.1.2⟩
    have t := hn.2.2.2.1
    omega
theorem Ch_showsNow_c {C : zC} {n0 : Nat} {a0 : Nat} {a1 : Int32} {κ : zS} {Q : Int32 → zS → Prop} (W : zW C n0 κ) (Ta0 : zT κ a0 = 15) (ρ : Nat → Nat) (n9 P9 : Nat) (hp : zI κ soSolved (zR κ chSolver a0) ≠ 0 → odX9 ρ κ (zR κ chOdds a0) n9 P9) (h : ∀ (v : Int32), (nb v ∧ (v ≠ 0 → (¬ a1 = 12 → ¬ a1 = 11 → zI κ soSolved (zR κ chSolver a0) ≠ 0) ∧ (a1 = 11 → zI κ soPlanned (zR κ chSolver a0) ≠ 0))) → Q v κ) : zRun C 6 mCh_showsNow [.ref a0, .int a1] κ (oI Q noX) := by
  refine Ch_showsNow_run W Ta0 ?_
  replace W := W.lo (Nat.le_trans W.1.2.1 W.1.2.2) (Nat.le_refl (zn κ))
  unfold w_Ch_showsNow_0
  have tS := ty_chSolver W Ta0
  refine ⟨fun c1 => ?_, fun c1 => ?_⟩
  · skip
    refine ⟨fun c2 => ?_, fun c2 => ?_⟩
    · skip
      refine ⟨fun c3 => ?_, fun c3 => ?_⟩
      · skip
        refine ⟨fun c4 => ?_, fun c4 => ?_⟩
        · skip
          refine ⟨fun c5 => ?_, fun c5 => ?_⟩
          · skip
            refine h _ ?_
            · exact ⟨nb_1, fun _ => ⟨fun _ _ => c3, fun z => absurd z c2⟩⟩  -- q1
          · skip
            intro T6
            refine Od_weighs_c W T6 ρ n9 P9 ?_ (fun r7 q9 => ?_)
            · exact hp c3  -- p2
            intro W10
            intro M11
            refine ⟨fun c12 => ?_, fun c12 => ?_⟩
            · skip
              refine h _ ?_
              · exact ⟨nb_0, fun z => absurd rfl z⟩  -- q3
            · skip
              refine h _ ?_
              · exact ⟨nb_1, fun _ => ⟨fun _ _ => c3, fun z => absurd z c2⟩⟩  -- q4
        · skip
          intro T13
          refine Od_weighs_c W T13 ρ n9 P9 ?_ (fun r14 q16 => ?_)
          · exact hp c3  -- p5
          intro W17
          intro M18
          refine ⟨?_, h _ ?_⟩
          · exact q16  -- b6
          · exact ⟨q16, fun _ => ⟨fun _ _ => c3, fun z => absurd z c2⟩⟩  -- q7
      · skip
        refine h _ ?_
        · exact ⟨nb_0, fun z => absurd rfl z⟩  -- q8
    · skip
      refine ⟨?_, h _ ?_⟩
      · exact W.2.2.2.2.2.1 soPlanned _ (by decide) (tS.trans (by decide))  -- b9
      · exact ⟨W.2.2.2.2.2.1 soPlanned _ (by decide) (tS.trans (by decide)), fun z => ⟨fun _ y => absurd c2 y, fun _ => z⟩⟩  -- q10
  · skip
    refine ⟨?_, h _ ?_⟩
    · exact W.2.2.2.2.2.1 chPlayMade _ (by decide) (Ta0.trans (by decide))  -- b11
    · exact ⟨W.2.2.2.2.2.1 chPlayMade _ (by decide) (Ta0.trans (by decide)), fun _ => ⟨fun y => absurd c1 y, fun y => by rw [y] at c1; exact absurd c1 (by decide)⟩⟩  -- q12

theorem Ch_show_c {C : zC} {n0 : Nat} {a0 : Nat} {a1 : Int32} {a2 : Int32} {κ : zS} {Q : Int32 → zS → Prop} {X : zXp} (W : zW C n0 κ) (Ta0 : zT κ a0 = 15) (ρ : Nat → Nat) (L9 : Int) (n9 P9 : Nat) (hp : chI9 ρ κ a0 L9 ∧ (zI κ soSolved (zR κ chSolver a0) ≠ 0 → odX9 ρ κ (zR κ chOdds a0) n9 P9 ∧ (0 < P9 ∧ P9 < pB9 1490) ∧ atW κ (zR κ chAtlas a0) n9 ∧ vsI9 ρ κ (zR κ chSolver a0) n9 P9 ∧ n9 ≤ (zN κ (zR κ soVisits (zR κ chSolver a0))))) (h : ∀ (v : Int32) (κ' : zS), (chI9 ρ κ' a0 L9 ∧ (∃ F, zF F κ κ') ∧ pC8 κ κ' a0) → Q v κ') (hx : ∀ (cls : String) (κ' : zS), ((cls = "java/lang/IllegalArgumentException" ∨ cls = "java/lang/IllegalStateException" ∨ cls = "java/lang/IndexOutOfBoundsException") ∧ κ' = ut κ) → X cls κ') : zRun C 8 mCh_show [.ref a0, .int a1, .int a2] κ (oI Q X) := by
  refine Ch_show_run W Ta0 ?_
  replace W := W.lo (Nat.le_trans W.1.2.1 W.1.2.2) (Nat.le_refl (zn κ))
  unfold w_Ch_show_0
  obtain ⟨I, hX⟩ := hp
  have tS := ty_chSolver W Ta0
  have NS := I.2.2.1.1.1
  have h30 := I.2.2.1.2.2.2
  have J := ch_n9 I
  have D1 := I.2.2.2.2.1.1
  have hj156 : ∀ (l0 : Nat) (l1 : Int32) (l2 : Int32) (τ : zS), zW C (zn κ) τ → zT τ l0 = 15 → (κ = τ ∧ a0 = l0 ∧ a1 = l1 ∧ a2 = l2 ∧ zI κ soSolved (zR κ chSolver a0) ≠ 0) → w_Ch_show_156 C (zn κ) Q X  l0 l1 l2 τ := by
    rintro _ _ _ _ W156 T156_0 ⟨rfl, rfl, rfl, rfl, j156⟩
    unfold w_Ch_show_156
    intro T1
    intro T2
    refine Od_showWeight_c W156 T1 T2 ρ n9 P9 ?_ (fun κ_3 q4 => ?_)
    · have X := hX j156
      rw [D1.2.1]
      exact ⟨NS, X.1, X.2.1, h30⟩
    intro W5
    intro M6
    refine h _ _ ?_
    · rw [D1.2.1] at q4
      exact chI_n9 W Ta0 q4.1.1 (fun r z => z) ⟨q4.1.2.1, q4.1.2.2⟩ q4.2 I
  have hj90 : ∀ (l0 : Nat) (l1 : Int32) (l2 : Int32) (τ : zS), zW C (zn κ) τ → zT τ l0 = 15 → (κ = τ ∧ a0 = l0 ∧ a1 = l1 ∧ a2 = l2 ∧ ((¬ a1 = 12 → ¬ a1 = 11 → zI κ soSolved (zR κ chSolver a0) ≠ 0) ∧ (a1 = 11 → zI κ soPlanned (zR κ chSolver a0) ≠ 0)) ∧ (a1 = 8 ∨ a1 = 11 → zI κ atExplored (zR κ chAtlas a0) ≠ 0 ∧ 0 ≤ a2.toInt ∧ a2.toInt < (zI κ hoTotal (zR κ atStates (zR κ chAtlas a0))).toInt)) → w_Ch_show_90 C (zn κ) Q X  l0 l1 l2 τ := by
    rintro _ _ _ _ W90 T90_0 ⟨rfl, rfl, rfl, rfl, j90⟩
    unfold w_Ch_show_90
    refine ⟨fun c7 => ?_, fun c7 => ?_⟩
    · skip
      refine ⟨fun c8 => ?_, fun c8 => ?_⟩
      · skip
        refine ⟨fun c9 => ?_, fun c9 => ?_⟩
        · skip
          refine hj156 _ _ _ _ W90 ?_ ?_
          · exact Ta0  -- t3
          · exact ⟨rfl, rfl, rfl, rfl, j90.1.1 c7 c8⟩  -- k4
        · skip
          refine ⟨fun c10 => ?_, fun c10 => ?_⟩
          · skip
            refine hj156 _ _ _ _ W90 ?_ ?_
            · exact Ta0  -- t5
            · exact ⟨rfl, rfl, rfl, rfl, j90.1.1 c7 c8⟩  -- k6
          · skip
            intro T11
            intro T12
            refine So_showVisits_c W90 T11 T12 ρ n9 P9 ?_ (fun κ_13 q14 => ?_)
            · have X := hX (j90.1.1 c7 c8)
              refine ⟨NS, ⟨by rw [I.2.2.1.2.2.1.1]; exact X.2.2.1, X.2.2.2.2⟩, X.2.2.2.1, X.2.1, h30, fun z => ?_⟩
              have y := j90.2 (Or.inl z)
              have t := X.2.2.1.2.2.2.1
              exact ⟨y.2.1, by omega⟩
            intro W15
            intro M16
            refine h _ _ ?_
            · refine chI_n9 W Ta0 q14.1.1 (fun r z => z) ⟨q14.1.2.1, q14.1.2.2⟩ ?_ I
              rcases q14.2 with y | y
              · exact y
              · rw [y]; exact I.2.2.1.1.2.2.2.2.2.2
      · skip
        have H11 : zI κ soPlanned (zR κ chSolver a0) ≠ 0 → (zI κ atExplored (zR κ chAtlas a0) ≠ 0 ∧ 0 ≤ a2.toInt ∧ a2.toInt < (zI κ hoTotal (zR κ atStates (zR κ chAtlas a0))).toInt) → (a2.toInt < (zN κ (zR κ soWorths (zR κ chSolver a0))) ∧ a2.toNatClampNeg < 1000) ∧ ∃ u, zQ κ (zR κ soWorths (zR κ chSolver a0)) a2.toNatClampNeg = some u := fun y1 y2 => by
          obtain ⟨x1, x3⟩ := I.2.2.2.1.2 y1
          obtain ⟨⟨n, hn⟩, _⟩ := ch_x9 I x1
          have t := hn.2.2.2.1
          have t3 := hn.2.2.1
          have k := cnk y2.2.1
          have z := x3 n hn
          exact ⟨⟨by omega, by omega⟩, z.2 _ (by omega)⟩
        refine ⟨?_, ?_⟩
        · have y2 := j90.2 (Or.inr c8)
          have H := H11 (j90.1.2 c8) y2
          rw [inb_iff]
          exact ⟨y2.2.1, H.1.1⟩
        refine ex_some ?_ (fun u17 hu17 => ?_)
        · exact (H11 (j90.1.2 c8) (j90.2 (Or.inr c8))).2  -- e10
        intro T18
        intro T19
        have hw := I.2.2.1.1.2.2.2.2.1.1 _ u17 (H11 (j90.1.2 c8) (j90.2 (Or.inr c8))).1.2 hu17
        have hr : raR (104 + 8 * a2.toNatClampNeg) := Or.inr (Or.inr ⟨by omega, by have := (H11 (j90.1.2 c8) (j90.2 (Or.inr c8))).1.2; omega, by omega⟩)
        have q := NS.1.2 u17 (by rw [hw]; exact hr)
        rw [hw] at q
        have q30 := ra_t9 NS.1 h30 (Or.inr rfl)
        have g1 := nm_g NS.1 q.2.1 (raR_n hr).1 (by omega)
        have g2 := nm_g NS.1 q.2.2 (raR_n hr).2 (by omega)
        have c1 : capR (104 + 8 * a2.toNatClampNeg + 1) = 20 := by
          have := (H11 (j90.1.2 c8) (j90.2 (Or.inr c8))).1.2
          unfold capR
          rw [if_neg (by omega), if_pos (by omega)]
        have c2 : capR (104 + 8 * a2.toNatClampNeg + 2) = 20 := by
          have := (H11 (j90.1.2 c8) (j90.2 (Or.inr c8))).1.2
          unfold capR
          rw [if_neg (by omega), if_pos (by omega)]
        rw [c1] at g1
        rw [c2] at g2
        have k1 := nuK_c9 g1.1
        have k2 := nuK_c9 g2.1
        refine Ra_copy_c W90 T18 T19 6500 ?_ (fun κ_20 q21 => ?_)
        · refine ⟨q30.2.1, ⟨g1.2.1, g2.2.1, ro_n q.2.1 q.2.2 (by omega)⟩, ⟨ro_n q30.1.1 q.2.1 (by omega), ro_n q30.1.1 q.2.2 (by omega), ro_n q30.1.2 q.2.1 (by omega), ro_n q30.1.2 q.2.2 (by omega)⟩, ⟨by omega, by omega⟩, by decide⟩  -- p11
        intro W22
        intro M23
        refine h _ _ ?_
        · have rt := raF_r q21.1 (f := raTop) (x := zR κ chShown a0) (by decide) (by decide) (by decide)
          have rb := raF_r q21.1 (f := raBottom) (x := zR κ chShown a0) (by decide) (by decide) (by decide)
          have y := q21.2.1
          unfold raJ at y
          rw [rt, rb] at y
          have M := nm_ra W tS NS.1 NS.2 h30 (Or.inr (Or.inl rfl)) q21.1 y.1 y.2.1
          have tl := ty_soLess W tS
          have l8 : ρ (zR κ soLess (zR κ chSolver a0)) = 8 := NS.2.1.2.2.2.2.2.1
          have nl := (soF_B (c := 0) W tl (M.2 0) (by rw [l8]; decide)).2.1
          exact chI_n9 W Ta0 (M.2 0) (fun r z => by rcases z with z | z | z <;> omega) M.1 (by rw [nl]; exact I.2.2.1.1.2.2.2.2.2.2) I
    · skip
      intro T24
      refine Ch_showPlay_c W90 T24  ?_ (fun κ_25 q26 => ?_)
      · exact ⟨(ra_t9 NS.1 h30 (Or.inr rfl)).2.1, I.2.2.2.2.2.1.2.2.2.2, I.2.2.2.2.2.1.2.1.1⟩  -- p13
      intro W27
      intro M28
      refine h _ _ ?_
      · have rt := raF_r q26.1 (f := raTop) (x := zR κ chShown a0) (by decide) (by decide) (by decide)
        have rb := raF_r q26.1 (f := raBottom) (x := zR κ chShown a0) (by decide) (by decide) (by decide)
        have y := q26.2
        unfold raJ at y
        rw [rt, rb] at y
        have M := nm_ra W tS NS.1 NS.2 h30 (Or.inr (Or.inl rfl)) q26.1 y.1 y.2.1
        have tl := ty_soLess W tS
        have l8 : ρ (zR κ soLess (zR κ chSolver a0)) = 8 := NS.2.1.2.2.2.2.2.1
        have nl := (soF_B (c := 0) W tl (M.2 0) (by rw [l8]; decide)).2.1
        exact chI_n9 W Ta0 (M.2 0) (fun r z => by rcases z with z | z | z <;> omega) M.1 (by rw [nl]; exact I.2.2.1.1.2.2.2.2.2.2) I
  have hj68 : ∀ (l0 : Nat) (l1 : Int32) (l2 : Int32) (τ : zS), zW C (zn κ) τ → zT τ l0 = 15 → (κ = τ ∧ a0 = l0 ∧ a1 = l1 ∧ a2 = l2 ∧ ((¬ a1 = 12 → ¬ a1 = 11 → zI κ soSolved (zR κ chSolver a0) ≠ 0) ∧ (a1 = 11 → zI κ soPlanned (zR κ chSolver a0) ≠ 0))) → w_Ch_show_68 C (zn κ) Q X  l0 l1 l2 τ := by
    rintro _ _ _ _ W68 T68_0 ⟨rfl, rfl, rfl, rfl, j68⟩
    unfold w_Ch_show_68
    intro T29
    refine At_holds_c W68 T29  (fun r30 q32 => ?_)
    intro W33
    intro M34
    refine ⟨fun c35 => ?_, fun c35 => ?_⟩
    · skip
      refine hj90 _ _ _ _ W33 ?_ ?_
      · exact Ta0  -- t15
      · exact ⟨rfl, rfl, rfl, rfl, j68, fun _ => q32.2 c35⟩  -- k16
    · skip
      intro κ_36 hκ_36
      refine hx _ _ ?_
      · exact ⟨Or.inr (Or.inr rfl), hκ_36⟩  -- x17
  have hj56 : ∀ (l0 : Nat) (l1 : Int32) (l2 : Int32) (τ : zS), zW C (zn κ) τ → zT τ l0 = 15 → (κ = τ ∧ a0 = l0 ∧ a1 = l1 ∧ a2 = l2 ∧ ((¬ a1 = 12 → ¬ a1 = 11 → zI κ soSolved (zR κ chSolver a0) ≠ 0) ∧ (a1 = 11 → zI κ soPlanned (zR κ chSolver a0) ≠ 0))) → w_Ch_show_56 C (zn κ) Q X  l0 l1 l2 τ := by
    rintro _ _ _ _ W56 T56_0 ⟨rfl, rfl, rfl, rfl, j56⟩
    unfold w_Ch_show_56
    refine ⟨fun c37 => ?_, fun c37 => ?_⟩
    · skip
      refine hj68 _ _ _ _ W56 ?_ ?_
      · exact Ta0  -- t18
      · exact ⟨rfl, rfl, rfl, rfl, j56⟩  -- k19
    · skip
      refine ⟨fun c38 => ?_, fun c38 => ?_⟩
      · skip
        refine hj90 _ _ _ _ W56 ?_ ?_
        · exact Ta0  -- t20
        · exact ⟨rfl, rfl, rfl, rfl, j56, fun z => z.elim (fun y => absurd y c37) (fun y => absurd y c38)⟩  -- k21
      · skip
        refine hj68 _ _ _ _ W56 ?_ ?_
        · exact Ta0  -- t22
        · exact ⟨rfl, rfl, rfl, rfl, j56⟩  -- k23
  refine ⟨fun c39 => ?_, fun c39 => ?_⟩
  · skip
    intro κ_40 hκ_40
    refine hx _ _ ?_
    · exact ⟨Or.inl rfl, hκ_40⟩  -- x24
  · skip
    refine ⟨fun c41 => ?_, fun c41 => ?_⟩
    · skip
      intro T42
      refine Ch_showsNow_c W T42 ρ n9 P9 ?_ (fun r43 q45 => ?_)
      · exact fun z => (hX z).1  -- p25
      intro W46
      intro M47
      refine ⟨fun c48 => ?_, fun c48 => ?_⟩
      · skip
        refine ⟨fun c49 => ?_, fun c49 => ?_⟩
        · skip
          refine hj56 _ _ _ _ W46 ?_ ?_
          · exact Ta0  -- t26
          · exact ⟨rfl, rfl, rfl, rfl, q45.2 c48⟩  -- k27
        · skip
          intro T50
          refine At_holdsEnding_c W46 T50  (fun r51 q53 => ?_)
          intro W54
          intro M55
          refine ⟨fun c56 => ?_, fun c56 => ?_⟩
          · skip
            intro κ_57 hκ_57
            refine hx _ _ ?_
            · exact ⟨Or.inr (Or.inr rfl), hκ_57⟩  -- x28
          · skip
            refine hj56 _ _ _ _ W54 ?_ ?_
            · exact Ta0  -- t29
            · exact ⟨rfl, rfl, rfl, rfl, q45.2 c48⟩  -- k30
      · skip
        intro κ_58 hκ_58
        refine hx _ _ ?_
        · exact ⟨Or.inr (Or.inl rfl), hκ_58⟩  -- x31
    · skip
      intro κ_59 hκ_59
      refine hx _ _ ?_
      · exact ⟨Or.inl rfl, hκ_59⟩  -- x32

end
section
set_option maxHeartbeats 1600000
/-! the class: ChanceWorks' explore, decide -/
/-- atlas, where its plan, machine and web alone may be touched -/
theorem chB_w9 {C : zC} {n0 a : Nat} {F : Nat → Nat → Prop} {κ τ : zS} (W : zW C n0 κ) (T : zT κ a = 15) (Z : zF F κ τ) (hO : ∀ f, f / 100 = 15 → f ≠ chDrawnWeights → f ≠ chDrawnTotals → zR τ f a = zR κ f a) (n3 : ∀ f, f / 100 = 3 → f ≠ atPlan → ¬ F f (zR κ chAtlas a)) (ns : un9 F (zR κ atStates (zR κ chAtlas a)) 6) (ne : un9 F (zR κ atEndings (zR κ chAtlas a)) 6) (nc : un9 F (zR κ atCode (zR κ chAtlas a)) 5) (hm : maL τ (zR κ chMachine a)) (hw : (weU τ (zR κ atWeb (zR κ chAtlas a)) ∨ weM τ (zR κ atWeb (zR κ chAtlas a))) ∧ weL τ (zR κ atWeb (zR κ chAtlas a))) (hA : (atU τ (zR κ chAtlas a) ∨ atM τ (zR κ chAtlas a)) ∧ atL τ (zR κ chAtlas a)) (hN : zI κ atExplored (zR κ chAtlas a) ≠ 0 → ∃ n, atW τ (zR κ chAtlas a) n) (B : chB9 κ a) : chB9 τ a ∧ (zI τ atExplored (zR κ chAtlas a) = zI κ atExplored (zR κ chAtlas a)) ∧ (∀ f, f / 100 = 3 → f ≠ atPlan → zR τ f (zR κ chAtlas a) = zR κ f (zR κ chAtlas a)) ∧ zI τ hoTotal (zR κ atStates (zR κ chAtlas a)) = zI κ hoTotal (zR κ atStates (zR κ chAtlas a)) := by
  have tA := ty_chAtlas W T
  obtain ⟨⟨⟨b1, b2, b3, b4⟩, b5, _, b8, b9⟩, c1, c2⟩ := B
  have S := ho_u9 (M := 1000) (D := 142) (S := 2048) Z W (ty_atStates W tA) ns
  have E := ho_u9 (M := 1000) (D := 35) (S := 2048) Z W (ty_atEndings W tA) ne
  have K := co_u9 Z W (ty_atCode W tA) nc
  have ex : zI τ atExplored (zR κ chAtlas a) = zI κ atExplored (zR κ chAtlas a) := Z.i (n3 _ (by decide) (by decide))
  have r : ∀ f, f / 100 = 3 → f ≠ atPlan → zR τ f (zR κ chAtlas a) = zR κ f (zR κ chAtlas a) := fun f h1 h2 => Z.r (n3 f h1 h2)
  refine ⟨?_, ex, r, S.2.2⟩
  unfold chB9 atI
  rw [hO chAtlas (by decide) (by decide) (by decide), hO chMachine (by decide) (by decide) (by decide), hO chCode (by decide) (by decide) (by decide), r atMachine (by decide) (by decide), r atWeb (by decide) (by decide), r atStates (by decide) (by decide), r atEndings (by decide) (by decide), r atCode (by decide) (by decide), ex, S.2.2]
  refine ⟨⟨⟨hA.1, hA.2, ⟨?_, ?_⟩, b4⟩, by rw [c1]; exact hm, hw, b8, hN⟩, c1, fun z => ⟨⟨(c2 z).1.1, by rw [Z.i (n3 atNexts (by decide) (by decide))]; exact (c2 z).1.2⟩, fun y => ?_⟩⟩
  · rw [r atStates (by decide) (by decide)]; exact S.1 b3.1
  · rw [r atEndings (by decide) (by decide)]; exact E.1 b3.2
  · intro i hi
    rw [r atCode (by decide) (by decide), K.2.1, K.2.2] at hi
    rw [r atEndings (by decide) (by decide), E.2.1]
    exact (c2 z).2 y i hi
/-- a call that touches atlas, machine, web, their hoards and the Solver's marks -/
theorem chI_e9 {C : zC} {n0 a : Nat} {L : Int} {ρ : Nat → Nat} {F : Nat → Nat → Prop} {κ τ : zS} (W : zW C n0 κ) (T : zT κ a = 15) (Z : zF F κ τ) (hF : ∀ f x, F f x → zT κ x = 3 ∨ zT κ x = 7 ∨ zT κ x = 14 ∨ (zT κ x = 6 ∧ x ≠ zR κ odGroups (zR κ chOdds a)) ∨ (x = zR κ chSolver a ∧ (f = soSolved ∨ f = soPlanned))) (hB : chB9 τ a) (hr : zR τ atStates (zR κ chAtlas a) = zR κ atStates (zR κ chAtlas a) ∧ zR τ atEndings (zR κ chAtlas a) = zR κ atEndings (zR κ chAtlas a) ∧ zR τ atWeb (zR κ chAtlas a) = zR κ atWeb (zR κ chAtlas a)) (hS9 : chS9 ρ τ a) (I : chI9 ρ κ a L) : chI9 ρ τ a L ∧ (∃ F, zF F κ τ) ∧ pC7 κ τ a := by
  obtain ⟨⟨A1, ⟨⟨A2, A3⟩, A4⟩, A5, A6⟩, B, ⟨C1, C2, C3, C4⟩, _, ⟨D1, D2, D3, ⟨D4, D5⟩, D6, D7⟩, E0, L0, K0⟩ := I
  have tS := ty_chSolver W T
  have tO := ty_chOdds W T
  have no : ∀ x K, zT κ x = K → K ≠ 3 ∧ K ≠ 7 ∧ K ≠ 14 ∧ K ≠ 6 ∧ K ≠ 12 → ∀ f, ¬ F f x := fun x K h1 h2 f z => by
    rcases hF f x z with y | y | y | y | y
    · exact h2.1 (h1.symm.trans y)
    · exact h2.2.1 (h1.symm.trans y)
    · exact h2.2.2.1 (h1.symm.trans y)
    · exact h2.2.2.2.1 (h1.symm.trans y.1)
    · rw [y.1, tS] at h1
      exact h2.2.2.2.2 h1.symm
  have nS : ∀ f, f ≠ soSolved → f ≠ soPlanned → ¬ F f (zR κ chSolver a) := fun f h1 h2 z => by
    rcases hF f _ z with y | y | y | y | y
    · rw [tS] at y; exact absurd y (by decide)
    · rw [tS] at y; exact absurd y (by decide)
    · rw [tS] at y; exact absurd y (by decide)
    · have y1 := y.1
      rw [tS] at y1; exact absurd y1 (by decide)
    · exact y.2.elim h1 h2
  have tG := ty_odGroups W tO
  have nG : ∀ f, ¬ F f (zR κ odGroups (zR κ chOdds a)) := fun f z => by
    rcases hF f _ z with y | y | y | y | y
    · rw [tG] at y; exact absurd y (by decide)
    · rw [tG] at y; exact absurd y (by decide)
    · rw [tG] at y; exact absurd y (by decide)
    · exact y.2 rfl
    · have y1 := y.1
      rw [y1, tS] at tG; exact absurd tG (by decide)
  have E := chE_u9 W T Z (fun f _ => no a 15 T (by decide) f) E0
  have o := E.2.1
  have hS := rs_h9 W tS C1 Z (fun f w y => no w 8 y (by decide) f) (fun f w y => no w 11 y (by decide) f) (fun f w y => no w 4 y (by decide) f) nS
  have P := pa_u9 Z W (ty_chParser W T) (fun f _ => no _ 10 (ty_chParser W T) (by decide) f) A5
  have K1 := co_u9 Z W (ty_chCode W T) (fun f _ => no _ 5 (ty_chCode W T) (by decide) f)
  have K2 := co_u9 Z W (ty_chSpare W T) (fun f _ => no _ 5 (ty_chSpare W T) (by decide) f)
  have G := odd_u9 Z W tO (fun f _ => no _ 9 tO (by decide) f)
  have H := ho_u9 (M := 3000) (D := 3) (S := 8192) Z W tG (fun f _ => nG f)
  have A := ta_u9 Z W (ty_chTape W T) (fun f _ => no _ 13 (ty_chTape W T) (by decide) f) A1
  have rS : ∀ f, f ≠ soSolved → f ≠ soPlanned → zR τ f (zR κ chSolver a) = zR κ f (zR κ chSolver a) := fun f h1 h2 => Z.r (nS f h1 h2)
  refine ⟨⟨⟨?_, ?_, ?_⟩, hB, ?_, hS9, ?_, E.1, ?_, ?_⟩, ⟨_, Z⟩, pC_v7 W T Z (fun f _ => no a 15 T (by decide) f) (fun f _ => no _ 13 (ty_chTape W T) (by decide) f) (fun f _ => no _ 5 (ty_chCode W T) (by decide) f)⟩
  · rw [o chTape (by decide)]; exact A.1
  · rw [o chCode (by decide), o chSpare (by decide)]
    exact ⟨⟨K1.1 A2, K2.1 A3⟩, A4⟩
  · rw [o chParser (by decide), o chTape (by decide)]
    exact ⟨P.1, P.2.trans A6⟩
  · unfold chC9
    rw [o chSolver (by decide), o chAtlas (by decide), o chShown (by decide), rS soTaken (by decide) (by decide), rS soAtlas (by decide) (by decide), rS soWeb (by decide) (by decide), Z.l (ty_soTaken W tS), hr.2.2]
    exact ⟨hS.1, C2, C3, C4⟩
  · unfold chD9
    rw [o chSolver (by decide), o chAtlas (by decide), o chOdds (by decide), G.2.2.2.2, G.2.2.1, G.2.2.2.1, G.1 odAtlas (by decide), G.1 odSolver (by decide), G.1 odCalc (by decide), G.1 odHeld (by decide), G.1 odGroups (by decide), rS soCalc (by decide) (by decide), hr.1, hr.2.1]
    exact ⟨D1, D2, ⟨G.2.1 D3.1, D3.2⟩, ⟨H.1 D4, D5⟩, D6, D7⟩
  · rw [o chTape (by decide), A.2]; exact L0
  · exact cK_z9 W T Z (o chSolver (by decide)) (o chOdds (by decide)) (fun b hb => no b 0 (zT_o9 W hb) (by decide) 0) (fun f hf => nS f (by rcases hf with y | y | y <;> rw [y] <;> decide) (by rcases hf with y | y | y <;> rw [y] <;> decide)) (Nat.le_of_eq (nE_z9 W tO Z (no _ 9 tO (by decide) _)).symm) K0
/-- the Solver's marks, perhaps the plan, are stored -/
def mkF9 (κ : zS) (a : Nat) : Nat → Nat → Prop := fun f x => (x = zR κ chSolver a ∧ (f = soSolved ∨ f = soPlanned)) ∨ (x = zR κ chAtlas a ∧ f = atPlan)
theorem chI_m9 {C : zC} {n0 a : Nat} {L : Int} {ρ : Nat → Nat} {κ τ : zS} (W : zW C n0 κ) (T : zT κ a = 15) (Z : zF (mkF9 κ a) κ τ) (R : zR τ = zR κ) (h0 : zI τ soSolved (zR κ chSolver a) = 0) (h1 : zI τ soPlanned (zR κ chSolver a) = 0 ∨ zI τ soPlanned (zR κ chSolver a) = zI κ soPlanned (zR κ chSolver a)) (I : chI9 ρ κ a L) : chI9 ρ τ a L ∧ (∃ F, zF F κ τ) ∧ pB8 κ τ a := by
  have tA := ty_chAtlas W T
  have tS := ty_chSolver W T
  have tm := ty_chMachine W T
  have no : ∀ x K, zT κ x = K → K ≠ 3 ∧ K ≠ 12 → ∀ f, ¬ mkF9 κ a f x := fun x K h1 h2 f z => by
    rcases z with z | z
    · rw [z.1, tS] at h1; exact h2.2 h1.symm
    · rw [z.1, tA] at h1; exact h2.1 h1.symm
  have n3 : ∀ f, f / 100 = 3 → f ≠ atPlan → ¬ mkF9 κ a f (zR κ chAtlas a) := fun f hf h2 z => by
    rcases z with z | z
    · rw [z.1, tS] at tA; exact absurd tA (by decide)
    · exact h2 z.2
  have g := at_u9 Z W tA n3 (by rw [R])
  have M := atM_u9 g
  have B := I.2.1
  have iS := (ho_u9 (M := 1000) (D := 142) (S := 2048) Z W (ty_atStates W tA) (fun f _ => no _ 6 (ty_atStates W tA) (by decide) f)).2.2
  have iE := (ho_u9 (M := 1000) (D := 142) (S := 2048) Z W (ty_atEndings W tA) (fun f _ => no _ 6 (ty_atEndings W tA) (by decide) f)).2.2
  have Wn : ∀ n, atW τ (zR κ chAtlas a) n ↔ atW κ (zR κ chAtlas a) n := fun n => atW_u9 g (Z.i (n3 _ (by decide) (by decide))) iS iE
  have V := we_u9 Z W (ty_atWeb W tA) (fun f _ => no _ 14 (ty_atWeb W tA) (by decide) f)
  have ma : maL κ (zR κ chMachine a) := by
    have y := B.1.2.1
    rw [B.2.1] at y
    exact y
  have hB := chB_w9 W T Z (fun f _ _ _ => by rw [R]) n3 (fun f _ => no _ 6 (ty_atStates W tA) (by decide) f) (fun f _ => no _ 6 (ty_atEndings W tA) (by decide) f) (fun f _ => no _ 5 (ty_atCode W tA) (by decide) f) (ma_u9 Z W tm (fun f _ => no _ 7 tm (by decide) f) ma) ⟨B.1.2.2.1.1.elim (fun z => Or.inl (V.2.1 z)) (fun z => Or.inr (V.1 z)), V.2.2 B.1.2.2.1.2⟩ ⟨B.1.1.1.elim (fun z => Or.inl (M.2.1 z)) (fun z => Or.inr (M.1 z)), M.2.2 B.1.1.2.1⟩ (fun z => by
    obtain ⟨n, hn⟩ := B.1.2.2.2.2 z
    exact ⟨n, (Wn n).mpr hn⟩) B
  refine pB_w8 (kB_z8 W T Z (no a 15 T (by decide) _) n3 (fun f _ => no _ 6 (ty_atStates W tA) (by decide) f) (fun f _ => no _ 6 (ty_atEndings W tA) (by decide) f)) (chI_e9 W T Z (fun f x z => ?_) hB.1 ⟨by rw [R], by rw [R], by rw [R]⟩ ?_ I)
  · rcases z with z | z
    · exact Or.inr (Or.inr (Or.inr (Or.inr z)))
    · left; rw [z.1]; exact tA
  · unfold chS9
    rw [R, hB.2.1]
    refine ⟨fun z => absurd h0 z, fun z => ?_⟩
    have z' : zI κ soPlanned (zR κ chSolver a) ≠ 0 := by
      rcases h1 with y | y
      · exact absurd y z
      · rw [y] at z; exact z
    obtain ⟨x1, x3⟩ := I.2.2.2.1.2 z'
    have nw : ¬ mkF9 κ a soWorths (zR κ chSolver a) := fun y => by
      rcases y with y | y
      · exact y.2.elim (fun q => absurd q (by decide)) (fun q => absurd q (by decide))
      · exact absurd y.2 (by decide)
    have q := (Z.row W (show zr soWorths = some 25 by decide +kernel) (by decide) (tS.trans (by decide)) nw).2.2
    rw [R] at q
    rw [q, Z.l (ty_soWorths W tS)]
    exact ⟨x1, fun n hn => x3 n ((Wn n).mp hn)⟩
theorem Ch_explore_c {C : zC} {n0 : Nat} {a0 : Nat} {a1 : Int32} {κ : zS} {Q : Int32 → zS → Prop} {X : zXp} (W : zW C n0 κ) (Ta0 : zT κ a0 = 15) (ρ : Nat → Nat) (L9 : Int) (hp : chI9 ρ κ a0 L9) (h : ∀ (v : Int32) (κ' : zS), (chI9 ρ κ' a0 L9 ∧ (∃ F, zF F κ κ') ∧ pC7 κ κ' a0) → Q v κ') (hx : ∀ (cls : String) (κ' : zS), ((cls = "java/lang/IllegalArgumentException" ∨ cls = "java/lang/IllegalStateException") ∧ κ' = ut κ) → X cls κ') : zRun C 8 mCh_explore [.ref a0, .int a1] κ (oI Q X) := by
  refine Ch_explore_run W Ta0 ?_
  replace W := W.lo (Nat.le_trans W.1.2.1 W.1.2.2) (Nat.le_refl (zn κ))
  unfold w_Ch_explore_0
  refine ⟨fun c1 => ?_, fun c1 => ?_⟩
  · skip
    refine ⟨fun c2 => ?_, fun c2 => ?_⟩
    · skip
      intro κ_3 hκ_3
      refine hx _ _ ?_
      · exact ⟨Or.inl rfl, hκ_3⟩  -- x1
    · skip
      refine ⟨fun c4 => ?_, fun c4 => ?_⟩
      · skip
        intro κ_5 hκ_5
        intro W6
        intro κ_7 hκ_7
        intro W8
        intro T9
        intro T10
        refine At_discover_c2 W8 T9 T10  ?_ (fun r11 κ_12 q13 => ?_)
        · have R5 : zR κ_5 = zR κ := by rw [hκ_5]; rfl
          have Z5 : zF (mkF9 κ a0) κ κ_5 := by rw [hκ_5]; exact zF_ui (Or.inl ⟨rfl, Or.inl rfl⟩)
          rw [R5] at hκ_7
          have Z7 : zF (mkF9 κ a0) κ κ_7 := Z5.tr (by rw [hκ_7]; exact zF_ui (Or.inl ⟨rfl, Or.inr rfl⟩))
          have R7 : zR κ_7 = zR κ := by rw [hκ_7]; exact R5
          have s5 : zI κ_5 soSolved (zR κ chSolver a0) = 0 := by rw [hκ_5]; exact if_pos ⟨rfl, rfl⟩
          have s7 : zI κ_7 soSolved (zR κ chSolver a0) = 0 := by
            rw [hκ_7]
            exact s5
          have p7 : zI κ_7 soPlanned (zR κ chSolver a0) = 0 := by rw [hκ_7]; exact if_pos ⟨rfl, rfl⟩
          have I7 := chI_m9 W Ta0 Z7 R7 s7 (Or.inl p7) hp
          have T7 := Z7.t Ta0 (by decide)
          rw [lti] at c2
          rw [lei] at c4
          have e1 : (1 : Int32).toInt = 1 := rfl
          have e1000 : (1000 : Int32).toInt = 1000 := rfl
          exact ⟨I7.1.2.1.1, I7.1.1.2.1.1.1, by omega, by omega⟩
        intro W14
        intro M15
        refine h _ _ ?_
        · have R5 : zR κ_5 = zR κ := by rw [hκ_5]; rfl
          have Z5 : zF (mkF9 κ a0) κ κ_5 := by rw [hκ_5]; exact zF_ui (Or.inl ⟨rfl, Or.inl rfl⟩)
          rw [R5] at hκ_7
          have Z7 : zF (mkF9 κ a0) κ κ_7 := Z5.tr (by rw [hκ_7]; exact zF_ui (Or.inl ⟨rfl, Or.inr rfl⟩))
          have R7 : zR κ_7 = zR κ := by rw [hκ_7]; exact R5
          have s5 : zI κ_5 soSolved (zR κ chSolver a0) = 0 := by rw [hκ_5]; exact if_pos ⟨rfl, rfl⟩
          have s7 : zI κ_7 soSolved (zR κ chSolver a0) = 0 := by
            rw [hκ_7]
            exact s5
          have p7 : zI κ_7 soPlanned (zR κ chSolver a0) = 0 := by rw [hκ_7]; exact if_pos ⟨rfl, rfl⟩
          have I7 := chI_m9 W Ta0 Z7 R7 s7 (Or.inl p7) hp
          have T7 := Z7.t Ta0 (by decide)
          have tA7 := ty_chAtlas W8 T7
          have tS7 := ty_chSolver W8 T7
          have Ds := I7.1.2.2.2.2.1.2.2.2.2.2
          have na : ∀ f, ¬ dsF κ_7 (zR κ_7 chAtlas a0) f a0 := fun f z => by
            have y1 := ty_atMachine W8 tA7
            have y2 := ty_atStates W8 tA7
            have y3 := ty_atEndings W8 tA7
            have y4 := ty_atWeb W8 tA7
            rcases z with (z | z | z | z) | z
            · have z1 := z.1
              rw [← z1, T7] at tA7; exact absurd tA7 (by decide)
            · rw [← z, T7] at y1; exact absurd y1 (by decide)
            · rw [← z, T7] at y2; exact absurd y2 (by decide)
            · rw [← z, T7] at y3; exact absurd y3 (by decide)
            · rw [← z, T7] at y4; exact absurd y4 (by decide)
          have nr : ∀ f, f < 304 → zR κ_12 f (zR κ_7 chAtlas a0) = zR κ_7 f (zR κ_7 chAtlas a0) := fun f hf => q13.1.r (fun z => by
            have y1 := ty_atMachine W8 tA7
            have y2 := ty_atStates W8 tA7
            have y3 := ty_atEndings W8 tA7
            have y4 := ty_atWeb W8 tA7
            rcases z with (z | z | z | z) | z
            · omega
            · rw [← z, tA7] at y1; exact absurd y1 (by decide)
            · rw [← z, tA7] at y2; exact absurd y2 (by decide)
            · rw [← z, tA7] at y3; exact absurd y3 (by decide)
            · rw [← z, tA7] at y4; exact absurd y4 (by decide))
          have ns : ∀ f, ¬ dsF κ_7 (zR κ_7 chAtlas a0) f (zR κ_7 chSolver a0) := fun f z => by
            have y1 := ty_atMachine W8 tA7
            have y2 := ty_atStates W8 tA7
            have y3 := ty_atEndings W8 tA7
            have y4 := ty_atWeb W8 tA7
            rcases z with (z | z | z | z) | z
            · have z1 := z.1
              rw [← z1, tS7] at tA7; exact absurd tA7 (by decide)
            · rw [← z, tS7] at y1; exact absurd y1 (by decide)
            · rw [← z, tS7] at y2; exact absurd y2 (by decide)
            · rw [← z, tS7] at y3; exact absurd y3 (by decide)
            · rw [← z, tS7] at y4; exact absurd y4 (by decide)
          have R := chI_e9 (ρ := ρ) (L := L9) W8 T7 q13.1 (fun f x z => by
            rcases z with (z | z | z | z) | z
            · left; rw [z.1]; exact tA7
            · right; left; rw [z]; exact ty_atMachine W8 tA7
            · right; right; right; left; rw [z]; exact ⟨ty_atStates W8 tA7, Ds.1⟩
            · right; right; right; left; rw [z]; exact ⟨ty_atEndings W8 tA7, Ds.2⟩
            · right; right; left; rw [z]; exact ty_atWeb W8 tA7) (by
            unfold chB9
            rw [q13.1.r (na chAtlas), q13.1.r (na chMachine), q13.1.r (na chCode), nr atMachine (by decide)]
            exact ⟨q13.2.1, I7.1.2.1.2.1, fun z => ⟨⟨q13.2.2.1, (q13.2.2.2 z).1⟩, (q13.2.2.2 z).2⟩⟩) ⟨nr _ (by decide), nr _ (by decide), nr _ (by decide)⟩ (by
            unfold chS9
            rw [q13.1.r (na chSolver), q13.1.i (ns soSolved), q13.1.i (ns soPlanned), R7, s7, p7]
            exact ⟨fun z => absurd rfl z, fun z => absurd rfl z⟩) I7.1
          obtain ⟨F5, G5⟩ := R.2.1
          exact ⟨R.1, ⟨fun _ _ => True, (Z7.mono (fun _ _ _ => trivial)).tr (G5.mono (fun _ _ _ => trivial))⟩, pC_t7 I7.2.2.1 R.2.2⟩
      · skip
        intro κ_16 hκ_16
        refine hx _ _ ?_
        · exact ⟨Or.inl rfl, hκ_16⟩  -- x4
  · skip
    intro κ_17 hκ_17
    refine hx _ _ ?_
    · exact ⟨Or.inr rfl, hκ_17⟩  -- x5

theorem Ch_decide_c {C : zC} {n0 : Nat} {a0 : Nat} {a1 : Int32} {a2 : Int32} {κ : zS} {Q : Int32 → zS → Prop} {X : zXp} (W : zW C n0 κ) (Ta0 : zT κ a0 = 15) (ρ : Nat → Nat) (L9 : Int) (hp : chI9 ρ κ a0 L9) (h : ∀ (v : Int32) (κ' : zS), (chI9 ρ κ' a0 L9 ∧ (∃ F, zF F κ κ') ∧ pB8 κ κ' a0) → Q v κ') (hx : ∀ (cls : String) (κ' : zS), (cls = "java/lang/IndexOutOfBoundsException" ∧ κ' = ut κ) → X cls κ') : zRun C 8 mCh_decide [.ref a0, .int a1, .int a2] κ (oI Q X) := by
  refine Ch_decide_run W Ta0 ?_
  replace W := W.lo (Nat.le_trans W.1.2.1 W.1.2.2) (Nat.le_refl (zn κ))
  unfold w_Ch_decide_0
  intro T1
  refine At_holds_c W T1  (fun r2 q4 => ?_)
  intro W5
  intro M6
  refine ⟨fun c7 => ?_, fun c7 => ?_⟩
  · skip
    intro κ_8 hκ_8
    refine hx _ _ ?_
    · exact ⟨rfl, hκ_8⟩  -- x1
  · skip
    refine ⟨?_, ?_⟩
    · have H := ch_h9 hp q4 c7
      rw [inb_iff, H.2.1.2.2.2.2.1]
      have y := H.2.2.1
      omega
    refine ⟨fun c9 => ?_, fun c9 => ?_⟩
    · skip
      intro κ_10 hκ_10
      refine hx _ _ ?_
      · exact ⟨rfl, hκ_10⟩  -- x3
    · skip
      refine ⟨fun c11 => ?_, fun c11 => ?_⟩
      · skip
        intro κ_12 hκ_12
        refine hx _ _ ?_
        · exact ⟨rfl, hκ_12⟩  -- x4
      · skip
        intro T13
        refine At_waysOf_c W5 T13  ?_ (fun r14 q16 => ?_)
        · have H := ch_h9 hp q4 c7
          exact ⟨H.2.1.1, H.2.2.1⟩
        intro W17
        intro M18
        refine ⟨fun c19 => ?_, fun c19 => ?_⟩
        · skip
          refine ⟨?_, ?_⟩
          · have H := ch_h9 hp q4 c7
            rw [inb_iff, H.2.1.2.2.2.1]
            have y := H.2.2.1
            omega
          intro x20 hx20
          refine ⟨?_, ?_⟩
          · have H := ch_h9 hp q4 c7
            rw [inb_iff, H.2.1.2.2.2.1]
            have y := H.2.2.1
            omega
          intro κ_21 hκ_21
          intro W22
          intro κ_23 hκ_23
          intro W24
          refine h _ _ ?_
          · have o := W.o (show zr atPlan = some 20 by decide +kernel) (by decide) ((ty_chAtlas W Ta0).trans (by decide))
            have R1 : zR κ_21 = zR κ := by rw [hκ_21]; rfl
            have Z1 : zF (mkF9 κ a0) κ κ_21 := by rw [hκ_21]; exact zF_ua (by rw [o]; exact Or.inr ⟨rfl, rfl⟩)
            rw [R1] at hκ_23
            have Z3 : zF (mkF9 κ a0) κ κ_23 := Z1.tr (by rw [hκ_23]; exact zF_ui (Or.inl ⟨rfl, Or.inl rfl⟩))
            have R3 : zR κ_23 = zR κ := by rw [hκ_23]; exact R1
            refine chI_m9 W Ta0 Z3 R3 (by rw [hκ_23]; exact if_pos ⟨rfl, rfl⟩) (Or.inr ?_) hp
            rw [hκ_23, hκ_21]
            rfl
        · skip
          intro κ_25 hκ_25
          refine hx _ _ ?_
          · exact ⟨rfl, hκ_25⟩  -- x9

end
section
set_option maxHeartbeats 1600000
/-! the class: explore by what it answers -/
theorem Ch_explore_c7 {C : zC} {n0 : Nat} {a0 : Nat} {a1 : Int32} {κ : zS} {Q : Int32 → zS → Prop} {X : zXp} (W : zW C n0 κ) (Ta0 : zT κ a0 = 15) (ρ : Nat → Nat) (L9 : Int) (σ9 : rS) (hr8 : RC8 κ a0 σ9) (hp : chI9 ρ κ a0 L9) (h : ∀ (v : Int32) (κ' : zS), (chI9 ρ κ' a0 L9 ∧ (∃ F, zF F κ κ') ∧ pC7 κ κ' a0 ∧ (zI κ chReady a0 ≠ 0 ∧ 1 ≤ a1 ∧ a1 ≤ 1000) ∧ ∃ σc r, gxE a1 σ9 = (σc, r) ∧ ((r = 0 ∧ v = -1 ∧ zI κ' atExplored (zR κ' chAtlas a0) = 0) ∨ (r = 1 ∧ v = σc.1 70 ∧ zI κ' atExplored (zR κ' chAtlas a0) ≠ 0 ∧ ∃ nv s w, CR7 nv s w (cu7 κ (zR κ chCode a0)) σ9 ∧ AT8 w s (av8 κ' (zR κ' chAtlas a0)) σc ∧ hC8 ((av8 κ' (zR κ' chAtlas a0)).2 11) σc ∧ rC8 ((av8 κ' (zR κ' chAtlas a0)).1 3) ((av8 κ' (zR κ' chAtlas a0)).1 4) σc ∧ pz8 κ' (zR κ' chAtlas a0)))) → Q v κ') (hx : ∀ (cls : String) (κ' : zS), (((cls = "java/lang/IllegalArgumentException" ∧ zI κ chReady a0 ≠ 0 ∧ ¬ (1 ≤ a1 ∧ a1 ≤ 1000)) ∨ (cls = "java/lang/IllegalStateException" ∧ zI κ chReady a0 = 0)) ∧ κ' = ut κ) → X cls κ') : zRun C 8 mCh_explore [.ref a0, .int a1] κ (oI Q X) := by
  refine Ch_explore_run W Ta0 ?_
  replace W := W.lo (Nat.le_trans W.1.2.1 W.1.2.2) (Nat.le_refl (zn κ))
  unfold w_Ch_explore_0
  refine ⟨fun c1 => ?_, fun c1 => ?_⟩
  · skip
    refine ⟨fun c2 => ?_, fun c2 => ?_⟩
    · skip
      intro κ_3 hκ_3
      refine hx _ _ ?_
      · exact ⟨Or.inl ⟨rfl, c1, fun z => absurd z.1 (fun y => by rw [lei] at y; rw [lti] at c2; omega)⟩, hκ_3⟩  -- x1
    · skip
      refine ⟨fun c4 => ?_, fun c4 => ?_⟩
      · skip
        intro κ_5 hκ_5
        intro W6
        intro κ_7 hκ_7
        intro W8
        intro T9
        intro T10
        have R5 : zR κ_5 = zR κ := by rw [hκ_5]; rfl
        have Z5 : zF (mkF9 κ a0) κ κ_5 := by rw [hκ_5]; exact zF_ui (Or.inl ⟨rfl, Or.inl rfl⟩)
        have hk7 := hκ_7
        rw [R5] at hk7
        have Z7 : zF (mkF9 κ a0) κ κ_7 := Z5.tr (by rw [hk7]; exact zF_ui (Or.inl ⟨rfl, Or.inr rfl⟩))
        have R7 : zR κ_7 = zR κ := by rw [hk7]; exact R5
        have s5 : zI κ_5 soSolved (zR κ chSolver a0) = 0 := by rw [hκ_5]; exact if_pos ⟨rfl, rfl⟩
        have s7 : zI κ_7 soSolved (zR κ chSolver a0) = 0 := by
          rw [hk7]
          exact s5
        have p7 : zI κ_7 soPlanned (zR κ chSolver a0) = 0 := by rw [hk7]; exact if_pos ⟨rfl, rfl⟩
        have I7 := chI_m9 W Ta0 Z7 R7 s7 (Or.inl p7) hp
        obtain ⟨u9, s9, w9, cr9⟩ := hr8.1.2.2 (fun z => absurd (hr8.1.2.1.mp z) c1)
        have hR9 : CR6 u9 s9 w9 (am6 (ur κ_7 maCode (zR κ_7 atMachine (zR κ_7 chAtlas a0)) (zR κ_7 chCode a0)) (zR κ_7 atMachine (zR κ_7 chAtlas a0))) σ9 := by
          have ma := I7.1.2.1.1.2.1
          have ro : ∀ f b, f ≠ maCode → zR (ur κ_7 maCode (zR κ_7 atMachine (zR κ_7 chAtlas a0)) (zR κ_7 chCode a0)) f b = zR κ_7 f b := fun f b q => if_neg (fun y => q y.1)
          have ee := I7.2.2.1.2.2
          refine CR_76 cr9 (fun g hg => ?_) (fun g hg => ?_) ⟨?_, ?_, ?_⟩
          · rw [← ee]; exact cu_a7.1 g hg
          · rw [← ee]; exact cu_a7.2 g hg
          · rw [(am_rw6 (f := 705) (by decide)).2, ro _ _ (by decide)]; exact ma.2.1
          · rw [(am_rw6 (f := 707) (by decide)).2, ro _ _ (by decide)]; exact ma.2.2.1
          · rw [(am_rw6 (f := 701) (by decide)).2, ro _ _ (by decide)]; exact ma.1
        have b1 : 1 ≤ a1.toInt := by
          have c2' := c2
          rw [lti, show (1 : Int32).toInt = 1 from rfl] at c2'
          omega
        have b2 : a1.toInt ≤ 1000 := by
          have c4' := c4
          rw [lei, show (1000 : Int32).toInt = 1000 from rfl] at c4'
          omega
        have hl9 : a1 = Int32.ofNat a1.toInt.toNat := Int32.toInt_inj.mp (by rw [ofn_i (by omega)]; omega)
        refine At_discover_q6 W8 T9 T10 u9 s9 w9 a1.toInt.toNat σ9 hR9 hl9 (by omega) ?_ (fun r11 κ_12 q13z => ?_)
        · exact ⟨I7.1.2.1.1, I7.1.1.2.1.1.1, b1, b2⟩
        obtain ⟨q13, qz⟩ := q13z
        intro W14
        intro M15
        refine h _ _ ?_
        · have T7 := Z7.t Ta0 (by decide)
          have tA7 := ty_chAtlas W8 T7
          have tS7 := ty_chSolver W8 T7
          have Ds := I7.1.2.2.2.2.1.2.2.2.2.2
          have na : ∀ f, ¬ dsF κ_7 (zR κ_7 chAtlas a0) f a0 := fun f z => by
            have y1 := ty_atMachine W8 tA7
            have y2 := ty_atStates W8 tA7
            have y3 := ty_atEndings W8 tA7
            have y4 := ty_atWeb W8 tA7
            rcases z with (z | z | z | z) | z
            · have z1 := z.1
              rw [← z1, T7] at tA7; exact absurd tA7 (by decide)
            · rw [← z, T7] at y1; exact absurd y1 (by decide)
            · rw [← z, T7] at y2; exact absurd y2 (by decide)
            · rw [← z, T7] at y3; exact absurd y3 (by decide)
            · rw [← z, T7] at y4; exact absurd y4 (by decide)
          have nr : ∀ f, f < 304 → zR κ_12 f (zR κ_7 chAtlas a0) = zR κ_7 f (zR κ_7 chAtlas a0) := fun f hf => q13.1.r (fun z => by
            have y1 := ty_atMachine W8 tA7
            have y2 := ty_atStates W8 tA7
            have y3 := ty_atEndings W8 tA7
            have y4 := ty_atWeb W8 tA7
            rcases z with (z | z | z | z) | z
            · omega
            · rw [← z, tA7] at y1; exact absurd y1 (by decide)
            · rw [← z, tA7] at y2; exact absurd y2 (by decide)
            · rw [← z, tA7] at y3; exact absurd y3 (by decide)
            · rw [← z, tA7] at y4; exact absurd y4 (by decide))
          have ns : ∀ f, ¬ dsF κ_7 (zR κ_7 chAtlas a0) f (zR κ_7 chSolver a0) := fun f z => by
            have y1 := ty_atMachine W8 tA7
            have y2 := ty_atStates W8 tA7
            have y3 := ty_atEndings W8 tA7
            have y4 := ty_atWeb W8 tA7
            rcases z with (z | z | z | z) | z
            · have z1 := z.1
              rw [← z1, tS7] at tA7; exact absurd tA7 (by decide)
            · rw [← z, tS7] at y1; exact absurd y1 (by decide)
            · rw [← z, tS7] at y2; exact absurd y2 (by decide)
            · rw [← z, tS7] at y3; exact absurd y3 (by decide)
            · rw [← z, tS7] at y4; exact absurd y4 (by decide)
          have R := chI_e9 (ρ := ρ) (L := L9) W8 T7 q13.1 (fun f x z => by
            rcases z with (z | z | z | z) | z
            · left; rw [z.1]; exact tA7
            · right; left; rw [z]; exact ty_atMachine W8 tA7
            · right; right; right; left; rw [z]; exact ⟨ty_atStates W8 tA7, Ds.1⟩
            · right; right; right; left; rw [z]; exact ⟨ty_atEndings W8 tA7, Ds.2⟩
            · right; right; left; rw [z]; exact ty_atWeb W8 tA7) (by
            unfold chB9
            rw [q13.1.r (na chAtlas), q13.1.r (na chMachine), q13.1.r (na chCode), nr atMachine (by decide)]
            exact ⟨q13.2.1, I7.1.2.1.2.1, fun z => ⟨⟨q13.2.2.1, (q13.2.2.2 z).1⟩, (q13.2.2.2 z).2⟩⟩) ⟨nr _ (by decide), nr _ (by decide), nr _ (by decide)⟩ (by
            unfold chS9
            rw [q13.1.r (na chSolver), q13.1.i (ns soSolved), q13.1.i (ns soPlanned), R7, s7, p7]
            exact ⟨fun z => absurd rfl z, fun z => absurd rfl z⟩) I7.1
          obtain ⟨F5, G5⟩ := R.2.1
          exact ⟨R.1, ⟨fun _ _ => True, (Z7.mono (fun _ _ _ => trivial)).tr (G5.mono (fun _ _ _ => trivial))⟩, pC_t7 I7.2.2.1 R.2.2, ⟨c1, by rw [lei]; exact b1, c4⟩, by
            obtain ⟨σc, r, g1, g2⟩ := qz
            have w34 : w9 ≤ 34 := by
              obtain ⟨_, _, _, _, _, _, _, _, _, _, _, ⟨_, y, _⟩, _⟩ := id cr9
              exact y
            refine ⟨σc, r, g1, ?_⟩
            rw [q13.1.r (na chAtlas)]
            exact g2.elim Or.inl (fun y => Or.inr ⟨y.1, y.2.1, y.2.2.1, u9, s9, w9, cr9, AT_d8 y.2.2.2.1 w34, y.2.2.2.2⟩)⟩
      · skip
        intro κ_16 hκ_16
        refine hx _ _ ?_
        · exact ⟨Or.inl ⟨rfl, c1, fun z => c4 z.2⟩, hκ_16⟩  -- x4
  · skip
    intro κ_17 hκ_17
    refine hx _ _ ?_
    · exact ⟨Or.inr ⟨rfl, by first | exact c1 | (exact Classical.not_not.mp c1)⟩, hκ_17⟩  -- x5
/-- explore, of both sides: what holds behind it -/
def XC8 (κ : zS) (a : Nat) (σ : rS) (p : Int32) (κ' : zS) : Prop := (pC8 κ κ' a ∧ ¬ (zI κ chReady a ≠ 0 ∧ 1 ≤ p ∧ p ≤ 1000)) ∨ (pC7 κ κ' a ∧ (zI κ chReady a ≠ 0 ∧ 1 ≤ p ∧ p ≤ 1000) ∧ ∃ σc r, gxE p σ = (σc, r) ∧ ((r = 0 ∧ zI κ' atExplored (zR κ' chAtlas a) = 0) ∨ (r = 1 ∧ zI κ' atExplored (zR κ' chAtlas a) ≠ 0 ∧ ∃ nv s w, CR7 nv s w (cu7 κ (zR κ chCode a)) σ ∧ AT8 w s (av8 κ' (zR κ' chAtlas a)) σc ∧ hC8 ((av8 κ' (zR κ' chAtlas a)).2 11) σc ∧ rC8 ((av8 κ' (zR κ' chAtlas a)).1 3) ((av8 κ' (zR κ' chAtlas a)).1 4) σc ∧ pz8 κ' (zR κ' chAtlas a))))
theorem rx_8 {κ κ' : zS} {a : Nat} {σ σ' : rS} {p v : Int32} (ht : RC8 κ a σ) (k : pR7 σ σ') (X : XS15 p σ σ' v) (h : XC8 κ a σ p κ') : RC8 κ' a σ' := by
  have i14 := ht.1.2.1
  obtain ⟨X, xu⟩ := X
  rcases h with ⟨c, n⟩ | ⟨c, y, σc, r, g1, g2⟩
  · have cd : cd9x σ p ≠ 0 := by
      unfold cd9x
      by_cases z : σ.1 14 = 0
      · rw [if_pos z]; decide
      · rw [if_neg z, if_neg (fun q => n ⟨fun e => z (i14.mpr e), q⟩)]; decide
    rcases X.1.2 with ⟨_, _, f1, f2⟩ | ⟨z, _⟩
    · exact re_8 ⟨k, fun g hg => f1 g ((by decide : ∀ g, g ∈ ke8 → g ≠ 0) g hg), fun g _ => by rw [f2]⟩ ht c
    · exact absurd z cd
  · have cd : cd9x σ p = 0 := by
      unfold cd9x
      rw [if_neg (fun z => y.1 (i14.mp z)), if_pos y.2]
    obtain ⟨⟨x1, x2⟩, xz⟩ := X
    rw [cd] at x2
    refine ⟨re_7 k ht.1 c, ?_⟩
    rcases x2 with x2 | ⟨_, σd, s, d1, d2⟩
    · exact absurd rfl x2.1
    have e := g1.symm.trans d1
    have e1 : σc = σd := congrArg Prod.fst e
    have e2 : r = s := congrArg Prod.snd e
    rcases g2 with ⟨r0, x0⟩ | ⟨r1, x1', nv, s9, w, cr, at8, hc8, rc8, pz⟩
    · rcases d2 with ⟨_, _, z69, zno⟩ | ⟨s0, _⟩
      · exact ⟨⟨fun _ => x0, fun _ => z69⟩, fun z => absurd z69 z, fun _ => zno⟩
      · exact absurd (e2.symm.trans r0) s0
    · rcases d2 with ⟨s0, _⟩ | ⟨_, _, z69, ag, hl, rg⟩
      · exact absurd (r1.symm.trans (e2.trans s0)) (by decide)
      · refine ⟨⟨fun z => absurd z z69, fun z => absurd z x1'⟩, fun _ => ⟨⟨nv, s9, w, ?_, ?_⟩, by rw [e1] at hc8 rc8; exact ⟨HQ_x8 hc8 hl (ag.1 70 (by decide)), RQ_x8 rc8 rg, (xz (x1.trans cd) z69).1, fun j hj => (pz j (Nat.lt_of_lt_of_le hj (n7_q8 (xz (x1.trans cd) z69).1.1))).trans ((xz (x1.trans cd) z69).2 j hj).symm, xu (x1.trans cd) z69⟩⟩, fun z => absurd z z69⟩
        · rw [c.2.2]
          exact CR_k7 cr k.2
        · rw [e1] at at8
          exact AT_k8 at8 (fun g q => ag.1 g (by omega)) (fun g q => ag.2 g (Or.inr ((by decide : ∀ g, g ∈ kt8 → 73 ≤ g ∧ g ≤ 82) g q)))

end
section
set_option maxHeartbeats 1600000
/-! the class: ChanceWorks' solve, best -/
/-- a call that works with numbers of all roles, and may make some -/
theorem chI_b9 {C : zC} {n0 a : Nat} {L : Int} {ρ ρ' : Nat → Nat} {F : Nat → Nat → Prop} {κ τ : zS} (W : zW C n0 κ) (T : zT κ a = 15) (Z : zF F κ τ) (hu : ∀ x K, zT κ x = K → (K = 13 ∨ K = 5 ∨ K = 10 ∨ K = 7 ∨ K = 6 ∨ K = 15) → un9 F x K) (h3 : ∀ f, f / 100 = 3 → f ≠ atPlan → ¬ F f (zR κ chAtlas a)) (hB : chB9 τ a) (hr : zR τ atStates (zR κ chAtlas a) = zR κ atStates (zR κ chAtlas a) ∧ zR τ atEndings (zR κ chAtlas a) = zR κ atEndings (zR κ chAtlas a) ∧ zR τ atWeb (zR κ chAtlas a) = zR κ atWeb (zR κ chAtlas a)) (hρ : ∀ b, b < zn κ → ρ' b = ρ b) (hC : soR9 ρ' τ (zR κ chSolver a) ∧ ((zN τ (zR τ soTaken (zR κ chSolver a))) = 0 ∨ (zN τ (zR τ soTaken (zR κ chSolver a))) = 1000) ∧ (zR τ soAtlas (zR κ chSolver a) = zR κ soAtlas (zR κ chSolver a) ∧ zR τ soWeb (zR κ chSolver a) = zR κ soWeb (zR κ chSolver a) ∧ zR τ soCalc (zR κ chSolver a) = zR κ soCalc (zR κ chSolver a))) (hS9 : chS9 ρ' τ a) (hD : (∀ f, f / 100 = 9 → zR τ f (zR κ chOdds a) = zR κ f (zR κ chOdds a)) ∧ ((odU9 τ (zR κ chOdds a) ∨ tbL9 τ (zR κ chOdds a)) ∧ (zN τ (zR τ odLinks (zR κ chOdds a))) ≤ 20000 ∧ (zN τ (zR τ odKey (zR κ chOdds a))) = 3) ∧ (∀ j u, j < 31 → zQ τ (zR κ odEdges (zR κ chOdds a)) j = some u → ρ' u = 2000000 + j)) (hK : cK9 τ a) (I : chI9 ρ κ a L) : chI9 ρ' τ a L ∧ (∃ F, zF F κ τ) ∧ pB8 κ τ a := by
  obtain ⟨⟨A1, ⟨⟨A2, A3⟩, A4⟩, A5, A6⟩, B, ⟨C1, C2, C3, C4⟩, _, ⟨D1, D2, D3, ⟨D4, D5⟩, D6, D7⟩, E0, L0, _⟩ := I
  have tO := ty_chOdds W T
  have tG := ty_odGroups W tO
  have lt : ∀ x, zT κ x ≠ 0 → x < zn κ := fun x h => (W.2.1 x h).2
  have E := chE_u9 W T Z (hu a 15 T (by decide)) E0
  have o := E.2.1
  have P := pa_u9 Z W (ty_chParser W T) (hu _ 10 (ty_chParser W T) (by decide)) A5
  have K1 := co_u9 Z W (ty_chCode W T) (hu _ 5 (ty_chCode W T) (by decide))
  have K2 := co_u9 Z W (ty_chSpare W T) (hu _ 5 (ty_chSpare W T) (by decide))
  have H := ho_u9 (M := 3000) (D := 3) (S := 8192) Z W tG (hu _ 6 tG (by decide))
  have A := ta_u9 Z W (ty_chTape W T) (hu _ 13 (ty_chTape W T) (by decide)) A1
  have G := hD.1
  refine ⟨⟨⟨?_, ?_, ?_⟩, hB, ?_, hS9, ?_, E.1, ?_, hK⟩, ⟨_, Z⟩, ⟨pC_v7 W T Z (hu a 15 T (by decide)) (hu _ 13 (ty_chTape W T) (by decide)) (hu _ 5 (ty_chCode W T) (by decide)), kB_z8 W T Z (hu a 15 T (by decide) _ (by decide)) h3 (hu _ 6 (ty_atStates W (ty_chAtlas W T)) (by decide)) (hu _ 6 (ty_atEndings W (ty_chAtlas W T)) (by decide))⟩⟩
  · rw [o chTape (by decide)]; exact A.1
  · rw [o chCode (by decide), o chSpare (by decide)]
    exact ⟨⟨K1.1 A2, K2.1 A3⟩, A4⟩
  · rw [o chParser (by decide), o chTape (by decide)]
    exact ⟨P.1, P.2.trans A6⟩
  · unfold chC9
    rw [o chSolver (by decide), o chAtlas (by decide), o chShown (by decide), hr.2.2, hC.2.2.1, hC.2.2.2.1]
    refine ⟨hC.1, hC.2.1, C3, ?_⟩
    rw [hρ _ (lt _ (by rw [ty_chShown W T]; decide))]
    exact C4
  · unfold chD9
    rw [o chSolver (by decide), o chAtlas (by decide), o chOdds (by decide), G odAtlas (by decide), G odSolver (by decide), G odCalc (by decide), G odHeld (by decide), G odGroups (by decide), G odEdges (by decide), hC.2.2.2.2, hr.1, hr.2.1]
    refine ⟨D1, ?_, ⟨hD.2.1.1, hD.2.1.2.1⟩, ⟨H.1 D4, hD.2.1.2.2⟩, hD.2.2, D7⟩
    rw [hρ _ (lt _ (by rw [ty_odHeld W tO]; decide))]
    exact D2
  · rw [o chTape (by decide), A.2]; exact L0
/-- odds that are not touched, with roles that grew -/
theorem odd_r9 {C : zC} {n0 a : Nat} {L : Int} {ρ ρ' : Nat → Nat} {F : Nat → Nat → Prop} {κ τ : zS} (W : zW C n0 κ) (T : zT κ a = 15) (Z : zF F κ τ) (n : un9 F (zR κ chOdds a) 9) (hρ : ∀ b, b < zn κ → ρ' b = ρ b) (I : chI9 ρ κ a L) : (∀ f, f / 100 = 9 → zR τ f (zR κ chOdds a) = zR κ f (zR κ chOdds a)) ∧ ((odU9 τ (zR κ chOdds a) ∨ tbL9 τ (zR κ chOdds a)) ∧ (zN τ (zR τ odLinks (zR κ chOdds a))) ≤ 20000 ∧ (zN τ (zR τ odKey (zR κ chOdds a))) = 3) ∧ (∀ j u, j < 31 → zQ τ (zR κ odEdges (zR κ chOdds a)) j = some u → ρ' u = 2000000 + j) := by
  have tO := ty_chOdds W T
  obtain ⟨D1, D2, D3, ⟨D4, D5⟩, D6, D7⟩ := I.2.2.2.2.1
  have G := odd_u9 Z W tO n
  have g := G.2.2.2.2
  rw [G.1 odEdges (by decide)] at g
  refine ⟨G.1, ⟨G.2.1 D3.1, by rw [G.2.2.1]; exact D3.2, by rw [G.2.2.2.1]; exact D5⟩, fun j u hj hu => ?_⟩
  rw [g] at hu
  have tu := W.2.2.2.1 _ _ _ (ty_odEdges W tO) hu
  rw [hρ u (W.2.1 u (by rw [tu]; decide)).2]
  exact D6 j u hj hu
theorem zt_09 {C : zC} {n0 x : Nat} {κ : zS} (W : zW C n0 κ) (h : x = 0 ∨ zn κ ≤ x) : zT κ x = 0 := by
  by_cases z : zT κ x = 0
  · exact z
  · have y := W.2.1 x z
    have p := W.1.1.1
    omega
theorem fv_un9 {C : zC} {n0 s x K : Nat} {ρ : Nat → Nat} {κ : zS} (W : zW C n0 κ) (Ts : zT κ s = 12) (T : zT κ x = K) (hK : (K ≠ 8 ∧ K ≠ 11 ∧ K ≠ 4) ∧ K ≠ 14 ∧ K ≠ 12 ∧ K ≠ 0) : un9 (fvF9 ρ κ s) x K := fun f hf z => by
  rcases z with z | z | z | z | z | z
  · exact so_un9 hK.1 f hf z
  · rw [z, ty_soWeb W Ts] at T; exact hK.2.1 T.symm
  · rw [z.1, Ts] at T; exact hK.2.2.1 T.symm
  · rw [z] at hf; exact hK.2.2.2 hf.symm
  · rw [zt_09 W (Or.inl z)] at T; exact hK.2.2.2 T.symm
  · rw [zt_09 W (Or.inr z)] at T; exact hK.2.2.2 T.symm
theorem mp_un9 {C : zC} {n0 s x K : Nat} {ρ : Nat → Nat} {κ : zS} (W : zW C n0 κ) (Ts : zT κ s = 12) (T : zT κ x = K) (hK : (K ≠ 8 ∧ K ≠ 11 ∧ K ≠ 4) ∧ K ≠ 14 ∧ K ≠ 12 ∧ K ≠ 0) : ∀ f, f / 100 = K → f ≠ atPlan → ¬ mpF9 ρ κ s f x := fun f hf hp z => by
  rcases z with z | z | z | z | z | z | z
  · exact so_un9 hK.1 f hf z
  · rw [z, ty_soWeb W Ts] at T; exact hK.2.1 T.symm
  · rw [z.1, Ts] at T; exact hK.2.2.1 T.symm
  · exact hp z.2
  · rw [z] at hf; exact hK.2.2.2 hf.symm
  · rw [zt_09 W (Or.inl z)] at T; exact hK.2.2.2 T.symm
  · rw [zt_09 W (Or.inr z)] at T; exact hK.2.2.2 T.symm
/-- behind findVisits -/
theorem ch_v9 {C : zC} {n0 a n : Nat} {L : Int} {ρ : Nat → Nat} {κ τ : zS} (W : zW C n0 κ) (T : zT κ a = 15) (I : chI9 ρ κ a L) (ex : zI κ atExplored (zR κ chAtlas a) ≠ 0) (A : atW κ (zR κ chAtlas a) n) (q : fvP9 ρ κ τ (zR κ chSolver a) n) : ∃ ρ', chI9 ρ' τ a L ∧ (∃ F, zF F κ τ) ∧ pC8 κ τ a := by
  obtain ⟨ρ', hρ, Z, S, A', ⟨w1, w2⟩, ⟨l1, l2, l3⟩, V, kz⟩ := q
  have tA := ty_chAtlas W T
  have tS := ty_chSolver W T
  have tm := ty_chMachine W T
  have B := I.2.1
  have lk := I.2.2.1.2.2.1
  rw [lk.1] at A'
  rw [lk.2] at w1 w2
  have hu : ∀ x K, zT κ x = K → (K = 13 ∨ K = 5 ∨ K = 10 ∨ K = 7 ∨ K = 6 ∨ K = 15) → un9 (fvF9 ρ κ (zR κ chSolver a)) x K := fun x K h1 h2 => fv_un9 W tS h1 (by omega)
  have n3 : un9 (fvF9 ρ κ (zR κ chSolver a)) (zR κ chAtlas a) 3 := fv_un9 W tS tA (by decide)
  have ma : maL κ (zR κ chMachine a) := by
    have y := B.1.2.1
    rw [B.2.1] at y
    exact y
  have hO : ∀ f, f / 100 = 15 → zR τ f a = zR κ f a := fun f hf => Z.r (hu a 15 T (by decide) f hf)
  have hB := chB_w9 W T Z (fun f hf _ _ => hO f hf) (fun f hf _ => n3 f hf) (hu _ 6 (ty_atStates W tA) (by decide)) (hu _ 6 (ty_atEndings W tA) (by decide)) (hu _ 5 (ty_atCode W tA) (by decide)) (ma_u9 Z W tm (hu _ 7 tm (by decide)) ma) ⟨Or.inr w1, w2⟩ ⟨Or.inr A'.1, A'.2.1⟩ (fun _ => ⟨n, A'⟩) B
  have ns : ∀ f, f = soTaken ∨ f = soWorths ∨ f = soPlanned → ¬ fvF9 ρ κ (zR κ chSolver a) f (zR κ chSolver a) := fun f hf z => by
    rcases z with z | z | z | z | z | z
    · exact so_un9 (K := 12) (by decide) f (by rcases hf with y | y | y <;> rw [y] <;> rfl) z
    · have y := ty_soWeb W tS
      rw [← z, tS] at y; exact absurd y (by decide)
    · rcases hf with y | y | y <;> rw [y] at z <;> exact absurd z.2 (by decide)
    · rcases hf with y | y | y <;> rw [y] at z <;> exact absurd z (by decide)
    · have y := zt_09 W (Or.inl z)
      rw [tS] at y; exact absurd y (by decide)
    · have y := zt_09 W (Or.inr z)
      rw [tS] at y; exact absurd y (by decide)
  have uq : ∀ m, atW τ (zR κ chAtlas a) m → m = n := fun m hm => by
    have y1 := hm.2.2.2.1
    have y2 := A'.2.2.2.1
    omega
  refine ⟨ρ', pC_b8 (kA_z8 W T Z (hu a 15 T (by decide) _ (by decide)) (fun f hf _ => n3 f hf) (hu _ 6 (ty_atStates W (ty_chAtlas W T)) (by decide)) (hu _ 6 (ty_atEndings W (ty_chAtlas W T)) (by decide))) (chI_b9 W T Z hu (fun f hf _ => n3 f hf) hB.1 ⟨hB.2.2.1 _ (by decide) (by decide), hB.2.2.1 _ (by decide) (by decide), hB.2.2.1 _ (by decide) (by decide)⟩ hρ ⟨S, ?_, l1, l2, l3⟩ ?_ (odd_r9 W T Z (fv_un9 W tS (ty_chOdds W T) (by decide)) hρ I) (cK_k9 W T Z (hO chSolver (by decide)) (hO chOdds (by decide)) (fv_un9 W tS (ty_chOdds W T) (by decide) odEdges rfl) kz I.2.2.2.2.2.2.2) I)⟩
  · rw [Z.r (ns _ (Or.inl rfl)), Z.l (ty_soTaken W tS)]
    exact I.2.2.1.2.1
  · unfold chS9
    rw [hO chSolver (by decide), hO chAtlas (by decide), hB.2.1]
    refine ⟨fun z => ?_, fun z => ?_⟩
    · obtain ⟨P, v1, v2, v3⟩ := V z
      refine ⟨ex, P, v2, fun m hm => ?_⟩
      rw [uq m hm]
      exact ⟨v1, v3⟩
    · rw [Z.i (ns _ (Or.inr (Or.inr rfl)))] at z
      obtain ⟨x1, x3⟩ := I.2.2.2.1.2 z
      refine ⟨x1, fun m hm => ?_⟩
      rw [uq m hm]
      have q := (Z.row W (show zr soWorths = some 25 by decide +kernel) (by decide) (tS.trans (by decide)) (ns _ (Or.inr (Or.inl rfl)))).2.2
      rw [q, Z.r (ns _ (Or.inr (Or.inl rfl))), Z.l (ty_soWorths W tS)]
      exact x3 n A
/-- behind makePlan -/
theorem ch_p9 {C : zC} {n0 a n : Nat} {L : Int} {ρ : Nat → Nat} {κ τ : zS} {v : Int32} (W : zW C n0 κ) (T : zT κ a = 15) (I : chI9 ρ κ a L) (ex : zI κ atExplored (zR κ chAtlas a) ≠ 0) (A : atW κ (zR κ chAtlas a) n) (q : mpP9 ρ κ τ (zR κ chSolver a) n v) : ∃ ρ', chI9 ρ' τ a L ∧ (∃ F, zF F κ τ) ∧ pB8 κ τ a := by
  obtain ⟨ρ', ⟨hρ, Z⟩, S, ⟨⟨w1, w2⟩, A'⟩, tk, V, wo, sp, ⟨l1, l2, l3⟩, kz⟩ := q
  have tA := ty_chAtlas W T
  have tS := ty_chSolver W T
  have tm := ty_chMachine W T
  have B := I.2.1
  have lk := I.2.2.1.2.2.1
  rw [lk.1] at A'
  rw [lk.2] at w1 w2
  have hu : ∀ x K, zT κ x = K → (K = 13 ∨ K = 5 ∨ K = 10 ∨ K = 7 ∨ K = 6 ∨ K = 15) → un9 (mpF9 ρ κ (zR κ chSolver a)) x K := fun x K h1 h2 f hf => mp_un9 W tS h1 (by omega) f hf (fun e => by
    have y : atPlan / 100 = 3 := rfl
    rw [e, y] at hf
    omega)
  have ma : maL κ (zR κ chMachine a) := by
    have y := B.1.2.1
    rw [B.2.1] at y
    exact y
  have hO : ∀ f, f / 100 = 15 → zR τ f a = zR κ f a := fun f hf => Z.r (hu a 15 T (by decide) f hf)
  have hB := chB_w9 W T Z (fun f hf _ _ => hO f hf) (mp_un9 W tS tA (by decide)) (hu _ 6 (ty_atStates W tA) (by decide)) (hu _ 6 (ty_atEndings W tA) (by decide)) (hu _ 5 (ty_atCode W tA) (by decide)) (ma_u9 Z W tm (hu _ 7 tm (by decide)) ma) ⟨w1, w2⟩ ⟨Or.inr A'.1, A'.2.1⟩ (fun _ => ⟨n, A'⟩) B
  have ns : ¬ mpF9 ρ κ (zR κ chSolver a) soVisits (zR κ chSolver a) := fun z => by
    rcases z with z | z | z | z | z | z | z
    · exact so_un9 (K := 12) (by decide) soVisits (by decide) z
    · have y := ty_soWeb W tS
      rw [← z, tS] at y; exact absurd y (by decide)
    · exact absurd z.2 (by decide)
    · exact absurd z.2 (by decide)
    · exact absurd z (by decide)
    · have y := zt_09 W (Or.inl z)
      rw [tS] at y; exact absurd y (by decide)
    · have y := zt_09 W (Or.inr z)
      rw [tS] at y; exact absurd y (by decide)
  have uq : ∀ m, atW τ (zR κ chAtlas a) m → m = n := fun m hm => by
    have y1 := hm.2.2.2.1
    have y2 := A'.2.2.2.1
    omega
  refine ⟨ρ', chI_b9 W T Z hu (mp_un9 W tS tA (by decide)) hB.1 ⟨hB.2.2.1 _ (by decide) (by decide), hB.2.2.1 _ (by decide) (by decide), hB.2.2.1 _ (by decide) (by decide)⟩ hρ ⟨S, tk, l1, l2, l3⟩ ?_ (odd_r9 W T Z (fun f hf => mp_un9 W tS (ty_chOdds W T) (by decide) f hf (fun e => by
    have y : atPlan / 100 = 3 := rfl
    rw [e, y] at hf
    omega)) hρ I) (cK_k9 W T Z (hO chSolver (by decide)) (hO chOdds (by decide)) (mp_un9 W tS (ty_chOdds W T) (by decide) odEdges rfl (by decide)) kz I.2.2.2.2.2.2.2) I⟩
  unfold chS9
  rw [hO chSolver (by decide), hO chAtlas (by decide), hB.2.1]
  refine ⟨fun z => ?_, fun z => ?_⟩
  · rcases sp with sp | sp
    · rw [sp.1] at z
      obtain ⟨x1, P, x2, x3⟩ := I.2.2.2.1.1 z
      refine ⟨x1, P, x2, fun m hm => ?_⟩
      rw [uq m hm]
      have y := x3 n A
      rcases V with V | V
      · refine ⟨V n P A.2.2.1 y.1, ?_⟩
        rw [Z.r ns, Z.l (ty_soVisits W tS)]
        exact y.2
      · rw [sp.1] at V
        exact absurd V z
    · exact absurd sp z
  · refine ⟨ex, fun m hm => ?_⟩
    rw [uq m hm]
    rcases wo with wo | wo
    · exact wo
    · rw [wo] at z ⊢
      exact (I.2.2.2.1.2 z).2 n A
theorem Ch_solve_c {C : zC} {n0 : Nat} {a0 : Nat} {κ : zS} {Q : Int32 → zS → Prop} {X : zXp} (W : zW C n0 κ) (Ta0 : zT κ a0 = 15) (ρ : Nat → Nat) (L9 : Int) (n9 : Nat) (hp : chI9 ρ κ a0 L9 ∧ (zI κ atExplored (zR κ chAtlas a0) ≠ 0 → atW κ (zR κ chAtlas a0) n9)) (h : ∀ (v : Int32) (κ' : zS), (∃ ρ', chI9 ρ' κ' a0 L9 ∧ (∃ F, zF F κ κ') ∧ pC8 κ κ' a0) → Q v κ') (hx : ∀ (cls : String) (κ' : zS), (cls = "java/lang/IllegalStateException" ∧ κ' = ut κ) → X cls κ') : zRun C 9 mCh_solve [.ref a0] κ (oI Q X) := by
  refine Ch_solve_run W Ta0 ?_
  replace W := W.lo (Nat.le_trans W.1.2.1 W.1.2.2) (Nat.le_refl (zn κ))
  unfold w_Ch_solve_0
  refine ⟨fun c1 => ?_, fun c1 => ?_⟩
  · skip
    intro T2
    refine So_findVisitz_c W T2 ρ n9 ?_ (fun r3 κ_4 q5 => ?_)
    · have lk := hp.1.2.2.1.2.2.1
      refine ⟨hp.1.2.2.1.1, ?_, by rw [lk.1]; exact hp.2 c1⟩
      rw [lk.2]
      exact hp.1.2.1.1.2.2.1
    intro W6
    intro M7
    refine h _ _ ?_
    · exact ch_v9 W Ta0 hp.1 c1 (hp.2 c1) q5  -- q2
  · skip
    intro κ_8 hκ_8
    refine hx _ _ ?_
    · exact ⟨rfl, hκ_8⟩  -- x3

theorem Ch_best_c {C : zC} {n0 : Nat} {a0 : Nat} {κ : zS} {Q : Int32 → zS → Prop} {X : zXp} (W : zW C n0 κ) (Ta0 : zT κ a0 = 15) (ρ : Nat → Nat) (L9 : Int) (n9 : Nat) (hp : chI9 ρ κ a0 L9 ∧ (zI κ atExplored (zR κ chAtlas a0) ≠ 0 → atW κ (zR κ chAtlas a0) n9)) (h : ∀ (v : Int32) (κ' : zS), (∃ ρ', chI9 ρ' κ' a0 L9 ∧ (∃ F, zF F κ κ') ∧ pB8 κ κ' a0) → Q v κ') (hx : ∀ (cls : String) (κ' : zS), (cls = "java/lang/IllegalStateException" ∧ κ' = ut κ) → X cls κ') : zRun C 9 mCh_best [.ref a0] κ (oI Q X) := by
  refine Ch_best_run W Ta0 ?_
  replace W := W.lo (Nat.le_trans W.1.2.1 W.1.2.2) (Nat.le_refl (zn κ))
  unfold w_Ch_best_0
  refine ⟨fun c1 => ?_, fun c1 => ?_⟩
  · skip
    intro T2
    refine So_makePlanz_c W T2 ρ n9 ?_ (fun r3 κ_4 q5 => ?_)
    · have lk := hp.1.2.2.1.2.2.1
      refine ⟨hp.1.2.2.1.1, ?_, by rw [lk.1]; exact hp.2 c1, hp.1.2.2.1.2.1⟩
      rw [lk.2]
      exact hp.1.2.1.1.2.2.1
    intro W6
    intro M7
    refine h _ _ ?_
    · exact ch_p9 W Ta0 hp.1 c1 (hp.2 c1) q5  -- q2
  · skip
    intro κ_8 hκ_8
    refine hx _ _ ?_
    · exact ⟨rfl, hκ_8⟩  -- x3

end
section
set_option maxHeartbeats 1600000
/-! the class: ChanceWorks' independent, given -/
/-- behind arrange -/
theorem chI_a9 {C : zC} {n0 a : Nat} {L : Int} {ρ : Nat → Nat} {κ τ : zS} (W : zW C n0 κ) (T : zT κ a = 15) (Z : zF (arO9 (zR κ chOdds a) (zR κ odGroups (zR κ chOdds a))) κ τ) (hG : hoI τ (zR κ odGroups (zR κ chOdds a)) 3000 3 8192 ∧ (zN τ (zR τ odKey (zR κ chOdds a))) = 3) (hT : tbL9 τ (zR κ chOdds a) ∧ (zN τ (zR τ odLinks (zR κ chOdds a))) ≤ 20000) (hE : eO9 κ τ (zR κ chOdds a)) (I : chI9 ρ κ a L) : (chI9 ρ τ a L ∧ (∃ F, zF F κ τ) ∧ pC8 κ τ a) ∧ (∀ n, atW τ (zR κ chAtlas a) n ↔ atW κ (zR κ chAtlas a) n) ∧ zI τ soSolved (zR κ chSolver a) = zI κ soSolved (zR κ chSolver a) ∧ (∀ f, f / 100 = 15 → zR τ f a = zR κ f a) := by
  obtain ⟨⟨A1, ⟨⟨A2, A3⟩, A4⟩, A5, A6⟩, B, ⟨C1, C2, C3, C4⟩, ⟨S1, S2⟩, ⟨D1, D2, D3, ⟨D4, D5⟩, D6, D7⟩, E0, L0, K0⟩ := I
  have tA := ty_chAtlas W T
  have tS := ty_chSolver W T
  have tO := ty_chOdds W T
  have tm := ty_chMachine W T
  have tG := ty_odGroups W tO
  have n6 : ∀ x K, zT κ x = K → K ≠ 9 → x ≠ zR κ odGroups (zR κ chOdds a) → ∀ f, ¬ arO9 (zR κ chOdds a) (zR κ odGroups (zR κ chOdds a)) f x := fun x K h1 h2 h3 f z => by
    rcases z with z | z
    · rw [z.1, tO] at h1; exact h2 h1.symm
    · exact h3 z.1
  have no : ∀ x K, zT κ x = K → K ≠ 9 ∧ K ≠ 6 → ∀ f, ¬ arO9 (zR κ chOdds a) (zR κ odGroups (zR κ chOdds a)) f x := fun x K h1 h2 => n6 x K h1 h2.1 (fun e => by rw [e, tG] at h1; exact h2.2 h1.symm)
  have nO : ∀ f, f < 905 → ¬ arO9 (zR κ chOdds a) (zR κ odGroups (zR κ chOdds a)) f (zR κ chOdds a) := fun f hf z => by
    rcases z with z | z
    · have y := z.2.1
      omega
    · have y := z.1
      rw [← y, tO] at tG; exact absurd tG (by decide)
  have E := chE_u9 W T Z (fun f _ => no a 15 T (by decide) f) E0
  have o := E.2.1
  have ma : maL κ (zR κ chMachine a) := by
    have y := B.1.2.1
    rw [B.2.1] at y
    exact y
  have hB := chB_u9 W T Z (fun f hf _ _ => o f hf) (fun f _ => no _ 3 tA (by decide) f) (fun f _ => n6 _ 6 (ty_atStates W tA) (by decide) D7.1 f) (fun f _ => n6 _ 6 (ty_atEndings W tA) (by decide) D7.2 f) (fun f _ => no _ 14 (ty_atWeb W tA) (by decide) f) (fun _ f _ => no _ 5 (ty_atCode W tA) (by decide) f) (ma_u9 Z W tm (fun f _ => no _ 7 tm (by decide) f) ma) B
  have nS : ∀ f, ¬ arO9 (zR κ chOdds a) (zR κ odGroups (zR κ chOdds a)) f (zR κ chSolver a) := no _ 12 tS (by decide)
  have hS := rs_h9 W tS C1 Z (fun f w y => no w 8 y (by decide) f) (fun f w y => no w 11 y (by decide) f) (fun f w y => no w 4 y (by decide) f) (fun f _ _ => nS f)
  have P := pa_u9 Z W (ty_chParser W T) (fun f _ => no _ 10 (ty_chParser W T) (by decide) f) A5
  have K1 := co_u9 Z W (ty_chCode W T) (fun f _ => no _ 5 (ty_chCode W T) (by decide) f)
  have K2 := co_u9 Z W (ty_chSpare W T) (fun f _ => no _ 5 (ty_chSpare W T) (by decide) f)
  have A := ta_u9 Z W (ty_chTape W T) (fun f _ => no _ 13 (ty_chTape W T) (by decide) f) A1
  have rS : ∀ f, zR τ f (zR κ chSolver a) = zR κ f (zR κ chSolver a) := fun f => Z.r (nS f)
  have iS : ∀ f, zI τ f (zR κ chSolver a) = zI κ f (zR κ chSolver a) := fun f => Z.i (nS f)
  have nv : zN τ (zR κ soVisits (zR κ chSolver a)) = zN κ (zR κ soVisits (zR κ chSolver a)) := Z.l (ty_soVisits W tS)
  have qw := (Z.row W (show zr soWorths = some 25 by decide +kernel) (by decide) (tS.trans (by decide)) (nS _)).2.2
  rw [rS] at qw
  have nw : zN τ (zR κ soWorths (zR κ chSolver a)) = zN κ (zR κ soWorths (zR κ chSolver a)) := Z.l (ty_soWorths W tS)
  refine ⟨⟨⟨⟨?_, ?_, ?_⟩, hB.1, ?_, ?_, ?_, E.1, ?_, ?_⟩, ⟨_, Z⟩, ⟨pC_v7 W T Z (fun f _ => no a 15 T (by decide) f) (fun f _ => no _ 13 (ty_chTape W T) (by decide) f) (fun f _ => no _ 5 (ty_chCode W T) (by decide) f), kA_z8 W T Z (no a 15 T (by decide) _) (fun f _ _ => no _ 3 tA (by decide) f) (fun f _ => n6 _ 6 (ty_atStates W tA) (by decide) D7.1 f) (fun f _ => n6 _ 6 (ty_atEndings W tA) (by decide) D7.2 f)⟩⟩, hB.2.1, iS _, o⟩
  · rw [o chTape (by decide)]; exact A.1
  · rw [o chCode (by decide), o chSpare (by decide)]
    exact ⟨⟨K1.1 A2, K2.1 A3⟩, A4⟩
  · rw [o chParser (by decide), o chTape (by decide)]
    exact ⟨P.1, P.2.trans A6⟩
  · unfold chC9
    rw [o chSolver (by decide), o chAtlas (by decide), o chShown (by decide), rS, rS, rS, Z.l (ty_soTaken W tS), hB.2.2.2 atWeb (by decide)]
    exact ⟨hS.1, C2, C3, C4⟩
  · unfold chS9
    rw [o chSolver (by decide), o chAtlas (by decide), iS, iS, rS, rS, nv, nw, qw, hB.2.2.1]
    refine ⟨fun z => ?_, fun z => ?_⟩
    · obtain ⟨x1, P9, x2, x3⟩ := S1 z
      refine ⟨x1, P9, x2, fun n hn => ?_⟩
      have y := x3 n ((hB.2.1 n).mp hn)
      exact ⟨vs_h9 W tS Z (fun f w y => no w 8 y (by decide) f) (fun f w y => no w 11 y (by decide) f) (fun f w y => no w 3 y (by decide) f) nS y.1, y.2⟩
    · obtain ⟨x1, x3⟩ := S2 z
      exact ⟨x1, fun n hn => x3 n ((hB.2.1 n).mp hn)⟩
  · unfold chD9
    rw [o chSolver (by decide), o chAtlas (by decide), o chOdds (by decide), Z.r (nO odAtlas (by decide)), Z.r (nO odSolver (by decide)), Z.r (nO odCalc (by decide)), Z.r (nO odHeld (by decide)), Z.r (nO odGroups (by decide)), rS, hB.2.2.2 atStates (by decide), hB.2.2.2 atEndings (by decide)]
    exact ⟨D1, D2, ⟨Or.inr hT.1, hT.2⟩, hG, fun j u hj hu => D6 j u hj (hE.1 j u hu), D7⟩
  · rw [o chTape (by decide), A.2]; exact L0
  · exact cK_z9 W T Z (o chSolver (by decide)) (o chOdds (by decide)) (fun b hb => no b 0 (zT_o9 W hb) (by decide) 0) (fun f _ => nS f) hE.2 K0
/-- a Solver at rest, whose rows are not touched, with roles that grew -/
theorem soR_r9 {C : zC} {n0 s : Nat} {ρ ρ' : Nat → Nat} {F : Nat → Nat → Prop} {κ τ : zS} (W : zW C n0 κ) (Ts : zT κ s = 12) (Z : zF F κ τ) (n : un9 F s 12) (hρ : ∀ b, b < zn κ → ρ' b = ρ b) (N : nmI ρ' τ ∧ soI ρ' τ s) (hl : nuN τ (zR τ soLess s) < pB9 4000) (S : soR9 ρ κ s) : soR9 ρ' τ s := by
  obtain ⟨_, K, L, ⟨v1, v2⟩, ⟨w1, w2⟩, r, _⟩ := S
  have lt : ∀ x, zT κ x ≠ 0 → x < zn κ := fun x h => (W.2.1 x h).2
  have row : ∀ f t, zr f = some t → 20 ≤ t → f / 100 = 12 → zQ τ (zR τ f s) = zQ κ (zR κ f s) ∧ zN τ (zR τ f s) = zN κ (zR κ f s) := fun f t h1 h2 h3 => by
    have T9 : zT κ s = f / 100 := by rw [h3]; exact Ts
    refine ⟨(Z.row W h1 h2 T9 (n f h3)).2.2, ?_⟩
    have q := W.r h1 T9
    obtain ⟨c, hc⟩ : ∃ c, t = c + 1 := ⟨t - 1, by omega⟩
    rw [Z.r (n f h3)]
    exact Z.l (c := c) (q.trans hc)
  have rv := row soVisits 25 (by decide +kernel) (by decide) (by decide)
  have rw9 := row soWorths 25 (by decide +kernel) (by decide) (by decide)
  have rc := row soCells 24 (by decide +kernel) (by decide) (by decide)
  have rr := row soRows 20 (by decide +kernel) (by decide) (by decide)
  refine ⟨N, fun i u hi hu => ?_, by rw [rc.2]; exact L, ⟨fun j u hj hu => ?_, by rw [rv.2]; exact v2⟩, ⟨fun j u hj hu => ?_, by rw [rw9.2]; exact w2⟩, by rw [rr.2]; exact r, hl⟩
  · rw [rc.1] at hu
    have t := W.2.2.2.1 _ _ _ (ty_soCells W Ts) hu
    rw [hρ u (lt u (by rw [t]; decide))]
    exact K i u hi hu
  · rw [rv.1] at hu
    have t := W.2.2.2.2.1 _ _ _ (ty_soVisits W Ts) hu
    rw [hρ u (lt u (by rw [t]; decide))]
    exact v1 j u hj hu
  · rw [rw9.1] at hu
    have t := W.2.2.2.2.1 _ _ _ (ty_soWorths W Ts) hu
    rw [hρ u (lt u (by rw [t]; decide))]
    exact w1 j u hj hu
/-- behind tablesAgree -/
theorem ch_g9 {C : zC} {n0 a n P : Nat} {L : Int} {ρ ρ' : Nat → Nat} {κ τ : zS} (W : zW C n0 κ) (T : zT κ a = 15) (I : chI9 ρ κ a L) (hP : 0 < P ∧ P < pB9 1490) (G : roH9 ρ κ τ (zR κ chOdds a) n P ρ') (sol : zI κ soSolved (zR κ chSolver a) ≠ 0) : chI9 ρ' τ a L ∧ (∃ F, zF F κ τ) ∧ pC8 κ τ a := by
  obtain ⟨hρ, A, Z, e9, ke⟩ := G
  have tA := ty_chAtlas W T
  have tS := ty_chSolver W T
  have tO := ty_chOdds W T
  have tm := ty_chMachine W T
  have B := I.2.1
  obtain ⟨⟨d1, d2, d3⟩, D2, D3, ⟨D4, D5⟩, D6, D7⟩ := I.2.2.2.2.1
  have un : ∀ x K, zT κ x = K → (K ≠ 8 ∧ K ≠ 11 ∧ K ≠ 4) ∧ K ≠ 9 ∧ K ≠ 0 → un9 (roF9 ρ κ (zR κ chOdds a)) x K := fun x K h1 h2 f hf => ro_n9 (c := K - 1) W (by omega) (by rw [hf]; exact h2.1) (fun e => by
    have y : odEdges / 100 = 9 := rfl
    rw [e, y] at hf
    omega)
  have hO : ∀ f, f / 100 = 15 → zR τ f a = zR κ f a := fun f hf => Z.r (un a 15 T (by decide) f hf)
  have ma : maL κ (zR κ chMachine a) := by
    have y := B.1.2.1
    rw [B.2.1] at y
    exact y
  have hB := chB_u9 W T Z (fun f hf _ _ => hO f hf) (un _ 3 tA (by decide)) (un _ 6 (ty_atStates W tA) (by decide)) (un _ 6 (ty_atEndings W tA) (by decide)) (un _ 14 (ty_atWeb W tA) (by decide)) (fun _ => un _ 5 (ty_atCode W tA) (by decide)) (ma_u9 Z W tm (un _ 7 tm (by decide)) ma) B
  have rO : ∀ f, f / 100 = 9 → zR τ f (zR κ chOdds a) = zR κ f (zR κ chOdds a) := fun f hf => e9 f (Or.inl hf) _ 8 tO
  have rS : ∀ f, f / 100 = 12 → zR τ f (zR κ chSolver a) = zR κ f (zR κ chSolver a) := fun f hf => e9 f (Or.inr hf) _ 11 tS
  have nS := un _ 12 tS (by decide)
  have iS : ∀ f, f / 100 = 12 → zI τ f (zR κ chSolver a) = zI κ f (zR κ chSolver a) := fun f hf => Z.i (nS f hf)
  obtain ⟨N, X, ⟨l1, _, _⟩, ⟨_, lL⟩, Eg, _⟩ := A
  rw [rO odSolver (by decide), d2] at N lL
  obtain ⟨_, _, ⟨x4, x5⟩, x6, _, _⟩ := X
  rw [rO odSolver (by decide), d2] at x5 x6
  rw [rO odAtlas (by decide), d1] at x4
  have qw := (Z.row W (show zr soWorths = some 25 by decide +kernel) (by decide) (tS.trans (by decide)) (nS _ (by decide))).2.2
  rw [rS soWorths (by decide)] at qw
  refine pC_b8 (kA_z8 W T Z (un a 15 T (by decide) _ (by decide)) (fun f hf _ => un _ 3 tA (by decide) f hf) (un _ 6 (ty_atStates W tA) (by decide)) (un _ 6 (ty_atEndings W tA) (by decide))) (chI_b9 W T Z (fun x K h1 h2 => un x K h1 (by omega)) (fun f hf _ => un _ 3 tA (by decide) f hf) hB.1 ⟨hB.2.2.2 _ (by decide), hB.2.2.2 _ (by decide), hB.2.2.2 _ (by decide)⟩ hρ ⟨soR_r9 W tS Z nS hρ N lL I.2.2.1.1, ?_, rS _ (by decide), rS _ (by decide), rS _ (by decide)⟩ ?_ ⟨rO, ⟨Or.inr l1, ?_, ?_⟩, fun j u hj hu => Eg j u hj (by rw [rO odEdges (by decide)]; exact hu)⟩ (cK_e9 W T Z (hO chSolver (by decide)) (hO chOdds (by decide)) (fun f hf => nS f (by rcases hf with y | y | y <;> rw [y] <;> rfl)) ke I.2.2.2.2.2.2.2) I)
  · rw [rS soTaken (by decide), Z.l (ty_soTaken W tS)]
    exact I.2.2.1.2.1
  · unfold chS9
    rw [hO chSolver (by decide), hO chAtlas (by decide), hB.2.2.1, iS soPlanned (by decide), rS soWorths (by decide), qw, Z.l (ty_soWorths W tS)]
    refine ⟨fun z => ⟨(I.2.2.2.1.1 sol).1, P, hP, fun m hm => ?_⟩, fun z => ?_⟩
    · have e : m = n := by
        have y1 := hm.2.2.2.1
        have y2 := x4.2.2.2.1
        omega
      rw [e]
      exact ⟨x6, x5⟩
    · obtain ⟨y1, y3⟩ := I.2.2.2.1.2 z
      exact ⟨y1, fun m hm => y3 m ((hB.2.1 m).mp hm)⟩
  · rw [rO odLinks (by decide), Z.l (ty_odLinks W tO)]
    exact D3.2
  · rw [rO odKey (by decide), Z.l (ty_odKey W tO)]
    exact D5
/-- what arrange needs -/
theorem ar_p9 {a n P : Nat} {L : Int} {ρ : Nat → Nat} {κ : zS} (I : chI9 ρ κ a L) (sol : zI κ soSolved (zR κ chSolver a) ≠ 0) (X : odX9 ρ κ (zR κ chOdds a) n P) : odX9 ρ κ (zR κ chOdds a) n P ∧ ((odU9 κ (zR κ chOdds a) ∨ tbL9 κ (zR κ chOdds a)) ∧ (zN κ (zR κ odLinks (zR κ chOdds a))) ≤ 20000 ∧ 0 ≤ (zI κ atNexts (zR κ odAtlas (zR κ chOdds a))).toInt) ∧ (hoI κ (zR κ odGroups (zR κ chOdds a)) 3000 3 8192 ∧ (zN κ (zR κ odKey (zR κ chOdds a))) = 3) ∧ (zR κ atStates (zR κ odAtlas (zR κ chOdds a)) ≠ zR κ odGroups (zR κ chOdds a) ∧ zR κ atEndings (zR κ odAtlas (zR κ chOdds a)) ≠ zR κ odGroups (zR κ chOdds a)) := by
  obtain ⟨⟨d1, d2, d3⟩, D2, D3, D4, D6, D7⟩ := I.2.2.2.2.1
  have ex := (I.2.2.2.1.1 sol).1
  rw [d1]
  exact ⟨X, ⟨D3.1, D3.2, (I.2.1.2.2 ex).1.2⟩, D4, D7⟩
/-- what tablesAgree needs -/
theorem ta_p9 {C : zC} {n0 a n m P : Nat} {L : Int} {ρ : Nat → Nat} {κ : zS} (W : zW C n0 κ) (T : zT κ a = 15) (I : chI9 ρ κ a L) (X : odX9 ρ κ (zR κ chOdds a) n P ∧ (0 < P ∧ P < pB9 1490)) (G : agP9 κ (zR κ chOdds a) m) (e : m = n) : agD9 ρ κ (zR κ chOdds a) n P ∧ (0 < P ∧ P < pB9 1490) ∧ (grI9 κ (zR κ chOdds a) ∧ gI9 κ (zR κ chOdds a) 1000 1000) ∧ (∃ c : Int, c ≤ 1000 ∧ plC9 κ κ (zR κ chOdds a) ((zI κ hoTotal (zR κ odGroups (zR κ chOdds a))).toInt) c) := by
  subst e
  obtain ⟨⟨d1, d2, d3⟩, D2, D3, D4, D6, D7⟩ := I.2.2.2.2.1
  obtain ⟨⟨g1, g2, g3⟩, g4, g5, g6⟩ := G
  have S := I.2.2.1.1
  refine ⟨⟨?_, X.1, ⟨g2, g4, g5⟩, ⟨trivial, ?_⟩, D6, ?_⟩, X.2, ⟨g1, g3⟩, g6⟩
  · rw [d2]; exact S.1
  · rw [d2]; exact S.2.2.2.2.2.2
  · rw [d1]; exact D7
theorem Ch_independent_c {C : zC} {n0 : Nat} {a0 : Nat} {a1 : Int32} {a2 : Int32} {κ : zS} {Q : Int32 → zS → Prop} {X : zXp} (W : zW C n0 κ) (Ta0 : zT κ a0 = 15) (ρ : Nat → Nat) (L9 : Int) (hp : chI9 ρ κ a0 L9) (h : ∀ (v : Int32) (κ' : zS), (∃ ρ', chI9 ρ' κ' a0 L9 ∧ (∃ F, zF F κ κ') ∧ pC8 κ κ' a0) → Q v κ') (hx : ∀ (cls : String) (κ' : zS), ((cls = "java/lang/IllegalStateException" ∨ cls = "java/lang/IndexOutOfBoundsException") ∧ κ' = ut κ) → X cls κ') : zRun C 9 mCh_independent [.ref a0, .int a1, .int a2] κ (oI Q X) := by
  refine Ch_independent_run W Ta0 ?_
  replace W := W.lo (Nat.le_trans W.1.2.1 W.1.2.2) (Nat.le_refl (zn κ))
  unfold w_Ch_independent_0
  obtain ⟨n9, P9, hX⟩ := ch_o9 hp
  refine ⟨fun c1 => ?_, fun c1 => ?_⟩
  · skip
    intro T2
    refine Co_isShared_c W T2  ?_ (fun r3 q5 => ?_)
    · exact hp.1.2.1.1.1  -- p1
    intro W6
    intro M7
    refine ⟨fun c8 => ?_, fun c8 => ?_⟩
    · skip
      intro κ_9 hκ_9
      refine hx _ _ ?_
      · exact ⟨Or.inr rfl, hκ_9⟩  -- x2
    · skip
      intro T10
      refine Co_isShared_c W6 T10  ?_ (fun r11 q13 => ?_)
      · exact hp.1.2.1.1.1  -- p3
      intro W14
      intro M15
      refine ⟨fun c16 => ?_, fun c16 => ?_⟩
      · skip
        intro T17
        refine Od_arrange_c W14 T17 ρ n9 P9 ?_ (fun r18 κ_19 q20 => ?_)
        · exact ar_p9 hp c1 (hX c1).1  -- p4
        intro W21
        intro M22
        refine ⟨fun c23 => ?_, fun c23 => ?_⟩
        · skip
          refine h _ _ ?_
          · exact ⟨ρ, (chI_a9 W Ta0 q20.2.1 q20.2.2.1 q20.2.2.2.1 q20.2.2.2.2.1 hp).1⟩  -- q5
        · skip
          intro T24
          have R := chI_a9 W Ta0 q20.2.1 q20.2.2.1 q20.2.2.2.1 q20.2.2.2.2.1 hp
          have ro : zR κ_19 chOdds a0 = zR κ chOdds a0 := R.2.2.2 chOdds (by decide)
          have rs : zR κ_19 chSolver a0 = zR κ chSolver a0 := R.2.2.2 chSolver (by decide)
          have ra : zR κ_19 chAtlas a0 = zR κ chAtlas a0 := R.2.2.2 chAtlas (by decide)
          have I9 := R.1.1
          have T19 := q20.2.1.t Ta0 (by decide)
          obtain ⟨n8, P8, hX8⟩ := ch_o9 I9
          have sol9 : zI κ_19 soSolved (zR κ_19 chSolver a0) ≠ 0 := by rw [rs, R.2.2.1]; exact c1
          have Y := hX8 sol9
          have en : n9 = n8 := by
            have y1 := (hX c1).2.2.1.2.2.2.1
            have y2 := ((R.2.1 n8).mp (by rw [← ra]; exact Y.2.2.1)).2.2.2.1
            omega
          refine Od_tablesAgree_c W21 T24 ρ n8 P8 ?_ (fun r25 κ_26 q27 => ?_)
          · exact ta_p9 W21 T19 I9 ⟨Y.1, Y.2.1⟩ (by rw [ro]; exact q20.2.2.2.2.2 c23) en  -- p6
          intro W28
          intro M29
          refine ⟨fun c30 => ?_, fun c30 => ?_⟩
          · skip
            refine h _ _ ?_
            · obtain ⟨_, ρ2, G⟩ := q27
              have K := ch_g9 W21 T19 I9 Y.2.1 G sol9
              obtain ⟨F1, Z1⟩ := R.1.2.1
              obtain ⟨F2, Z2⟩ := K.2.1
              exact ⟨ρ2, K.1, ⟨fun _ _ => True, (Z1.mono (fun _ _ _ => trivial)).tr (Z2.mono (fun _ _ _ => trivial))⟩, pC_t8 R.1.2.2 K.2.2⟩
          · skip
            refine h _ _ ?_
            · obtain ⟨_, ρ2, G⟩ := q27
              have K := ch_g9 W21 T19 I9 Y.2.1 G sol9
              obtain ⟨F1, Z1⟩ := R.1.2.1
              obtain ⟨F2, Z2⟩ := K.2.1
              exact ⟨ρ2, K.1, ⟨fun _ _ => True, (Z1.mono (fun _ _ _ => trivial)).tr (Z2.mono (fun _ _ _ => trivial))⟩, pC_t8 R.1.2.2 K.2.2⟩
      · skip
        intro κ_31 hκ_31
        refine hx _ _ ?_
        · exact ⟨Or.inr rfl, hκ_31⟩  -- x9
  · skip
    intro κ_32 hκ_32
    refine hx _ _ ?_
    · exact ⟨Or.inl rfl, hκ_32⟩  -- x10

theorem Ch_given_c {C : zC} {n0 : Nat} {a0 : Nat} {a1 : Int32} {a2 : Int32} {a3 : Int32} {κ : zS} {Q : Int32 → zS → Prop} {X : zXp} (W : zW C n0 κ) (Ta0 : zT κ a0 = 15) (ρ : Nat → Nat) (L9 : Int) (hp : chI9 ρ κ a0 L9) (h : ∀ (v : Int32) (κ' : zS), (∃ ρ', chI9 ρ' κ' a0 L9 ∧ (∃ F, zF F κ κ') ∧ pC8 κ κ' a0) → Q v κ') (hx : ∀ (cls : String) (κ' : zS), ((cls = "java/lang/IllegalStateException" ∨ cls = "java/lang/IndexOutOfBoundsException") ∧ κ' = ut κ) → X cls κ') : zRun C 9 mCh_given [.ref a0, .int a1, .int a2, .int a3] κ (oI Q X) := by
  refine Ch_given_run W Ta0 ?_
  replace W := W.lo (Nat.le_trans W.1.2.1 W.1.2.2) (Nat.le_refl (zn κ))
  unfold w_Ch_given_0
  obtain ⟨n9, P9, hX⟩ := ch_o9 hp
  refine ⟨fun c1 => ?_, fun c1 => ?_⟩
  · skip
    intro T2
    refine Co_isShared_c W T2  ?_ (fun r3 q5 => ?_)
    · exact hp.1.2.1.1.1  -- p1
    intro W6
    intro M7
    refine ⟨fun c8 => ?_, fun c8 => ?_⟩
    · skip
      intro κ_9 hκ_9
      refine hx _ _ ?_
      · exact ⟨Or.inr rfl, hκ_9⟩  -- x2
    · skip
      intro T10
      refine Co_isShared_c W6 T10  ?_ (fun r11 q13 => ?_)
      · exact hp.1.2.1.1.1  -- p3
      intro W14
      intro M15
      refine ⟨fun c16 => ?_, fun c16 => ?_⟩
      · skip
        intro κ_17 hκ_17
        refine hx _ _ ?_
        · exact ⟨Or.inr rfl, hκ_17⟩  -- x4
      · skip
        intro T18
        refine Co_isShared_c W14 T18  ?_ (fun r19 q21 => ?_)
        · exact hp.1.2.1.1.1  -- p5
        intro W22
        intro M23
        refine ⟨fun c24 => ?_, fun c24 => ?_⟩
        · skip
          intro T25
          refine Od_arrange_c W22 T25 ρ n9 P9 ?_ (fun r26 κ_27 q28 => ?_)
          · exact ar_p9 hp c1 (hX c1).1  -- p6
          intro W29
          intro M30
          refine ⟨fun c31 => ?_, fun c31 => ?_⟩
          · skip
            refine h _ _ ?_
            · exact ⟨ρ, (chI_a9 W Ta0 q28.2.1 q28.2.2.1 q28.2.2.2.1 q28.2.2.2.2.1 hp).1⟩  -- q7
          · skip
            intro T32
            have R := chI_a9 W Ta0 q28.2.1 q28.2.2.1 q28.2.2.2.1 q28.2.2.2.2.1 hp
            have ro : zR κ_27 chOdds a0 = zR κ chOdds a0 := R.2.2.2 chOdds (by decide)
            have rs : zR κ_27 chSolver a0 = zR κ chSolver a0 := R.2.2.2 chSolver (by decide)
            have ra : zR κ_27 chAtlas a0 = zR κ chAtlas a0 := R.2.2.2 chAtlas (by decide)
            have I9 := R.1.1
            have T19 := q28.2.1.t Ta0 (by decide)
            obtain ⟨n8, P8, hX8⟩ := ch_o9 I9
            have sol9 : zI κ_27 soSolved (zR κ_27 chSolver a0) ≠ 0 := by rw [rs, R.2.2.1]; exact c1
            have Y := hX8 sol9
            have en : n9 = n8 := by
              have y1 := (hX c1).2.2.1.2.2.2.1
              have y2 := ((R.2.1 n8).mp (by rw [← ra]; exact Y.2.2.1)).2.2.2.1
              omega
            refine Od_tablesAgree_c W29 T32 ρ n8 P8 ?_ (fun r33 κ_34 q35 => ?_)
            · exact ta_p9 W29 T19 I9 ⟨Y.1, Y.2.1⟩ (by rw [ro]; exact q28.2.2.2.2.2 c31) en  -- p8
            intro W36
            intro M37
            refine ⟨fun c38 => ?_, fun c38 => ?_⟩
            · skip
              refine h _ _ ?_
              · obtain ⟨_, ρ2, G⟩ := q35
                have K := ch_g9 W29 T19 I9 Y.2.1 G sol9
                obtain ⟨F1, Z1⟩ := R.1.2.1
                obtain ⟨F2, Z2⟩ := K.2.1
                exact ⟨ρ2, K.1, ⟨fun _ _ => True, (Z1.mono (fun _ _ _ => trivial)).tr (Z2.mono (fun _ _ _ => trivial))⟩, pC_t8 R.1.2.2 K.2.2⟩
            · skip
              refine h _ _ ?_
              · obtain ⟨_, ρ2, G⟩ := q35
                have K := ch_g9 W29 T19 I9 Y.2.1 G sol9
                obtain ⟨F1, Z1⟩ := R.1.2.1
                obtain ⟨F2, Z2⟩ := K.2.1
                exact ⟨ρ2, K.1, ⟨fun _ _ => True, (Z1.mono (fun _ _ _ => trivial)).tr (Z2.mono (fun _ _ _ => trivial))⟩, pC_t8 R.1.2.2 K.2.2⟩
        · skip
          intro κ_39 hκ_39
          refine hx _ _ ?_
          · exact ⟨Or.inr rfl, hκ_39⟩  -- x11
  · skip
    intro κ_40 hκ_40
    refine hx _ _ ?_
    · exact ⟨Or.inl rfl, hκ_40⟩  -- x12

end
section
set_option maxHeartbeats 1600000
/-! the class: next, ending by what they answer -/
theorem At_holds_c8 {C : zC} {n0 : Nat} {a0 : Nat} {a1 : Int32} {κ : zS} {Q : Int32 → zS → Prop} (W : zW C n0 κ) (Ta0 : zT κ a0 = 3)  (h : ∀ (v : Int32), (nb v ∧ (v ≠ 0 ↔ zI κ atExplored a0 ≠ 0 ∧ 0 ≤ a1.toInt ∧ a1.toInt < (zI κ hoTotal (zR κ atStates a0)).toInt)) → Q v κ) : zRun C 0 mAt_holds [.ref a0, .int a1] κ (oI Q noX) := by
  refine At_holds_run W Ta0 ?_
  replace W := W.lo (Nat.le_trans W.1.2.1 W.1.2.2) (Nat.le_refl (zn κ))
  unfold w_At_holds_0
  refine ⟨fun c1 => ?_, fun c1 => ?_⟩
  · refine h _ ⟨nb_0, fun z => absurd rfl z, fun z => absurd c1 z.1⟩
  · refine ⟨fun c2 => ?_, fun c2 => ?_⟩
    · refine h _ ⟨nb_0, fun z => absurd rfl z, fun z => ?_⟩
      rw [lti, t0i] at c2
      omega
    · refine ⟨fun c3 => ?_, fun c3 => ?_⟩
      · refine h _ ⟨nb_0, fun z => absurd rfl z, fun z => ?_⟩
        rw [lei] at c3
        omega
      · refine h _ ?_
        rw [lti, t0i] at c2
        rw [lei] at c3
        exact ⟨nb_1, fun _ => ⟨c1, by omega, by omega⟩, fun _ => by decide⟩
theorem At_holdsEnding_c8 {C : zC} {n0 : Nat} {a0 : Nat} {a1 : Int32} {κ : zS} {Q : Int32 → zS → Prop} (W : zW C n0 κ) (Ta0 : zT κ a0 = 3)  (h : ∀ (v : Int32), (nb v ∧ (v ≠ 0 ↔ zI κ atExplored a0 ≠ 0 ∧ 0 ≤ a1.toInt ∧ a1.toInt < (zI κ hoTotal (zR κ atEndings a0)).toInt)) → Q v κ) : zRun C 0 mAt_holdsEnding [.ref a0, .int a1] κ (oI Q noX) := by
  refine At_holdsEnding_run W Ta0 ?_
  replace W := W.lo (Nat.le_trans W.1.2.1 W.1.2.2) (Nat.le_refl (zn κ))
  unfold w_At_holdsEnding_0
  refine ⟨fun c1 => ?_, fun c1 => ?_⟩
  · refine h _ ⟨nb_0, fun z => absurd rfl z, fun z => absurd c1 z.1⟩
  · refine ⟨fun c2 => ?_, fun c2 => ?_⟩
    · refine h _ ⟨nb_0, fun z => absurd rfl z, fun z => ?_⟩
      rw [lti, t0i] at c2
      omega
    · refine ⟨fun c3 => ?_, fun c3 => ?_⟩
      · refine h _ ⟨nb_0, fun z => absurd rfl z, fun z => ?_⟩
        rw [lei] at c3
        omega
      · refine h _ ?_
        rw [lti, t0i] at c2
        rw [lei] at c3
        exact ⟨nb_1, fun _ => ⟨c1, by omega, by omega⟩, fun _ => by decide⟩
section
variable {κ : zS} {a : Nat} {σ : rS}
theorem ax_8 (h : RC8 κ a σ) (ex : σ.1 69 ≠ 0) : zI κ hoTotal (zR κ atStates (zR κ chAtlas a)) = σ.1 70 ∧ zI κ hoTotal (zR κ atEndings (zR κ chAtlas a)) = σ.1 71 := by
  obtain ⟨nv, s, w, _, n, m, x, ⟨e1, e2, _⟩, _, ⟨v1, v2, _⟩, _⟩ := (h.2.2.1 ex).1
  have v1' : zI κ hoTotal (zR κ atStates (zR κ chAtlas a)) = Int32.ofNat n := v1
  have v2' : zI κ hoTotal (zR κ atEndings (zR κ chAtlas a)) = Int32.ofNat m := v2
  rw [v1', v2', e1, e2]
  exact ⟨rfl, rfl⟩
theorem hs_8 (h : RC8 κ a σ) {k : Int32} : (zI κ atExplored (zR κ chAtlas a) ≠ 0 ∧ 0 ≤ k.toInt ∧ k.toInt < (zI κ hoTotal (zR κ atStates (zR κ chAtlas a))).toInt) ↔ (σ.1 69 ≠ 0 ∧ 0 ≤ k ∧ k < σ.1 70) := by
  constructor
  · rintro ⟨x, k0, k1⟩
    have ex : σ.1 69 ≠ 0 := fun z => x (h.2.1.mp z)
    rw [(ax_8 h ex).1] at k1
    exact ⟨ex, by rw [lei, t0i]; exact k0, by rw [lti]; exact k1⟩
  · rintro ⟨ex, k0, k1⟩
    rw [lei, t0i] at k0
    rw [lti] at k1
    exact ⟨fun z => ex (h.2.1.mpr z), k0, by rw [(ax_8 h ex).1]; exact k1⟩
theorem he_8 (h : RC8 κ a σ) {k : Int32} : (zI κ atExplored (zR κ chAtlas a) ≠ 0 ∧ 0 ≤ k.toInt ∧ k.toInt < (zI κ hoTotal (zR κ atEndings (zR κ chAtlas a))).toInt) ↔ (σ.1 69 ≠ 0 ∧ 0 ≤ k ∧ k < σ.1 71) := by
  constructor
  · rintro ⟨x, k0, k1⟩
    have ex : σ.1 69 ≠ 0 := fun z => x (h.2.1.mp z)
    rw [(ax_8 h ex).2] at k1
    exact ⟨ex, by rw [lei, t0i]; exact k0, by rw [lti]; exact k1⟩
  · rintro ⟨ex, k0, k1⟩
    rw [lei, t0i] at k0
    rw [lti] at k1
    exact ⟨fun z => ex (h.2.1.mpr z), k0, by rw [(ax_8 h ex).2]; exact k1⟩
theorem nx_8 (h : RC8 κ a σ) {k : Int32} (hk : σ.1 69 ≠ 0 ∧ 0 ≤ k ∧ k < σ.1 70) : zA κ (zR κ atFirsts (zR κ chAtlas a)) k.toNatClampNeg = σ.2.2.1 76 k.toNatClampNeg ∧ zA κ (zR κ atFirsts (zR κ chAtlas a)) (k.toNatClampNeg + 1) = σ.2.2.1 76 (k + (1 : Int32)).toNatClampNeg ∧ (∀ j : Nat, (j : Int) < (zI κ atNexts (zR κ chAtlas a)).toInt → zA κ (zR κ atSorts (zR κ chAtlas a)) j = σ.2.2.1 77 j ∧ zA κ (zR κ atNumbers (zR κ chAtlas a)) j = σ.2.2.1 78 j ∧ zA κ (zR κ atWeights (zR κ chAtlas a)) j = σ.2.2.1 79 j) := by
  obtain ⟨ex, k0, k1⟩ := hk
  obtain ⟨nv, s, w, _, n, m, x, ⟨e1, _, e3⟩, ⟨b1, _, b3⟩, ⟨_, _, v3⟩, _, _, ht, hb, hf⟩ := (h.2.2.1 ex).1
  rw [lei, t0i] at k0
  rw [lti, e1, ofn_i (by omega)] at k1
  have kn := cnk k0
  have kk : k.toNatClampNeg < n := by omega
  have e := cn1 k0 (by omega)
  have v3' : zI κ atNexts (zR κ chAtlas a) = Int32.ofNat x := v3
  refine ⟨(hb _ kk).1, ?_, fun j hj => ?_⟩
  · rw [e.1]
    by_cases c : k.toNatClampNeg + 1 < n
    · exact (hb _ c).1
    · have c2 : k.toNatClampNeg + 1 = n := by omega
      rw [c2]
      exact hf (by omega)
  · rw [v3', ofn_i (by omega)] at hj
    exact ht j (by omega)
end
theorem Ch_next_c8 {C : zC} {n0 : Nat} {a0 : Nat} {a1 : Int32} {a2 : Int32} {a3 : Int32} {κ : zS} {Q : Int32 → zS → Prop} {X : zXp} (W : zW C n0 κ) (Ta0 : zT κ a0 = 15) (ρ : Nat → Nat) (L9 : Int) (σ9 : rS) (hr8 : RC8 κ a0 σ9) (hp : chI9 ρ κ a0 L9) (h : ∀ (v : Int32) (κ' : zS), (κ = κ' ∧ nc8 σ9 a1 a2 a3 ∧ v = nv8 σ9 a1 a2 a3) → Q v κ') (hx : ∀ (cls : String) (κ' : zS), (cls = "java/lang/IndexOutOfBoundsException" ∧ κ' = ut κ ∧ ¬ nc8 σ9 a1 a2 a3) → X cls κ') : zRun C 8 mCh_next [.ref a0, .int a1, .int a2, .int a3] κ (oI Q X) := by
  refine Ch_next_run W Ta0 ?_
  replace W := W.lo (Nat.le_trans W.1.2.1 W.1.2.2) (Nat.le_refl (zn κ))
  unfold w_Ch_next_0
  intro T1
  refine At_holds_c8 W T1  (fun r2 q4 => ?_)
  intro W5
  intro M6
  refine ⟨fun c7 => ?_, fun c7 => ?_⟩
  · intro κ_8 hκ_8
    exact hx _ _ ⟨rfl, hκ_8, fun z => q4.2.mpr ((hs_8 hr8).mpr z.1) c7⟩
  · have H := ch_h9 hp ⟨q4.1, q4.2.mp⟩ c7
    have S := (hs_8 hr8).mp (q4.2.mp c7)
    obtain ⟨N1, N2, N3⟩ := nx_8 hr8 S
    refine ⟨fun c9 => ?_, fun c9 => ?_⟩
    · intro κ_10 hκ_10
      exact hx _ _ ⟨rfl, hκ_10, fun z => absurd c9 (Int32.not_lt.mpr z.2.1.1)⟩
    · intro T11
      refine At_waysOf_c W5 T11  ?_ (fun r12 q14 => ?_)
      · exact ⟨H.2.1.1, H.2.2.1⟩
      intro W15
      intro M16
      have q15 : r12 = σ9.2.2.1 76 (a1 + (1 : Int32)).toNatClampNeg - σ9.2.2.1 76 a1.toNatClampNeg := by rw [q14, N1, N2]
      refine ⟨fun c17 => ?_, fun c17 => ?_⟩
      · intro κ_18 hκ_18
        refine hx _ _ ⟨rfl, hκ_18, fun z => ?_⟩
        rw [q15] at c17
        exact absurd z.2.1.2 (Int32.not_lt.mpr c17)
      · refine ⟨fun c19 => ?_, fun c19 => ?_⟩
        · intro κ_20 hκ_20
          exact hx _ _ ⟨rfl, hκ_20, fun z => absurd c19 (Int32.not_lt.mpr z.2.2.1)⟩
        · refine ⟨fun c21 => ?_, fun c21 => ?_⟩
          · refine ⟨?_, ?_⟩
            · rw [inb_iff, H.2.1.1]
              have y := H.2.2.1
              omega
            intro x22 hx22
            have K := H.2.2.2.2.2.1
            have K2 := H.2.2.2.2.2
            have lw := H.2.2.2.1
            have l20 := lw.2
            have nx := H.2.2.2.2.1
            have cc : nc8 σ9 a1 a2 a3 := ⟨S, ⟨Int32.not_lt.mp c9, by rw [← q15]; exact Int32.not_le.mp c17⟩, Int32.not_lt.mp c19, c21⟩
            have xn : 0 ≤ x22.toInt ∧ x22.toInt < (zI κ atNexts (zR κ chAtlas a0)).toInt := by
              have d9 := c9
              have d17 := c17
              rw [lti, t0i] at d9
              rw [lei, q14, sub_i (by omega) (by omega)] at d17
              rw [hx22, add_i (by omega) (by omega)]
              omega
            have xb : 0 ≤ x22.toInt ∧ x22.toInt < (zN κ (zR κ atNumbers (zR κ chAtlas a0))) := ⟨xn.1, by omega⟩
            have xk := cnk xn.1
            obtain ⟨g1, g2, g3⟩ := N3 x22.toNatClampNeg (by omega)
            have ex : x22 = σ9.2.2.1 76 a1.toNatClampNeg + a2 := by rw [hx22, N1]
            refine ⟨fun c23 => ?_, fun c23 => ?_⟩
            · refine ⟨fun c24 => ?_, fun c24 => ?_⟩
              · refine ⟨?_, ?_⟩
                · rw [inb_iff, lw.1.2]; exact xb
                refine h _ _ ⟨rfl, cc, ?_⟩
                unfold nv8
                rw [if_neg c23, if_neg c24, ← ex, g3]
              · refine ⟨?_, ?_⟩
                · rw [inb_iff]; exact xb
                refine h _ _ ⟨rfl, cc, ?_⟩
                unfold nv8
                rw [if_neg c23, if_pos c24, ← ex, g2]
            · refine ⟨?_, ?_⟩
              · rw [inb_iff, lw.1.1]; exact xb
              refine h _ _ ⟨rfl, cc, ?_⟩
              unfold nv8
              rw [if_pos c23, ← ex, g1]
          · intro κ_25 hκ_25
            exact hx _ _ ⟨rfl, hκ_25, fun z => c21 z.2.2.2⟩

end
section
set_option maxHeartbeats 1600000
/-! the class: ending by what it answers -/
section
variable {κ : zS} {a nv s w : Nat} {σ : rS}
/-- how many shared names there are, of both sides -/
theorem sh_8 (cr : CR7 nv s w (cu7 κ (zR κ chCode a)) σ) : (zI κ coVars (zR κ chCode a)).toInt + (zI κ coCells (zR κ chCode a)).toInt = w ∧ (σ.1 15 + σ.1 17).toInt = w ∧ w ≤ 34 := by
  obtain ⟨T, X, Bk, N, Z, na, f, _, F, _, _, ⟨w1, w2, w3⟩, _⟩ := cr
  obtain ⟨⟨⟨a0, a1⟩, _⟩, ⟨_, c1, _⟩, _, _, _, _, _, ⟨_, _, gl3, gl4, _⟩, _⟩ := F
  have i1 : (cu7 κ (zR κ chCode a)).1 509 = zI κ coVars (zR κ chCode a) := by
    show (if 509 ∈ ci6 then zI κ 509 (zR κ chCode a) else 0) = _
    rw [if_pos (by decide)]
  have i2 : (cu7 κ (zR κ chCode a)).1 511 = zI κ coCells (zR κ chCode a) := by
    show (if 511 ∈ ci6 then zI κ 511 (zR κ chCode a) else 0) = _
    rw [if_pos (by decide)]
  have s15 : σ.1 15 = Int32.ofNat nv := by rw [si1, if_neg (by decide)] at c1; exact c1
  have s17 : σ.1 17 = zI κ coCells (zR κ chCode a) := by
    rw [si1, if_neg (by decide)] at gl3
    rw [← i2]
    exact gl3.symm
  rw [i2] at w3 gl4
  have v1 : zI κ coVars (zR κ chCode a) = Int32.ofNat nv := i1.symm.trans a0
  have l1 := ofn_i (n := nv) (by omega)
  refine ⟨by rw [v1, l1]; omega, ?_, w2⟩
  rw [s15, s17, add_i (by rw [l1]; omega) (by rw [l1]; omega), l1]
  omega
end
theorem ix_8 {k i : Int32} (k0 : 0 ≤ k.toInt) (k1 : k.toInt < 1000) (i0 : -1 ≤ i.toInt) (i1 : i.toInt < 34) : ((((35 : Int32) * k) + (1 : Int32)) + i).toNatClampNeg = (35 * k.toInt + 1 + i.toInt).toNat := by
  have t35 : (35 : Int32).toInt = 35 := rfl
  have e1 : ((35 : Int32) * k).toInt = 35 * k.toInt := by rw [mul_i (by rw [t35]; omega) (by rw [t35]; omega), t35]
  have e2 : (((35 : Int32) * k) + (1 : Int32)).toInt = 35 * k.toInt + 1 := by rw [add_i (by rw [e1, t1i]; omega) (by rw [e1, t1i]; omega), e1, t1i]
  rw [nc_5, add_i (by rw [e2]; omega) (by rw [e2]; omega), e2]
theorem Ch_ending_c8 {C : zC} {n0 : Nat} {a0 : Nat} {a1 : Int32} {a2 : Int32} {κ : zS} {Q : Int32 → zS → Prop} {X : zXp} (W : zW C n0 κ) (Ta0 : zT κ a0 = 15) (ρ : Nat → Nat) (L9 : Int) (σ9 : rS) (hr8 : RC8 κ a0 σ9) (hp : chI9 ρ κ a0 L9) (h : ∀ (v : Int32) (κ' : zS), (κ = κ' ∧ ec8 σ9 a1 a2 ∧ v = ev8 σ9 a1 a2) → Q v κ') (hx : ∀ (cls : String) (κ' : zS), (cls = "java/lang/IndexOutOfBoundsException" ∧ κ' = ut κ ∧ ¬ ec8 σ9 a1 a2) → X cls κ') : zRun C 8 mCh_ending [.ref a0, .int a1, .int a2] κ (oI Q X) := by
  refine Ch_ending_run W Ta0 ?_
  replace W := W.lo (Nat.le_trans W.1.2.1 W.1.2.2) (Nat.le_refl (zn κ))
  unfold w_Ch_ending_0
  intro T1
  refine At_holdsEnding_c8 W T1  (fun r2 q4 => ?_)
  intro W5
  intro M6
  refine ⟨fun c7 => ?_, fun c7 => ?_⟩
  · intro κ_8 hκ_8
    exact hx _ _ ⟨rfl, hκ_8, fun z => q4.2.mpr ((he_8 hr8).mpr ⟨z.1, z.2.1⟩) c7⟩
  · have S := (he_8 hr8).mp (q4.2.mp c7)
    obtain ⟨nv, s, w, cr, n, m, x, ⟨f1, f2, f3⟩, ⟨b1, b2, b3⟩, ⟨v1, v2, v3⟩, _, hE, _⟩ := (hr8.2.2.1 S.1).1
    obtain ⟨s1, s2, s3⟩ := sh_8 cr
    have v2' : zI κ hoTotal (zR κ atEndings (zR κ chAtlas a0)) = Int32.ofNat m := v2
    have k0 := S.2.1
    have k1 := S.2.2
    rw [lei, t0i] at k0
    rw [lti, f2, ofn_i (by omega)] at k1
    have kn := cnk k0
    obtain ⟨K, g1, g2, g3⟩ := hE a1.toNatClampNeg (by omega)
    have hk : hk9 κ (zR κ atEndings (zR κ chAtlas a0)) K ((w + 1 : Nat) : Int) a1.toNatClampNeg := by
      unfold hk9
      rw [v2', ofn_i (by omega)]
      exact g3
    refine ⟨fun c9 => ?_, fun c9 => ?_⟩
    · intro κ_10 hκ_10
      exact hx _ _ ⟨rfl, hκ_10, fun z => absurd c9 (Int32.not_lt.mpr z.2.2.1)⟩
    · intro T11
      refine Co_shared_c W5 T11  ?_ (fun r12 q14 => ?_)
      · exact hp.1.2.1.1.1
      intro W15
      intro M16
      have r9 : r12 = σ9.1 15 + σ9.1 17 := Int32.toInt_inj.mp (by rw [q14, s1, s2])
      refine ⟨fun c17 => ?_, fun c17 => ?_⟩
      · have cc : ec8 σ9 a1 a2 := ⟨S.1, S.2, Int32.not_lt.mp c9, by rw [← r9]; exact c17⟩
        have j0 := cc.2.2.1
        have j1 := cc.2.2.2
        rw [lei, show (-1 : Int32).toInt = -1 from rfl] at j0
        rw [lti, s2] at j1
        refine ⟨fun c18 => ?_, fun c18 => ?_⟩
        · intro T19
          refine Ho_part_c2 W15 T19 1000 35 2048 ?_ (fun r20 q22 => ?_)
          · exact ⟨hp.2.1.1.1.2.2.1.2, Or.inr (Or.inl ⟨rfl, rfl, rfl⟩)⟩
          intro W23
          intro M24
          have j2 : 0 ≤ a2.toInt := by
            have y : a2.toInt ≠ -1 := fun e => c18 (Int32.toInt_inj.mp (by rw [e]; rfl))
            omega
          have jn := cnk j2
          refine h _ _ ⟨rfl, cc, ?_⟩
          unfold ev8
          rw [q22, pV9_k k0 hk j2 (by omega), ix_8 k0 (by omega) j0 (by omega), g1 a2.toNatClampNeg (by omega), show (35 * a1.toInt + 1 + a2.toInt).toNat = 35 * a1.toNatClampNeg + 1 + a2.toNatClampNeg by omega]
        · intro T25
          refine Co_shared_c W15 T25  ?_ (fun r26 q28 => ?_)
          · exact hp.1.2.1.1.1
          intro W29
          intro M30
          intro T31
          refine Ho_part_c2 W29 T31 1000 35 2048 ?_ (fun r32 q34 => ?_)
          · exact ⟨hp.2.1.1.1.2.2.1.2, Or.inr (Or.inl ⟨rfl, rfl, rfl⟩)⟩
          intro W35
          intro M36
          refine h _ _ ⟨rfl, cc, ?_⟩
          have rw9 : r26.toInt = w := by rw [q28, s1]
          have rn := cnk (x := r26) (by omega)
          have e2 : a2.toInt = -1 := by rw [c18]; rfl
          unfold ev8
          rw [q34, pV9_k k0 hk (by omega) (by omega), ix_8 k0 (by omega) j0 (by omega), show r26.toNatClampNeg = w by omega, g2, show (35 * a1.toInt + 1 + a2.toInt).toNat = 35 * a1.toNatClampNeg by omega]
      · intro κ_37 hκ_37
        exact hx _ _ ⟨rfl, hκ_37, fun z => c17 (by rw [r9]; exact z.2.2.2)⟩

end
