set_option maxHeartbeats 1600000
/-! the class: ChanceWorks' showsNow, show -/
theorem so_un9 {ρ : Nat → Nat} {R : Nat → Prop} {ca x K : Nat} (hK : K ≠ 8 ∧ K ≠ 11 ∧ K ≠ 4) : un9 (soF ρ R ca) x K := fun f hf z => by
  rcases z with ⟨_, z | z | z⟩ | ⟨_, z | z | z | z⟩
  · rw [z] at hf; exact hK.1 hf.symm
  · rw [z] at hf; exact hK.1 hf.symm
  · rw [z] at hf; exact hK.2.1 hf.symm
  · rw [z] at hf; exact hK.2.2 hf.symm
  · rw [z] at hf; exact hK.2.2 hf.symm
  · rw [z] at hf; exact hK.2.2 hf.symm
  · rw [z] at hf; exact hK.2.2 hf.symm
/-- a call that works with numbers of small roles alone -/
theorem chI_n9 {C : zC} {n0 a ca : Nat} {L : Int} {ρ : Nat → Nat} {R : Nat → Prop} {κ τ : zS} (W : zW C n0 κ) (T : zT κ a = 15) (Z : zF (soF ρ R ca) κ τ) (hR : ∀ r, R r → r < 100) (N : nmI ρ τ ∧ soI ρ τ (zR κ chSolver a)) (hl : nuN τ (zR κ soLess (zR κ chSolver a)) < pB9 4000) (I : chI9 ρ κ a L) : chI9 ρ τ a L ∧ (∃ F, zF F κ τ) ∧ oC9 τ a = oC9 κ a := by
  obtain ⟨⟨A1, ⟨⟨A2, A3⟩, A4⟩, A5, A6⟩, B, ⟨C1, C2, C3, C4⟩, ⟨S1, S2⟩, ⟨D1, D2, D3, ⟨D4, D5⟩, D6, D7⟩, E0, L0, K0⟩ := I
  have tA := ty_chAtlas W T
  have tS := ty_chSolver W T
  have tO := ty_chOdds W T
  have tm := ty_chMachine W T
  have E := chE_u9 W T Z (so_un9 (by decide)) E0
  have o := E.2.1
  have ma : maL κ (zR κ chMachine a) := by
    have y := B.1.2.1
    rw [B.2.1] at y
    exact y
  have hB := chB_u9 W T Z (fun f hf _ _ => o f hf) (so_un9 (by decide)) (so_un9 (by decide)) (so_un9 (by decide)) (so_un9 (by decide)) (fun _ => so_un9 (by decide)) (ma_u9 Z W tm (so_un9 (by decide)) ma) B
  have hS := pw_r9 W tS C1 (Z.mono (fun f b z => (Or.inl z : pwF9 ρ R ca (zR κ chSolver a) f b))) (fun r z => Or.inl (hR r z)) N hl
  have P := pa_u9 Z W (ty_chParser W T) (so_un9 (by decide)) A5
  have K1 := co_u9 Z W (ty_chCode W T) (so_un9 (by decide))
  have K2 := co_u9 Z W (ty_chSpare W T) (so_un9 (by decide))
  have G := odd_u9 Z W tO (so_un9 (by decide))
  have H := ho_u9 (M := 3000) (D := 3) (S := 8192) Z W (ty_odGroups W tO) (so_un9 (by decide))
  have A := ta_u9 Z W (ty_chTape W T) (so_un9 (by decide)) A1
  have rS : ∀ f, f / 100 = 12 → zR τ f (zR κ chSolver a) = zR κ f (zR κ chSolver a) := fun f hf => Z.r (so_un9 (by decide) f hf)
  have iS : ∀ f, f / 100 = 12 → zI τ f (zR κ chSolver a) = zI κ f (zR κ chSolver a) := fun f hf => Z.i (so_un9 (by decide) f hf)
  have nv : zN τ (zR κ soVisits (zR κ chSolver a)) = zN κ (zR κ soVisits (zR κ chSolver a)) := Z.l (ty_soVisits W tS)
  have nw := hS.2.2.2
  rw [rS soWorths (by decide)] at nw
  refine ⟨⟨⟨?_, ?_, ?_⟩, hB.1, ?_, ?_, ?_, E.1, ?_, ?_⟩, ⟨_, Z⟩, oC_v9 W T Z (so_un9 (by decide)) (so_un9 (by decide))⟩
  · rw [o chTape (by decide)]; exact A.1
  · rw [o chCode (by decide), o chSpare (by decide)]
    exact ⟨⟨K1.1 A2, K2.1 A3⟩, A4⟩
  · rw [o chParser (by decide), o chTape (by decide)]
    exact ⟨P.1, P.2.trans A6⟩
  · unfold chC9
    rw [o chSolver (by decide), o chAtlas (by decide), o chShown (by decide), rS soTaken (by decide), rS soAtlas (by decide), rS soWeb (by decide), Z.l (ty_soTaken W tS), hB.2.2.2 atWeb (by decide)]
    exact ⟨hS.1, C2, C3, C4⟩
  · unfold chS9
    rw [o chSolver (by decide), o chAtlas (by decide), iS soSolved (by decide), iS soPlanned (by decide), rS soVisits (by decide), rS soWorths (by decide), nv, nw.1, nw.2, hB.2.2.1]
    refine ⟨fun z => ?_, fun z => ?_⟩
    · obtain ⟨x1, P9, x2, x3⟩ := S1 z
      refine ⟨x1, P9, x2, fun n hn => ?_⟩
      have hn' := (hB.2.1 n).mp hn
      have y := x3 n hn'
      exact ⟨hS.2.2.1 n P9 hn'.2.2.1 y.1, y.2⟩
    · obtain ⟨x1, x3⟩ := S2 z
      exact ⟨x1, fun n hn => x3 n ((hB.2.1 n).mp hn)⟩
  · unfold chD9
    rw [o chSolver (by decide), o chAtlas (by decide), o chOdds (by decide), G.2.2.2.2, G.2.2.1, G.2.2.2.1, G.1 odAtlas (by decide), G.1 odSolver (by decide), G.1 odCalc (by decide), G.1 odHeld (by decide), G.1 odGroups (by decide), rS soCalc (by decide), hB.2.2.2 atStates (by decide), hB.2.2.2 atEndings (by decide)]
    exact ⟨D1, D2, ⟨G.2.1 D3.1, D3.2⟩, ⟨H.1 D4, D5⟩, D6, D7⟩
  · rw [o chTape (by decide), A.2]; exact L0
  · exact cK_z9 W T Z (o chSolver (by decide)) (o chOdds (by decide)) (fun b _ => soF_no9 (by decide)) (fun f hf => so_un9 (K := 12) (by decide) f (by rcases hf with y | y | y <;> rw [y] <;> rfl)) (Nat.le_of_eq (nE_z9 W tO Z (so_un9 (K := 9) (by decide) odEdges rfl)).symm) K0
/-- what Odds reads, where all is solved -/
theorem ch_o9 {a : Nat} {L : Int} {ρ : Nat → Nat} {κ : zS} (I : chI9 ρ κ a L) : ∃ n P, zI κ soSolved (zR κ chSolver a) ≠ 0 → odX9 ρ κ (zR κ chOdds a) n P ∧ (0 < P ∧ P < pB9 1490) ∧ atW κ (zR κ chAtlas a) n ∧ vsI9 ρ κ (zR κ chSolver a) n P ∧ n ≤ (zN κ (zR κ soVisits (zR κ chSolver a))) := by
  by_cases z : zI κ soSolved (zR κ chSolver a) = 0
  · exact ⟨0, 0, fun y => absurd z y⟩
  · obtain ⟨x1, P, x2, x3⟩ := I.2.2.2.1.1 z
    obtain ⟨⟨n, hn⟩, G⟩ := ch_x9 I x1
    have y := x3 n hn
    have D := I.2.2.2.2.1
    refine ⟨n, P, fun _ => ⟨?_, x2, hn, y.1, y.2⟩⟩
    unfold odX9
    rw [D.1.1, D.1.2.1, D.1.2.2]
    refine ⟨⟨I.2.2.1.2.2.1.1, rfl⟩, D.2.1, ⟨hn, y.2⟩, y.1, ⟨G.2, fun e => (I.2.1.2.2 x1).2 ?_⟩, G.1.2⟩
    have t := hn.2.2.2.1
    omega
theorem Ch_showsNow_c {C : zC} {n0 : Nat} {a0 : Nat} {a1 : Int32} {κ : zS} {Q : Int32 → zS → Prop} (W : zW C n0 κ) (Ta0 : zT κ a0 = 15) (ρ : Nat → Nat) (n9 P9 : Nat) (hp : zI κ soSolved (zR κ chSolver a0) ≠ 0 → odX9 ρ κ (zR κ chOdds a0) n9 P9) (h : ∀ (v : Int32), (nb v ∧ (v ≠ 0 → (¬ a1 = 12 → ¬ a1 = 11 → zI κ soSolved (zR κ chSolver a0) ≠ 0) ∧ (a1 = 11 → zI κ soPlanned (zR κ chSolver a0) ≠ 0))) → Q v κ) : zRun C 6 mCh_showsNow [.ref a0, .int a1] κ (oI Q noX) := by
  refine Ch_showsNow_run W Ta0 ?_
  replace W := W.lo (Nat.le_trans W.1.2.1 W.1.2.2) (Nat.le_refl (zn κ))
  unfold w_Ch_showsNow_0
  have tS := ty_chSolver W Ta0
  refine ⟨fun c1 => ?_, fun c1 => ?_⟩
  · skip
    refine ⟨fun c2 => ?_, fun c2 => ?_⟩
    · skip
      refine ⟨fun c3 => ?_, fun c3 => ?_⟩
      · skip
        refine ⟨fun c4 => ?_, fun c4 => ?_⟩
        · skip
          refine ⟨fun c5 => ?_, fun c5 => ?_⟩
          · skip
            refine h _ ?_
            · exact ⟨nb_1, fun _ => ⟨fun _ _ => c3, fun z => absurd z c2⟩⟩  -- q1
          · skip
            intro T6
            refine Od_weighs_c W T6 ρ n9 P9 ?_ (fun r7 q9 => ?_)
            · exact hp c3  -- p2
            intro W10
            intro M11
            refine ⟨fun c12 => ?_, fun c12 => ?_⟩
            · skip
              refine h _ ?_
              · exact ⟨nb_0, fun z => absurd rfl z⟩  -- q3
            · skip
              refine h _ ?_
              · exact ⟨nb_1, fun _ => ⟨fun _ _ => c3, fun z => absurd z c2⟩⟩  -- q4
        · skip
          intro T13
          refine Od_weighs_c W T13 ρ n9 P9 ?_ (fun r14 q16 => ?_)
          · exact hp c3  -- p5
          intro W17
          intro M18
          refine ⟨?_, h _ ?_⟩
          · exact q16  -- b6
          · exact ⟨q16, fun _ => ⟨fun _ _ => c3, fun z => absurd z c2⟩⟩  -- q7
      · skip
        refine h _ ?_
        · exact ⟨nb_0, fun z => absurd rfl z⟩  -- q8
    · skip
      refine ⟨?_, h _ ?_⟩
      · exact W.2.2.2.2.2.1 soPlanned _ (by decide) (tS.trans (by decide))  -- b9
      · exact ⟨W.2.2.2.2.2.1 soPlanned _ (by decide) (tS.trans (by decide)), fun z => ⟨fun _ y => absurd c2 y, fun _ => z⟩⟩  -- q10
  · skip
    refine ⟨?_, h _ ?_⟩
    · exact W.2.2.2.2.2.1 chPlayMade _ (by decide) (Ta0.trans (by decide))  -- b11
    · exact ⟨W.2.2.2.2.2.1 chPlayMade _ (by decide) (Ta0.trans (by decide)), fun _ => ⟨fun y => absurd c1 y, fun y => by rw [y] at c1; exact absurd c1 (by decide)⟩⟩  -- q12

theorem Ch_show_c {C : zC} {n0 : Nat} {a0 : Nat} {a1 : Int32} {a2 : Int32} {κ : zS} {Q : Int32 → zS → Prop} {X : zXp} (W : zW C n0 κ) (Ta0 : zT κ a0 = 15) (ρ : Nat → Nat) (L9 : Int) (n9 P9 : Nat) (hp : chI9 ρ κ a0 L9 ∧ (zI κ soSolved (zR κ chSolver a0) ≠ 0 → odX9 ρ κ (zR κ chOdds a0) n9 P9 ∧ (0 < P9 ∧ P9 < pB9 1490) ∧ atW κ (zR κ chAtlas a0) n9 ∧ vsI9 ρ κ (zR κ chSolver a0) n9 P9 ∧ n9 ≤ (zN κ (zR κ soVisits (zR κ chSolver a0))))) (h : ∀ (v : Int32) (κ' : zS), (chI9 ρ κ' a0 L9 ∧ (∃ F, zF F κ κ') ∧ oC9 κ' a0 = oC9 κ a0) → Q v κ') (hx : ∀ (cls : String) (κ' : zS), ((cls = "java/lang/IllegalArgumentException" ∨ cls = "java/lang/IllegalStateException" ∨ cls = "java/lang/IndexOutOfBoundsException") ∧ κ' = ut κ) → X cls κ') : zRun C 8 mCh_show [.ref a0, .int a1, .int a2] κ (oI Q X) := by
  refine Ch_show_run W Ta0 ?_
  replace W := W.lo (Nat.le_trans W.1.2.1 W.1.2.2) (Nat.le_refl (zn κ))
  unfold w_Ch_show_0
  obtain ⟨I, hX⟩ := hp
  have tS := ty_chSolver W Ta0
  have NS := I.2.2.1.1.1
  have h30 := I.2.2.1.2.2.2
  have J := ch_n9 I
  have D1 := I.2.2.2.2.1.1
  have hj156 : ∀ (l0 : Nat) (l1 : Int32) (l2 : Int32) (τ : zS), zW C (zn κ) τ → zT τ l0 = 15 → (κ = τ ∧ a0 = l0 ∧ a1 = l1 ∧ a2 = l2 ∧ zI κ soSolved (zR κ chSolver a0) ≠ 0) → w_Ch_show_156 C (zn κ) Q X  l0 l1 l2 τ := by
    rintro _ _ _ _ W156 T156_0 ⟨rfl, rfl, rfl, rfl, j156⟩
    unfold w_Ch_show_156
    intro T1
    intro T2
    refine Od_showWeight_c W156 T1 T2 ρ n9 P9 ?_ (fun κ_3 q4 => ?_)
    · have X := hX j156
      rw [D1.2.1]
      exact ⟨NS, X.1, X.2.1, h30⟩
    intro W5
    intro M6
    refine h _ _ ?_
    · rw [D1.2.1] at q4
      exact chI_n9 W Ta0 q4.1.1 (fun r z => z) ⟨q4.1.2.1, q4.1.2.2⟩ q4.2 I
  have hj90 : ∀ (l0 : Nat) (l1 : Int32) (l2 : Int32) (τ : zS), zW C (zn κ) τ → zT τ l0 = 15 → (κ = τ ∧ a0 = l0 ∧ a1 = l1 ∧ a2 = l2 ∧ ((¬ a1 = 12 → ¬ a1 = 11 → zI κ soSolved (zR κ chSolver a0) ≠ 0) ∧ (a1 = 11 → zI κ soPlanned (zR κ chSolver a0) ≠ 0)) ∧ (a1 = 8 ∨ a1 = 11 → zI κ atExplored (zR κ chAtlas a0) ≠ 0 ∧ 0 ≤ a2.toInt ∧ a2.toInt < (zI κ hoTotal (zR κ atStates (zR κ chAtlas a0))).toInt)) → w_Ch_show_90 C (zn κ) Q X  l0 l1 l2 τ := by
    rintro _ _ _ _ W90 T90_0 ⟨rfl, rfl, rfl, rfl, j90⟩
    unfold w_Ch_show_90
    refine ⟨fun c7 => ?_, fun c7 => ?_⟩
    · skip
      refine ⟨fun c8 => ?_, fun c8 => ?_⟩
      · skip
        refine ⟨fun c9 => ?_, fun c9 => ?_⟩
        · skip
          refine hj156 _ _ _ _ W90 ?_ ?_
          · exact Ta0  -- t3
          · exact ⟨rfl, rfl, rfl, rfl, j90.1.1 c7 c8⟩  -- k4
        · skip
          refine ⟨fun c10 => ?_, fun c10 => ?_⟩
          · skip
            refine hj156 _ _ _ _ W90 ?_ ?_
            · exact Ta0  -- t5
            · exact ⟨rfl, rfl, rfl, rfl, j90.1.1 c7 c8⟩  -- k6
          · skip
            intro T11
            intro T12
            refine So_showVisits_c W90 T11 T12 ρ n9 P9 ?_ (fun κ_13 q14 => ?_)
            · have X := hX (j90.1.1 c7 c8)
              refine ⟨NS, ⟨by rw [I.2.2.1.2.2.1.1]; exact X.2.2.1, X.2.2.2.2⟩, X.2.2.2.1, X.2.1, h30, fun z => ?_⟩
              have y := j90.2 (Or.inl z)
              have t := X.2.2.1.2.2.2.1
              exact ⟨y.2.1, by omega⟩
            intro W15
            intro M16
            refine h _ _ ?_
            · refine chI_n9 W Ta0 q14.1.1 (fun r z => z) ⟨q14.1.2.1, q14.1.2.2⟩ ?_ I
              rcases q14.2 with y | y
              · exact y
              · rw [y]; exact I.2.2.1.1.2.2.2.2.2.2
      · skip
        have H11 : zI κ soPlanned (zR κ chSolver a0) ≠ 0 → (zI κ atExplored (zR κ chAtlas a0) ≠ 0 ∧ 0 ≤ a2.toInt ∧ a2.toInt < (zI κ hoTotal (zR κ atStates (zR κ chAtlas a0))).toInt) → (a2.toInt < (zN κ (zR κ soWorths (zR κ chSolver a0))) ∧ a2.toNatClampNeg < 1000) ∧ ∃ u, zQ κ (zR κ soWorths (zR κ chSolver a0)) a2.toNatClampNeg = some u := fun y1 y2 => by
          obtain ⟨x1, x3⟩ := I.2.2.2.1.2 y1
          obtain ⟨⟨n, hn⟩, _⟩ := ch_x9 I x1
          have t := hn.2.2.2.1
          have t3 := hn.2.2.1
          have k := cnk y2.2.1
          have z := x3 n hn
          exact ⟨⟨by omega, by omega⟩, z.2 _ (by omega)⟩
        refine ⟨?_, ?_⟩
        · have y2 := j90.2 (Or.inr c8)
          have H := H11 (j90.1.2 c8) y2
          rw [inb_iff]
          exact ⟨y2.2.1, H.1.1⟩
        refine ex_some ?_ (fun u17 hu17 => ?_)
        · exact (H11 (j90.1.2 c8) (j90.2 (Or.inr c8))).2  -- e10
        intro T18
        intro T19
        have hw := I.2.2.1.1.2.2.2.2.1.1 _ u17 (H11 (j90.1.2 c8) (j90.2 (Or.inr c8))).1.2 hu17
        have hr : raR (104 + 8 * a2.toNatClampNeg) := Or.inr (Or.inr ⟨by omega, by have := (H11 (j90.1.2 c8) (j90.2 (Or.inr c8))).1.2; omega, by omega⟩)
        have q := NS.1.2 u17 (by rw [hw]; exact hr)
        rw [hw] at q
        have q30 := ra_t9 NS.1 h30 (Or.inr rfl)
        have g1 := nm_g NS.1 q.2.1 (raR_n hr).1 (by omega)
        have g2 := nm_g NS.1 q.2.2 (raR_n hr).2 (by omega)
        have c1 : capR (104 + 8 * a2.toNatClampNeg + 1) = 20 := by
          have := (H11 (j90.1.2 c8) (j90.2 (Or.inr c8))).1.2
          unfold capR
          rw [if_neg (by omega), if_pos (by omega)]
        have c2 : capR (104 + 8 * a2.toNatClampNeg + 2) = 20 := by
          have := (H11 (j90.1.2 c8) (j90.2 (Or.inr c8))).1.2
          unfold capR
          rw [if_neg (by omega), if_pos (by omega)]
        rw [c1] at g1
        rw [c2] at g2
        have k1 := nuK_c9 g1.1
        have k2 := nuK_c9 g2.1
        refine Ra_copy_c W90 T18 T19 6500 ?_ (fun κ_20 q21 => ?_)
        · refine ⟨q30.2.1, ⟨g1.2.1, g2.2.1, ro_n q.2.1 q.2.2 (by omega)⟩, ⟨ro_n q30.1.1 q.2.1 (by omega), ro_n q30.1.1 q.2.2 (by omega), ro_n q30.1.2 q.2.1 (by omega), ro_n q30.1.2 q.2.2 (by omega)⟩, ⟨by omega, by omega⟩, by decide⟩  -- p11
        intro W22
        intro M23
        refine h _ _ ?_
        · have rt := raF_r q21.1 (f := raTop) (x := zR κ chShown a0) (by decide) (by decide) (by decide)
          have rb := raF_r q21.1 (f := raBottom) (x := zR κ chShown a0) (by decide) (by decide) (by decide)
          have y := q21.2.1
          unfold raJ at y
          rw [rt, rb] at y
          have M := nm_ra W tS NS.1 NS.2 h30 (Or.inr (Or.inl rfl)) q21.1 y.1 y.2.1
          have tl := ty_soLess W tS
          have l8 : ρ (zR κ soLess (zR κ chSolver a0)) = 8 := NS.2.1.2.2.2.2.2.1
          have nl := (soF_B (c := 0) W tl (M.2 0) (by rw [l8]; decide)).2.1
          exact chI_n9 W Ta0 (M.2 0) (fun r z => by rcases z with z | z | z <;> omega) M.1 (by rw [nl]; exact I.2.2.1.1.2.2.2.2.2.2) I
    · skip
      intro T24
      refine Ch_showPlay_c W90 T24  ?_ (fun κ_25 q26 => ?_)
      · exact ⟨(ra_t9 NS.1 h30 (Or.inr rfl)).2.1, I.2.2.2.2.2.1.2.2.2.2, I.2.2.2.2.2.1.2.1.1⟩  -- p13
      intro W27
      intro M28
      refine h _ _ ?_
      · have rt := raF_r q26.1 (f := raTop) (x := zR κ chShown a0) (by decide) (by decide) (by decide)
        have rb := raF_r q26.1 (f := raBottom) (x := zR κ chShown a0) (by decide) (by decide) (by decide)
        have y := q26.2
        unfold raJ at y
        rw [rt, rb] at y
        have M := nm_ra W tS NS.1 NS.2 h30 (Or.inr (Or.inl rfl)) q26.1 y.1 y.2.1
        have tl := ty_soLess W tS
        have l8 : ρ (zR κ soLess (zR κ chSolver a0)) = 8 := NS.2.1.2.2.2.2.2.1
        have nl := (soF_B (c := 0) W tl (M.2 0) (by rw [l8]; decide)).2.1
        exact chI_n9 W Ta0 (M.2 0) (fun r z => by rcases z with z | z | z <;> omega) M.1 (by rw [nl]; exact I.2.2.1.1.2.2.2.2.2.2) I
  have hj68 : ∀ (l0 : Nat) (l1 : Int32) (l2 : Int32) (τ : zS), zW C (zn κ) τ → zT τ l0 = 15 → (κ = τ ∧ a0 = l0 ∧ a1 = l1 ∧ a2 = l2 ∧ ((¬ a1 = 12 → ¬ a1 = 11 → zI κ soSolved (zR κ chSolver a0) ≠ 0) ∧ (a1 = 11 → zI κ soPlanned (zR κ chSolver a0) ≠ 0))) → w_Ch_show_68 C (zn κ) Q X  l0 l1 l2 τ := by
    rintro _ _ _ _ W68 T68_0 ⟨rfl, rfl, rfl, rfl, j68⟩
    unfold w_Ch_show_68
    intro T29
    refine At_holds_c W68 T29  (fun r30 q32 => ?_)
    intro W33
    intro M34
    refine ⟨fun c35 => ?_, fun c35 => ?_⟩
    · skip
      refine hj90 _ _ _ _ W33 ?_ ?_
      · exact Ta0  -- t15
      · exact ⟨rfl, rfl, rfl, rfl, j68, fun _ => q32.2 c35⟩  -- k16
    · skip
      intro κ_36 hκ_36
      refine hx _ _ ?_
      · exact ⟨Or.inr (Or.inr rfl), hκ_36⟩  -- x17
  have hj56 : ∀ (l0 : Nat) (l1 : Int32) (l2 : Int32) (τ : zS), zW C (zn κ) τ → zT τ l0 = 15 → (κ = τ ∧ a0 = l0 ∧ a1 = l1 ∧ a2 = l2 ∧ ((¬ a1 = 12 → ¬ a1 = 11 → zI κ soSolved (zR κ chSolver a0) ≠ 0) ∧ (a1 = 11 → zI κ soPlanned (zR κ chSolver a0) ≠ 0))) → w_Ch_show_56 C (zn κ) Q X  l0 l1 l2 τ := by
    rintro _ _ _ _ W56 T56_0 ⟨rfl, rfl, rfl, rfl, j56⟩
    unfold w_Ch_show_56
    refine ⟨fun c37 => ?_, fun c37 => ?_⟩
    · skip
      refine hj68 _ _ _ _ W56 ?_ ?_
      · exact Ta0  -- t18
      · exact ⟨rfl, rfl, rfl, rfl, j56⟩  -- k19
    · skip
      refine ⟨fun c38 => ?_, fun c38 => ?_⟩
      · skip
        refine hj90 _ _ _ _ W56 ?_ ?_
        · exact Ta0  -- t20
        · exact ⟨rfl, rfl, rfl, rfl, j56, fun z => z.elim (fun y => absurd y c37) (fun y => absurd y c38)⟩  -- k21
      · skip
        refine hj68 _ _ _ _ W56 ?_ ?_
        · exact Ta0  -- t22
        · exact ⟨rfl, rfl, rfl, rfl, j56⟩  -- k23
  refine ⟨fun c39 => ?_, fun c39 => ?_⟩
  · skip
    intro κ_40 hκ_40
    refine hx _ _ ?_
    · exact ⟨Or.inl rfl, hκ_40⟩  -- x24
  · skip
    refine ⟨fun c41 => ?_, fun c41 => ?_⟩
    · skip
      intro T42
      refine Ch_showsNow_c W T42 ρ n9 P9 ?_ (fun r43 q45 => ?_)
      · exact fun z => (hX z).1  -- p25
      intro W46
      intro M47
      refine ⟨fun c48 => ?_, fun c48 => ?_⟩
      · skip
        refine ⟨fun c49 => ?_, fun c49 => ?_⟩
        · skip
          refine hj56 _ _ _ _ W46 ?_ ?_
          · exact Ta0  -- t26
          · exact ⟨rfl, rfl, rfl, rfl, q45.2 c48⟩  -- k27
        · skip
          intro T50
          refine At_holdsEnding_c W46 T50  (fun r51 q53 => ?_)
          intro W54
          intro M55
          refine ⟨fun c56 => ?_, fun c56 => ?_⟩
          · skip
            intro κ_57 hκ_57
            refine hx _ _ ?_
            · exact ⟨Or.inr (Or.inr rfl), hκ_57⟩  -- x28
          · skip
            refine hj56 _ _ _ _ W54 ?_ ?_
            · exact Ta0  -- t29
            · exact ⟨rfl, rfl, rfl, rfl, q45.2 c48⟩  -- k30
      · skip
        intro κ_58 hκ_58
        refine hx _ _ ?_
        · exact ⟨Or.inr (Or.inl rfl), hκ_58⟩  -- x31
    · skip
      intro κ_59 hκ_59
      refine hx _ _ ?_
      · exact ⟨Or.inl rfl, hκ_59⟩  -- x32
