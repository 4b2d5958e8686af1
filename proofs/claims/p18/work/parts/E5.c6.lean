section
set_option maxHeartbeats 1600000
/-! the class: ChanceWorks' showsNow, show -/
theorem so_un9 {ρ : Nat → Nat} {R : Nat → Prop} {ca x K : Nat} (hK : K ≠ 8 ∧ K ≠ 11 ∧ K ≠ 4) : un9 (soF ρ R ca) x K := fun f hf z => by
  rcases z with ⟨_, z | z | z⟩ | ⟨_, z | z | z | z⟩
  · rw [z] at hf; exact hK.1 hf.symm
  · rw [z] at hf; exact hK.1 hf.symm
  · rw [z] at hf; exact hK.2.1 hf.symm
  · rw [z] at hf; exact hK.2.2 hf.symm
  · rw [z] at hf; exact hK.2.2 hf.symm
  · rw [z] at hf; exact hK.2.2 hf.symm
  · rw [z] at hf; exact hK.2.2 hf.symm
/-- a call that works with numbers of small roles alone -/
theorem chI_n9 {C : zC} {n0 a ca : Nat} {L : Int} {ρ : Nat → Nat} {R : Nat → Prop} {κ τ : zS} (W : zW C n0 κ) (T : zT κ a = 15) (Z : zF (soF ρ R ca) κ τ) (hR : ∀ r, R r → r < 100) (N : nmI ρ τ ∧ soI ρ τ (zR κ chSolver a)) (hl : nuN τ (zR κ soLess (zR κ chSolver a)) < pB9 4000) (I : chI9 ρ κ a L) : chI9 ρ τ a L ∧ (∃ F, zF F κ τ) ∧ zI τ chTolds a = zI κ chTolds a := by
  obtain ⟨⟨A1, ⟨⟨A2, A3⟩, A4⟩, A5, A6⟩, B, ⟨C1, C2, C3, C4⟩, ⟨S1, S2⟩, ⟨D1, D2, D3, ⟨D4, D5⟩, D6, D7⟩, E0, L0, K0⟩ := I
  have tA := ty_chAtlas W T
  have tS := ty_chSolver W T
  have tO := ty_chOdds W T
  have tm := ty_chMachine W T
  have E := chE_u9 W T Z (so_un9 (by decide)) E0
  have o := E.2.1
  have ma : maL κ (zR κ chMachine a) := by
    have y := B.1.2.1
    rw [B.2.1] at y
    exact y
  have hB := chB_u9 W T Z (fun f hf _ _ => o f hf) (so_un9 (by decide)) (so_un9 (by decide)) (so_un9 (by decide)) (so_un9 (by decide)) (fun _ => so_un9 (by decide)) (ma_u9 Z W tm (so_un9 (by decide)) ma) B
  have hS := pw_r9 W tS C1 (Z.mono (fun f b z => (Or.inl z : pwF9 ρ R ca (zR κ chSolver a) f b))) (fun r z => Or.inl (hR r z)) N hl
  have P := pa_u9 Z W (ty_chParser W T) (so_un9 (by decide)) A5
  have K1 := co_u9 Z W (ty_chCode W T) (so_un9 (by decide))
  have K2 := co_u9 Z W (ty_chSpare W T) (so_un9 (by decide))
  have G := odd_u9 Z W tO (so_un9 (by decide))
  have H := ho_u9 (M := 3000) (D := 3) (S := 8192) Z W (ty_odGroups W tO) (so_un9 (by decide))
  have A := ta_u9 Z W (ty_chTape W T) (so_un9 (by decide)) A1
  have rS : ∀ f, f / 100 = 12 → zR τ f (zR κ chSolver a) = zR κ f (zR κ chSolver a) := fun f hf => Z.r (so_un9 (by decide) f hf)
  have iS : ∀ f, f / 100 = 12 → zI τ f (zR κ chSolver a) = zI κ f (zR κ chSolver a) := fun f hf => Z.i (so_un9 (by decide) f hf)
  have nv : zN τ (zR κ soVisits (zR κ chSolver a)) = zN κ (zR κ soVisits (zR κ chSolver a)) := Z.l (ty_soVisits W tS)
  have nw := hS.2.2.2
  rw [rS soWorths (by decide)] at nw
  refine ⟨⟨⟨?_, ?_, ?_⟩, hB.1, ?_, ?_, ?_, E.1, ?_, ?_⟩, ⟨_, Z⟩, E.2.2⟩
  · rw [o chTape (by decide)]; exact A.1
  · rw [o chCode (by decide), o chSpare (by decide)]
    exact ⟨⟨K1.1 A2, K2.1 A3⟩, A4⟩
  · rw [o chParser (by decide), o chTape (by decide)]
    exact ⟨P.1, P.2.trans A6⟩
  · unfold chC9
    rw [o chSolver (by decide), o chAtlas (by decide), o chShown (by decide), rS soTaken (by decide), rS soAtlas (by decide), rS soWeb (by decide), Z.l (ty_soTaken W tS), hB.2.2.2 atWeb (by decide)]
    exact ⟨hS.1, C2, C3, C4⟩
  · unfold chS9
    rw [o chSolver (by decide), o chAtlas (by decide), iS soSolved (by decide), iS soPlanned (by decide), rS soVisits (by decide), rS soWorths (by decide), nv, nw.1, nw.2, hB.2.2.1]
    refine ⟨fun z => ?_, fun z => ?_⟩
    · obtain ⟨x1, P9, x2, x3⟩ := S1 z
      refine ⟨x1, P9, x2, fun n hn => ?_⟩
      have hn' := (hB.2.1 n).mp hn
      have y := x3 n hn'
      exact ⟨hS.2.2.1 n P9 hn'.2.2.1 y.1, y.2⟩
    · obtain ⟨x1, x3⟩ := S2 z
      exact ⟨x1, fun n hn => x3 n ((hB.2.1 n).mp hn)⟩
  · unfold chD9
    rw [o chSolver (by decide), o chAtlas (by decide), o chOdds (by decide), G.2.2.2.2, G.2.2.1, G.2.2.2.1, G.1 odAtlas (by decide), G.1 odSolver (by decide), G.1 odCalc (by decide), G.1 odHeld (by decide), G.1 odGroups (by decide), rS soCalc (by decide), hB.2.2.2 atStates (by decide), hB.2.2.2 atEndings (by decide)]
    exact ⟨D1, D2, ⟨G.2.1 D3.1, D3.2⟩, ⟨H.1 D4, D5⟩, D6, D7⟩
  · rw [o chTape (by decide), A.2]; exact L0
  · exact cK_z9 W T Z (o chSolver (by decide)) (o chOdds (by decide)) (fun b _ => soF_no9 (by decide)) (fun f hf => so_un9 (K := 12) (by decide) f (by rcases hf with y | y | y <;> rw [y] <;> rfl)) (Nat.le_of_eq (nE_z9 W tO Z (so_un9 (K := 9) (by decide) odEdges rfl)).symm) K0
/-- what Odds reads, where all is solved -/
theorem ch_o9 {a : Nat} {L : Int} {ρ : Nat → Nat} {κ : zS} (I : chI9 ρ κ a L) : ∃ n P, zI κ soSolved (zR κ chSolver a) ≠ 0 → odX9 ρ κ (zR κ chOdds a) n P ∧ (0 < P ∧ P < pB9 1490) ∧ atW κ (zR κ chAtlas a) n ∧ vsI9 ρ κ (zR κ chSolver a) n P ∧ n ≤ (zN κ (zR κ soVisits (zR κ chSolver a))) := by
  by_cases z : zI κ soSolved (zR κ chSolver a) = 0
  · exact ⟨0, 0, fun y => absurd z y⟩
  · obtain ⟨x1, P, x2, x3⟩ := I.2.2.2.1.1 z
    obtain ⟨⟨n, hn⟩, G⟩ := ch_x9 I x1
    have y := x3 n hn
    have D := I.2.2.2.2.1
    refine ⟨n, P, fun _ => ⟨?_, x2, hn, y.1, y.2⟩⟩
    unfold odX9
    rw [D.1.1, D.1.2.1, D.1.2.2]
    refine ⟨⟨I.2.2.1.2.2.1.1, rfl⟩, D.2.1, ⟨hn, y.2⟩, y.1, ⟨G.2, fun e => (I.2.1.2.2 x1).2 ?_⟩, G.1.2⟩
    have t := hn.2.2.2.1
    omega
theorem Ch_showsNow_c {C : zC} {n0 : Nat} {a0 : Nat} {a1 : Int32} {κ : zS} {Q : Int32 → zS → Prop} (W : zW C n0 κ) (Ta0 : zT κ a0 = 15) (ρ : Nat → Nat) (n9 P9 : Nat) (hp : zI κ soSolved (zR κ chSolver a0) ≠ 0 → odX9 ρ κ (zR κ chOdds a0) n9 P9) (h : ∀ (v : Int32), (nb v ∧ (v ≠ 0 → (¬ a1 = 12 → ¬ a1 = 11 → zI κ soSolved (zR κ chSolver a0) ≠ 0) ∧ (a1 = 11 → zI κ soPlanned (zR κ chSolver a0) ≠ 0))) → Q v κ) : zRun C 6 mCh_showsNow [.ref a0, .int a1] κ (oI Q noX) := by
  refine Ch_showsNow_run W Ta0 ?_
  replace W := W.lo (Nat.le_trans W.1.2.1 W.1.2.2) (Nat.le_refl (zn κ))
  unfold w_Ch_showsNow_0
  have tS := ty_chSolver W Ta0
  refine ⟨fun c1 => ?_, fun c1 => ?_⟩
  · skip
    refine ⟨fun c2 => ?_, fun c2 => ?_⟩
    · skip
      refine ⟨fun c3 => ?_, fun c3 => ?_⟩
      · skip
        refine ⟨fun c4 => ?_, fun c4 => ?_⟩
        · skip
          refine ⟨fun c5 => ?_, fun c5 => ?_⟩
          · skip
            refine h _ ?_
            · exact ⟨nb_1, fun _ => ⟨fun _ _ => c3, fun z => absurd z c2⟩⟩  -- q1
          · skip
            intro T6
            refine Od_weighs_c W T6 ρ n9 P9 ?_ (fun r7 q9 => ?_)
            · exact hp c3  -- p2
            intro W10
            intro M11
            refine ⟨fun c12 => ?_, fun c12 => ?_⟩
            · skip
              refine h _ ?_
              · exact ⟨nb_0, fun z => absurd rfl z⟩  -- q3
            · skip
              refine h _ ?_
              · exact ⟨nb_1, fun _ => ⟨fun _ _ => c3, fun z => absurd z c2⟩⟩  -- q4
        · skip
          intro T13
          refine Od_weighs_c W T13 ρ n9 P9 ?_ (fun r14 q16 => ?_)
          · exact hp c3  -- p5
          intro W17
          intro M18
          refine ⟨?_, h _ ?_⟩
          · exact q16  -- b6
          · exact ⟨q16, fun _ => ⟨fun _ _ => c3, fun z => absurd z c2⟩⟩  -- q7
      · skip
        refine h _ ?_
        · exact ⟨nb_0, fun z => absurd rfl z⟩  -- q8
    · skip
      refine ⟨?_, h _ ?_⟩
      · exact W.2.2.2.2.2.1 soPlanned _ (by decide) (tS.trans (by decide))  -- b9
      · exact ⟨W.2.2.2.2.2.1 soPlanned _ (by decide) (tS.trans (by decide)), fun z => ⟨fun _ y => absurd c2 y, fun _ => z⟩⟩  -- q10
  · skip
    refine ⟨?_, h _ ?_⟩
    · exact W.2.2.2.2.2.1 chPlayMade _ (by decide) (Ta0.trans (by decide))  -- b11
    · exact ⟨W.2.2.2.2.2.1 chPlayMade _ (by decide) (Ta0.trans (by decide)), fun _ => ⟨fun y => absurd c1 y, fun y => by rw [y] at c1; exact absurd c1 (by decide)⟩⟩  -- q12

theorem Ch_show_c {C : zC} {n0 : Nat} {a0 : Nat} {a1 : Int32} {a2 : Int32} {κ : zS} {Q : Int32 → zS → Prop} {X : zXp} (W : zW C n0 κ) (Ta0 : zT κ a0 = 15) (ρ : Nat → Nat) (L9 : Int) (n9 P9 : Nat) (hp : chI9 ρ κ a0 L9 ∧ (zI κ soSolved (zR κ chSolver a0) ≠ 0 → odX9 ρ κ (zR κ chOdds a0) n9 P9 ∧ (0 < P9 ∧ P9 < pB9 1490) ∧ atW κ (zR κ chAtlas a0) n9 ∧ vsI9 ρ κ (zR κ chSolver a0) n9 P9 ∧ n9 ≤ (zN κ (zR κ soVisits (zR κ chSolver a0))))) (h : ∀ (v : Int32) (κ' : zS), (chI9 ρ κ' a0 L9 ∧ (∃ F, zF F κ κ') ∧ zI κ' chTolds a0 = zI κ chTolds a0) → Q v κ') (hx : ∀ (cls : String) (κ' : zS), ((cls = "java/lang/IllegalArgumentException" ∨ cls = "java/lang/IllegalStateException" ∨ cls = "java/lang/IndexOutOfBoundsException") ∧ κ' = ut κ) → X cls κ') : zRun C 8 mCh_show [.ref a0, .int a1, .int a2] κ (oI Q X) := by
  refine Ch_show_run W Ta0 ?_
  replace W := W.lo (Nat.le_trans W.1.2.1 W.1.2.2) (Nat.le_refl (zn κ))
  unfold w_Ch_show_0
  obtain ⟨I, hX⟩ := hp
  have tS := ty_chSolver W Ta0
  have NS := I.2.2.1.1.1
  have h30 := I.2.2.1.2.2.2
  have J := ch_n9 I
  have D1 := I.2.2.2.2.1.1
  have hj156 : ∀ (l0 : Nat) (l1 : Int32) (l2 : Int32) (τ : zS), zW C (zn κ) τ → zT τ l0 = 15 → (κ = τ ∧ a0 = l0 ∧ a1 = l1 ∧ a2 = l2 ∧ zI κ soSolved (zR κ chSolver a0) ≠ 0) → w_Ch_show_156 C (zn κ) Q X  l0 l1 l2 τ := by
    rintro _ _ _ _ W156 T156_0 ⟨rfl, rfl, rfl, rfl, j156⟩
    unfold w_Ch_show_156
    intro T1
    intro T2
    refine Od_showWeight_c W156 T1 T2 ρ n9 P9 ?_ (fun κ_3 q4 => ?_)
    · have X := hX j156
      rw [D1.2.1]
      exact ⟨NS, X.1, X.2.1, h30⟩
    intro W5
    intro M6
    refine h _ _ ?_
    · rw [D1.2.1] at q4
      exact chI_n9 W Ta0 q4.1.1 (fun r z => z) ⟨q4.1.2.1, q4.1.2.2⟩ q4.2 I
  have hj90 : ∀ (l0 : Nat) (l1 : Int32) (l2 : Int32) (τ : zS), zW C (zn κ) τ → zT τ l0 = 15 → (κ = τ ∧ a0 = l0 ∧ a1 = l1 ∧ a2 = l2 ∧ ((¬ a1 = 12 → ¬ a1 = 11 → zI κ soSolved (zR κ chSolver a0) ≠ 0) ∧ (a1 = 11 → zI κ soPlanned (zR κ chSolver a0) ≠ 0)) ∧ (a1 = 8 ∨ a1 = 11 → zI κ atExplored (zR κ chAtlas a0) ≠ 0 ∧ 0 ≤ a2.toInt ∧ a2.toInt < (zI κ hoTotal (zR κ atStates (zR κ chAtlas a0))).toInt)) → w_Ch_show_90 C (zn κ) Q X  l0 l1 l2 τ := by
    rintro _ _ _ _ W90 T90_0 ⟨rfl, rfl, rfl, rfl, j90⟩
    unfold w_Ch_show_90
    refine ⟨fun c7 => ?_, fun c7 => ?_⟩
    · skip
      refine ⟨fun c8 => ?_, fun c8 => ?_⟩
      · skip
        refine ⟨fun c9 => ?_, fun c9 => ?_⟩
        · skip
          refine hj156 _ _ _ _ W90 ?_ ?_
          · exact Ta0  -- t3
          · exact ⟨rfl, rfl, rfl, rfl, j90.1.1 c7 c8⟩  -- k4
        · skip
          refine ⟨fun c10 => ?_, fun c10 => ?_⟩
          · skip
            refine hj156 _ _ _ _ W90 ?_ ?_
            · exact Ta0  -- t5
            · exact ⟨rfl, rfl, rfl, rfl, j90.1.1 c7 c8⟩  -- k6
          · skip
            intro T11
            intro T12
            refine So_showVisits_c W90 T11 T12 ρ n9 P9 ?_ (fun κ_13 q14 => ?_)
            · have X := hX (j90.1.1 c7 c8)
              refine ⟨NS, ⟨by rw [I.2.2.1.2.2.1.1]; exact X.2.2.1, X.2.2.2.2⟩, X.2.2.2.1, X.2.1, h30, fun z => ?_⟩
              have y := j90.2 (Or.inl z)
              have t := X.2.2.1.2.2.2.1
              exact ⟨y.2.1, by omega⟩
            intro W15
            intro M16
            refine h _ _ ?_
            · refine chI_n9 W Ta0 q14.1.1 (fun r z => z) ⟨q14.1.2.1, q14.1.2.2⟩ ?_ I
              rcases q14.2 with y | y
              · exact y
              · rw [y]; exact I.2.2.1.1.2.2.2.2.2.2
      · skip
        have H11 : zI κ soPlanned (zR κ chSolver a0) ≠ 0 → (zI κ atExplored (zR κ chAtlas a0) ≠ 0 ∧ 0 ≤ a2.toInt ∧ a2.toInt < (zI κ hoTotal (zR κ atStates (zR κ chAtlas a0))).toInt) → (a2.toInt < (zN κ (zR κ soWorths (zR κ chSolver a0))) ∧ a2.toNatClampNeg < 1000) ∧ ∃ u, zQ κ (zR κ soWorths (zR κ chSolver a0)) a2.toNatClampNeg = some u := fun y1 y2 => by
          obtain ⟨x1, x3⟩ := I.2.2.2.1.2 y1
          obtain ⟨⟨n, hn⟩, _⟩ := ch_x9 I x1
          have t := hn.2.2.2.1
          have t3 := hn.2.2.1
          have k := cnk y2.2.1
          have z := x3 n hn
          exact ⟨⟨by omega, by omega⟩, z.2 _ (by omega)⟩
        refine ⟨?_, ?_⟩
        · have y2 := j90.2 (Or.inr c8)
          have H := H11 (j90.1.2 c8) y2
          rw [inb_iff]
          exact ⟨y2.2.1, H.1.1⟩
        refine ex_some ?_ (fun u17 hu17 => ?_)
        · exact (H11 (j90.1.2 c8) (j90.2 (Or.inr c8))).2  -- e10
        intro T18
        intro T19
        have hw := I.2.2.1.1.2.2.2.2.1.1 _ u17 (H11 (j90.1.2 c8) (j90.2 (Or.inr c8))).1.2 hu17
        have hr : raR (104 + 8 * a2.toNatClampNeg) := Or.inr (Or.inr ⟨by omega, by have := (H11 (j90.1.2 c8) (j90.2 (Or.inr c8))).1.2; omega, by omega⟩)
        have q := NS.1.2 u17 (by rw [hw]; exact hr)
        rw [hw] at q
        have q30 := ra_t9 NS.1 h30 (Or.inr rfl)
        have g1 := nm_g NS.1 q.2.1 (raR_n hr).1 (by omega)
        have g2 := nm_g NS.1 q.2.2 (raR_n hr).2 (by omega)
        have c1 : capR (104 + 8 * a2.toNatClampNeg + 1) = 20 := by
          have := (H11 (j90.1.2 c8) (j90.2 (Or.inr c8))).1.2
          unfold capR
          rw [if_neg (by omega), if_pos (by omega)]
        have c2 : capR (104 + 8 * a2.toNatClampNeg + 2) = 20 := by
          have := (H11 (j90.1.2 c8) (j90.2 (Or.inr c8))).1.2
          unfold capR
          rw [if_neg (by omega), if_pos (by omega)]
        rw [c1] at g1
        rw [c2] at g2
        have k1 := nuK_c9 g1.1
        have k2 := nuK_c9 g2.1
        refine Ra_copy_c W90 T18 T19 6500 ?_ (fun κ_20 q21 => ?_)
        · refine ⟨q30.2.1, ⟨g1.2.1, g2.2.1, ro_n q.2.1 q.2.2 (by omega)⟩, ⟨ro_n q30.1.1 q.2.1 (by omega), ro_n q30.1.1 q.2.2 (by omega), ro_n q30.1.2 q.2.1 (by omega), ro_n q30.1.2 q.2.2 (by omega)⟩, ⟨by omega, by omega⟩, by decide⟩  -- p11
        intro W22
        intro M23
        refine h _ _ ?_
        · have rt := raF_r q21.1 (f := raTop) (x := zR κ chShown a0) (by decide) (by decide) (by decide)
          have rb := raF_r q21.1 (f := raBottom) (x := zR κ chShown a0) (by decide) (by decide) (by decide)
          have y := q21.2.1
          unfold raJ at y
          rw [rt, rb] at y
          have M := nm_ra W tS NS.1 NS.2 h30 (Or.inr (Or.inl rfl)) q21.1 y.1 y.2.1
          have tl := ty_soLess W tS
          have l8 : ρ (zR κ soLess (zR κ chSolver a0)) = 8 := NS.2.1.2.2.2.2.2.1
          have nl := (soF_B (c := 0) W tl (M.2 0) (by rw [l8]; decide)).2.1
          exact chI_n9 W Ta0 (M.2 0) (fun r z => by rcases z with z | z | z <;> omega) M.1 (by rw [nl]; exact I.2.2.1.1.2.2.2.2.2.2) I
    · skip
      intro T24
      refine Ch_showPlay_c W90 T24  ?_ (fun κ_25 q26 => ?_)
      · exact ⟨(ra_t9 NS.1 h30 (Or.inr rfl)).2.1, I.2.2.2.2.2.1.2.2.2.2, I.2.2.2.2.2.1.2.1.1⟩  -- p13
      intro W27
      intro M28
      refine h _ _ ?_
      · have rt := raF_r q26.1 (f := raTop) (x := zR κ chShown a0) (by decide) (by decide) (by decide)
        have rb := raF_r q26.1 (f := raBottom) (x := zR κ chShown a0) (by decide) (by decide) (by decide)
        have y := q26.2
        unfold raJ at y
        rw [rt, rb] at y
        have M := nm_ra W tS NS.1 NS.2 h30 (Or.inr (Or.inl rfl)) q26.1 y.1 y.2.1
        have tl := ty_soLess W tS
        have l8 : ρ (zR κ soLess (zR κ chSolver a0)) = 8 := NS.2.1.2.2.2.2.2.1
        have nl := (soF_B (c := 0) W tl (M.2 0) (by rw [l8]; decide)).2.1
        exact chI_n9 W Ta0 (M.2 0) (fun r z => by rcases z with z | z | z <;> omega) M.1 (by rw [nl]; exact I.2.2.1.1.2.2.2.2.2.2) I
  have hj68 : ∀ (l0 : Nat) (l1 : Int32) (l2 : Int32) (τ : zS), zW C (zn κ) τ → zT τ l0 = 15 → (κ = τ ∧ a0 = l0 ∧ a1 = l1 ∧ a2 = l2 ∧ ((¬ a1 = 12 → ¬ a1 = 11 → zI κ soSolved (zR κ chSolver a0) ≠ 0) ∧ (a1 = 11 → zI κ soPlanned (zR κ chSolver a0) ≠ 0))) → w_Ch_show_68 C (zn κ) Q X  l0 l1 l2 τ := by
    rintro _ _ _ _ W68 T68_0 ⟨rfl, rfl, rfl, rfl, j68⟩
    unfold w_Ch_show_68
    intro T29
    refine At_holds_c W68 T29  (fun r30 q32 => ?_)
    intro W33
    intro M34
    refine ⟨fun c35 => ?_, fun c35 => ?_⟩
    · skip
      refine hj90 _ _ _ _ W33 ?_ ?_
      · exact Ta0  -- t15
      · exact ⟨rfl, rfl, rfl, rfl, j68, fun _ => q32.2 c35⟩  -- k16
    · skip
      intro κ_36 hκ_36
      refine hx _ _ ?_
      · exact ⟨Or.inr (Or.inr rfl), hκ_36⟩  -- x17
  have hj56 : ∀ (l0 : Nat) (l1 : Int32) (l2 : Int32) (τ : zS), zW C (zn κ) τ → zT τ l0 = 15 → (κ = τ ∧ a0 = l0 ∧ a1 = l1 ∧ a2 = l2 ∧ ((¬ a1 = 12 → ¬ a1 = 11 → zI κ soSolved (zR κ chSolver a0) ≠ 0) ∧ (a1 = 11 → zI κ soPlanned (zR κ chSolver a0) ≠ 0))) → w_Ch_show_56 C (zn κ) Q X  l0 l1 l2 τ := by
    rintro _ _ _ _ W56 T56_0 ⟨rfl, rfl, rfl, rfl, j56⟩
    unfold w_Ch_show_56
    refine ⟨fun c37 => ?_, fun c37 => ?_⟩
    · skip
      refine hj68 _ _ _ _ W56 ?_ ?_
      · exact Ta0  -- t18
      · exact ⟨rfl, rfl, rfl, rfl, j56⟩  -- k19
    · skip
      refine ⟨fun c38 => ?_, fun c38 => ?_⟩
      · skip
        refine hj90 _ _ _ _ W56 ?_ ?_
        · exact Ta0  -- t20
        · exact ⟨rfl, rfl, rfl, rfl, j56, fun z => z.elim (fun y => absurd y c37) (fun y => absurd y c38)⟩  -- k21
      · skip
        refine hj68 _ _ _ _ W56 ?_ ?_
        · exact Ta0  -- t22
        · exact ⟨rfl, rfl, rfl, rfl, j56⟩  -- k23
  refine ⟨fun c39 => ?_, fun c39 => ?_⟩
  · skip
    intro κ_40 hκ_40
    refine hx _ _ ?_
    · exact ⟨Or.inl rfl, hκ_40⟩  -- x24
  · skip
    refine ⟨fun c41 => ?_, fun c41 => ?_⟩
    · skip
      intro T42
      refine Ch_showsNow_c W T42 ρ n9 P9 ?_ (fun r43 q45 => ?_)
      · exact fun z => (hX z).1  -- p25
      intro W46
      intro M47
      refine ⟨fun c48 => ?_, fun c48 => ?_⟩
      · skip
        refine ⟨fun c49 => ?_, fun c49 => ?_⟩
        · skip
          refine hj56 _ _ _ _ W46 ?_ ?_
          · exact Ta0  -- t26
          · exact ⟨rfl, rfl, rfl, rfl, q45.2 c48⟩  -- k27
        · skip
          intro T50
          refine At_holdsEnding_c W46 T50  (fun r51 q53 => ?_)
          intro W54
          intro M55
          refine ⟨fun c56 => ?_, fun c56 => ?_⟩
          · skip
            intro κ_57 hκ_57
            refine hx _ _ ?_
            · exact ⟨Or.inr (Or.inr rfl), hκ_57⟩  -- x28
          · skip
            refine hj56 _ _ _ _ W54 ?_ ?_
            · exact Ta0  -- t29
            · exact ⟨rfl, rfl, rfl, rfl, q45.2 c48⟩  -- k30
      · skip
        intro κ_58 hκ_58
        refine hx _ _ ?_
        · exact ⟨Or.inr (Or.inl rfl), hκ_58⟩  -- x31
    · skip
      intro κ_59 hκ_59
      refine hx _ _ ?_
      · exact ⟨Or.inl rfl, hκ_59⟩  -- x32

end
section
set_option maxHeartbeats 1600000
/-! the class: show, by its value -/
noncomputable def sq16 (κ : zS) (a : Nat) (σ : rS) (V U : Nat → Rat) (n : Nat) (kind v : Int32) : Rat :=
  if kind = 12 then pd16 (dW16 κ a) (dT16 κ a) (dC16 κ a).toNat
  else if kind = 11 then U v.toNatClampNeg
  else if kind < 7 ∨ 9 < kind then tK16 κ (zR κ chSolver a) σ V kind v n * (dK16 κ (zR κ chSolver a) σ V kind v n)⁻¹
  else if kind = 8 then V v.toNatClampNeg
  else vs16 V (gg16 κ (zR κ chSolver a)) kind n
def sB16 (κ : zS) (a : Nat) (σ : rS) (V : Nat → Rat) (n : Nat) (kind : Int32) : Prop := (kind = 12 ∧ zI κ chPlayMade a ≠ 0) ∨ (kind = 11 ∧ zI κ soPlanned (zR κ chSolver a) ≠ 0) ∨ (¬ kind = 12 ∧ ¬ kind = 11 ∧ zI κ soSolved (zR κ chSolver a) ≠ 0 ∧ (¬ 1 < kind → n = 0 ∨ ∃ k, k < n ∧ uV16 σ V 6 0 k ≠ 0) ∧ (kind = 10 → n = 0 ∨ ∃ k, k < n ∧ uV16 σ V 7 0 k ≠ 0))
def sD16 (κ : zS) (a : Nat) (kind v : Int32) : Prop := (kind = 2 → 0 ≤ v.toInt ∧ v.toInt < (zI κ hoTotal (zR κ atEndings (zR κ chAtlas a))).toInt) ∧ (kind = 8 ∨ kind = 11 → 0 ≤ v.toInt ∧ v.toInt < (zI κ hoTotal (zR κ atStates (zR κ chAtlas a))).toInt)
theorem uV_616 {σ : rS} {V : Nat → Rat} {v : Int32} {k : Nat} : uV16 σ V 6 v k = uV16 σ V 6 0 k := by
  have e : si16 σ 6 v = si16 σ 6 0 := by
    funext i
    unfold si16
    rw [sh_616, sh_616]
  unfold uV16
  rw [e]
theorem uV_716 {σ : rS} {V : Nat → Rat} {v : Int32} {k : Nat} : uV16 σ V 7 v k = uV16 σ V 7 0 k := by
  have e : si16 σ 7 v = si16 σ 7 0 := by
    funext i
    unfold si16
    rw [sh_716, sh_716]
  unfold uV16
  rw [e]
theorem uV_n16 {κ : zS} {b n : Nat} {σ : rS} {V : Nat → Rat} {a v : Int32} (h : tbl15 κ b n σ) {k : Nat} (hk : k < n) (h0 : 0 ≤ a.toInt) (h7 : a.toInt ≤ 7) : 0 ≤ uV16 σ V a v k := by
  unfold uV16
  split
  · exact Int.le_refl 0
  · refine sI_n16 (fun d hd => Int.mul_nonneg (tw_n16 h hk hd) ?_)
    unfold si16
    exact sh_n16 h0 h7
theorem sK_p16 {κ : zS} {a b n : Nat} {σ : rS} {V : Nat → Rat} {kind v : Int32} (h : tbl15 κ b n σ) (hV : vV15 κ a n V) (hk : kind = 6 ∨ kind = 7) (c : n = 0 ∨ ∃ k, k < n ∧ uV16 σ V kind v k ≠ 0) : 0 < sK16 κ a σ V kind v n := by
  have h0 : 0 ≤ kind.toInt := by rcases hk with z | z <;> rw [z] <;> decide
  have h7 : kind.toInt ≤ 7 := by rcases hk with z | z <;> rw [z] <;> decide
  unfold sK16
  by_cases z : n = 0
  · have e : al16 n kind v = 1 := by
      unfold al16
      rw [if_pos z]
      rcases hk with y | y <;> rw [y]
      · rw [sh_616]; rfl
      · rw [sh_716]; rfl
    have i1 : ((1 : Int) : Rat) = 1 := rfl
    have w0 : wK16 κ a σ V kind v n = 0 := by rw [z]; rfl
    rw [e, w0, i1, Rat.add_zero]
    decide
  · obtain ⟨k, k1, k2⟩ := c.resolve_left z
    have e : al16 n kind v = 0 := if_neg z
    have i0 : ((0 : Int) : Rat) = 0 := rfl
    rw [e, i0, Rat.zero_add]
    have nn : ∀ i, i < n → 0 ≤ un15 κ a V i * ((uV16 σ V kind v i : Int) : Rat) := fun i hi => Rat.mul_nonneg (un_p15 (hV i hi).2) (by
      have y : ((0 : Int) : Rat) ≤ ((uV16 σ V kind v i : Int) : Rat) := Rat.intCast_le_intCast.mpr (uV_n16 h hi h0 h7)
      exact y)
    have g := smQ_ge nn k1
    have v0 : V k ≠ 0 := fun y => k2 (by
      unfold uV16
      rw [if_pos y])
    have v1 := (hV k k1).2
    have p1 : 0 < un15 κ a V k := by
      unfold un15
      refine Rat.mul_pos (by grind) ?_
      have i1 : ((1 : Int) : Rat) = 1 := rfl
      rw [mk_d, i1, Rat.one_mul]
      exact Rat.inv_pos.mpr (nq0 dvN9_p)
    have p2 : (0 : Rat) < ((uV16 σ V kind v k : Int) : Rat) := by
      have y := uV_n16 (V := V) (v := v) h k1 h0 h7
      have y2 : ((0 : Int) : Rat) < ((uV16 σ V kind v k : Int) : Rat) := Rat.intCast_lt_intCast.mpr (by omega)
      exact y2
    have p := Rat.mul_pos p1 p2
    show 0 < smQ (fun k => un15 κ a V k * ((uV16 σ V kind v k : Int) : Rat)) n
    grind
theorem dK_p16 {κ : zS} {a b n : Nat} {σ : rS} {V : Nat → Rat} {kind v : Int32} (h : tbl15 κ b n σ) (hV : vV15 κ a n V) (h0 : 0 ≤ kind.toInt) (c6 : ¬ 1 < kind → n = 0 ∨ ∃ k, k < n ∧ uV16 σ V 6 0 k ≠ 0) (c7 : kind = 10 → n = 0 ∨ ∃ k, k < n ∧ uV16 σ V 7 0 k ≠ 0) : 0 < dK16 κ a σ V kind v n := by
  unfold dK16
  by_cases e : aK16 kind = kind
  · rw [if_pos e]; decide
  · rw [if_neg e]
    rcases aK_16 h0 e with ⟨y, y2⟩ | ⟨y, y2⟩
    · rw [y2]
      refine sK_p16 h hV (Or.inl rfl) ((c6 (by rcases y with y | y <;> rw [y] <;> decide)).imp id (fun ⟨k, k1, k2⟩ => ⟨k, k1, by rw [uV_616]; exact k2⟩))
    · rw [y2]
      refine sK_p16 h hV (Or.inr rfl) ((c7 y).imp id (fun ⟨k, k1, k2⟩ => ⟨k, k1, by rw [uV_716]; exact k2⟩))
theorem At_holds_q6 {C : zC} {n0 : Nat} {a0 : Nat} {a1 : Int32} {κ : zS} {Q : Int32 → zS → Prop} (W : zW C n0 κ) (Ta0 : zT κ a0 = 3)  (h9 : ∀ (v : Int32), ((nb v ∧ (v ≠ 0 → zI κ atExplored a0 ≠ 0 ∧ 0 ≤ a1.toInt ∧ a1.toInt < (zI κ hoTotal (zR κ atStates a0)).toInt)) ∧ (v ≠ 0 ↔ zI κ atExplored a0 ≠ 0 ∧ 0 ≤ a1.toInt ∧ a1.toInt < (zI κ hoTotal (zR κ atStates a0)).toInt)) → Q v κ) : zRun C 0 mAt_holds [.ref a0, .int a1] κ (oI Q noX) := by
  have h : ∀ (v : Int32), (nb v ∧ (v ≠ 0 ↔ zI κ atExplored a0 ≠ 0 ∧ 0 ≤ a1.toInt ∧ a1.toInt < (zI κ hoTotal (zR κ atStates a0)).toInt)) → Q v κ := fun v z => h9 v ⟨⟨z.1, z.2.mp⟩, z.2⟩
  refine At_holds_run W Ta0 ?_
  replace W := W.lo (Nat.le_trans W.1.2.1 W.1.2.2) (Nat.le_refl (zn κ))
  unfold w_At_holds_0
  refine ⟨fun c1 => ?_, fun c1 => ?_⟩
  · refine h _ ⟨nb_0, fun z => absurd rfl z, fun z => absurd c1 z.1⟩
  · refine ⟨fun c2 => ?_, fun c2 => ?_⟩
    · refine h _ ⟨nb_0, fun z => absurd rfl z, fun z => ?_⟩
      rw [lti, t0i] at c2
      omega
    · refine ⟨fun c3 => ?_, fun c3 => ?_⟩
      · refine h _ ⟨nb_0, fun z => absurd rfl z, fun z => ?_⟩
        rw [lei] at c3
        omega
      · refine h _ ?_
        rw [lti, t0i] at c2
        rw [lei] at c3
        exact ⟨nb_1, fun _ => ⟨c1, by omega, by omega⟩, fun _ => by decide⟩
theorem At_holdsEnding_q6 {C : zC} {n0 : Nat} {a0 : Nat} {a1 : Int32} {κ : zS} {Q : Int32 → zS → Prop} (W : zW C n0 κ) (Ta0 : zT κ a0 = 3)  (h9 : ∀ (v : Int32), ((nb v ∧ (v ≠ 0 → zI κ atExplored a0 ≠ 0 ∧ 0 ≤ a1.toInt ∧ a1.toInt < (zI κ hoTotal (zR κ atEndings a0)).toInt)) ∧ (v ≠ 0 ↔ zI κ atExplored a0 ≠ 0 ∧ 0 ≤ a1.toInt ∧ a1.toInt < (zI κ hoTotal (zR κ atEndings a0)).toInt)) → Q v κ) : zRun C 0 mAt_holdsEnding [.ref a0, .int a1] κ (oI Q noX) := by
  have h : ∀ (v : Int32), (nb v ∧ (v ≠ 0 ↔ zI κ atExplored a0 ≠ 0 ∧ 0 ≤ a1.toInt ∧ a1.toInt < (zI κ hoTotal (zR κ atEndings a0)).toInt)) → Q v κ := fun v z => h9 v ⟨⟨z.1, z.2.mp⟩, z.2⟩
  refine At_holdsEnding_run W Ta0 ?_
  replace W := W.lo (Nat.le_trans W.1.2.1 W.1.2.2) (Nat.le_refl (zn κ))
  unfold w_At_holdsEnding_0
  refine ⟨fun c1 => ?_, fun c1 => ?_⟩
  · refine h _ ⟨nb_0, fun z => absurd rfl z, fun z => absurd c1 z.1⟩
  · refine ⟨fun c2 => ?_, fun c2 => ?_⟩
    · refine h _ ⟨nb_0, fun z => absurd rfl z, fun z => ?_⟩
      rw [lti, t0i] at c2
      omega
    · refine ⟨fun c3 => ?_, fun c3 => ?_⟩
      · refine h _ ⟨nb_0, fun z => absurd rfl z, fun z => ?_⟩
        rw [lei] at c3
        omega
      · refine h _ ?_
        rw [lti, t0i] at c2
        rw [lei] at c3
        exact ⟨nb_1, fun _ => ⟨c1, by omega, by omega⟩, fun _ => by decide⟩
theorem exx_16 {a n : Nat} {L : Int} {ρ : Nat → Nat} {κ : zS} {σ : rS} {V : Nat → Rat} {kind : Int32} (I : chI9 ρ κ a L) (n12 : ¬ kind = 12) (B : sB16 κ a σ V n kind) : zI κ atExplored (zR κ chAtlas a) ≠ 0 := by
  rcases B with ⟨z, _⟩ | ⟨_, p⟩ | ⟨_, _, s, _⟩
  · exact absurd z n12
  · exact (I.2.2.2.1.2 p).1
  · exact (I.2.2.2.1.1 s).1
theorem sB_t16 {κ : zS} {a n : Nat} {σ : rS} {V : Nat → Rat} {kind : Int32} (n12 : ¬ kind = 12) (n11 : ¬ kind = 11) (B : sB16 κ a σ V n kind) : (¬ 1 < kind → n = 0 ∨ ∃ k, k < n ∧ uV16 σ V 6 0 k ≠ 0) ∧ (kind = 10 → n = 0 ∨ ∃ k, k < n ∧ uV16 σ V 7 0 k ≠ 0) := by
  rcases B with ⟨z, _⟩ | ⟨z, _⟩ | ⟨_, _, _, c⟩
  · exact absurd z n12
  · exact absurd z n11
  · exact c
theorem sB_m16 {κ : zS} {a n : Nat} {σ : rS} {V : Nat → Rat} {kind : Int32} (e : kind = 12) (B : sB16 κ a σ V n kind) : zI κ chPlayMade a ≠ 0 := by
  rcases B with ⟨_, p⟩ | ⟨z, _⟩ | ⟨z, _⟩
  · exact p
  · rw [e] at z; exact absurd z (by decide)
  · exact absurd e z
theorem Ch_show_q6 {C : zC} {n0 : Nat} {a0 : Nat} {a1 : Int32} {a2 : Int32} {κ : zS} {Q : Int32 → zS → Prop} {X : zXp} (W : zW C n0 κ) (Ta0 : zT κ a0 = 15) (ρ : Nat → Nat) (L9 : Int) (n9 P9 : Nat) (σ9 : rS) (V9 U9 : Nat → Rat) (hS9 : zI κ soSolved (zR κ chSolver a0) ≠ 0 → tbl15 κ (zR κ chAtlas a0) n9 σ9 ∧ lst16 κ (zR κ chAtlas a0) σ9 ∧ vV15 κ (zR κ chSolver a0) n9 V9 ∧ lz16 κ (zR κ chAtlas a0) n9) (hU9 : zI κ soPlanned (zR κ chSolver a0) ≠ 0 → ∀ k : Nat, (k : Int) < (zI κ hoTotal (zR κ atStates (zR κ chAtlas a0))).toInt → rqW8 κ (wU9 κ (zR κ chSolver a0) k) (U9 k)) (hD9 : zI κ chPlayMade a0 ≠ 0 → dO16 κ a0) (hp : chI9 ρ κ a0 L9 ∧ (zI κ soSolved (zR κ chSolver a0) ≠ 0 → odX9 ρ κ (zR κ chOdds a0) n9 P9 ∧ (0 < P9 ∧ P9 < pB9 1490) ∧ atW κ (zR κ chAtlas a0) n9 ∧ vsI9 ρ κ (zR κ chSolver a0) n9 P9 ∧ n9 ≤ (zN κ (zR κ soVisits (zR κ chSolver a0))))) (h : ∀ (v : Int32) (κ' : zS), ((chI9 ρ κ' a0 L9 ∧ (∃ F, zF F κ κ') ∧ zI κ' chTolds a0 = zI κ chTolds a0) ∧ ((v.toInt = (sq16 κ a0 σ9 V9 U9 n9 a1 a2).num.sign ∧ rqW8 κ' (zR κ chShown a0) (sq16 κ a0 σ9 V9 U9 n9 a1 a2)) ∧ (0 ≤ a1.toInt ∧ a1.toInt ≤ 12) ∧ sB16 κ a0 σ9 V9 n9 a1 ∧ sD16 κ a0 a1 a2)) → Q v κ') (hx : ∀ (cls : String) (κ' : zS), (((cls = "java/lang/IllegalArgumentException" ∨ cls = "java/lang/IllegalStateException" ∨ cls = "java/lang/IndexOutOfBoundsException") ∧ κ' = ut κ) ∧ ((cls = "java/lang/IllegalArgumentException" ∧ ¬ (0 ≤ a1.toInt ∧ a1.toInt ≤ 12)) ∨ (cls = "java/lang/IllegalStateException" ∧ (0 ≤ a1.toInt ∧ a1.toInt ≤ 12) ∧ ¬ sB16 κ a0 σ9 V9 n9 a1) ∨ (cls = "java/lang/IndexOutOfBoundsException" ∧ (0 ≤ a1.toInt ∧ a1.toInt ≤ 12) ∧ sB16 κ a0 σ9 V9 n9 a1 ∧ ¬ sD16 κ a0 a1 a2))) → X cls κ') : zRun C 8 mCh_show [.ref a0, .int a1, .int a2] κ (oI Q X) := by
  refine Ch_show_run W Ta0 ?_
  replace W := W.lo (Nat.le_trans W.1.2.1 W.1.2.2) (Nat.le_refl (zn κ))
  unfold w_Ch_show_0
  obtain ⟨I, hX⟩ := hp
  have tS := ty_chSolver W Ta0
  have NS := I.2.2.1.1.1
  have h30 := I.2.2.1.2.2.2
  have J := ch_n9 I
  have D1 := I.2.2.2.2.1.1
  have hj156 : ∀ (l0 : Nat) (l1 : Int32) (l2 : Int32) (τ : zS), zW C (zn κ) τ → zT τ l0 = 15 → ((κ = τ ∧ a0 = l0 ∧ a1 = l1 ∧ a2 = l2 ∧ zI κ soSolved (zR κ chSolver a0) ≠ 0) ∧ (¬ a1 = 12 ∧ ¬ a1 = 11 ∧ (a1 < 7 ∨ 9 < a1)) ∧ (0 ≤ a1.toInt ∧ a1.toInt ≤ 12) ∧ sB16 κ a0 σ9 V9 n9 a1 ∧ sD16 κ a0 a1 a2) → w_Ch_show_156 C (zn κ) Q X  l0 l1 l2 τ := by
    rintro _ _ _ _ W156 T156_0 ⟨⟨rfl, rfl, rfl, rfl, j156⟩, hE⟩
    unfold w_Ch_show_156
    intro T1
    intro T2
    refine Od_showWeight_q6 W156 T1 T2 ρ n9 P9 σ9 V9 (by rw [D1.1]; exact (hS9 j156).1) (by rw [D1.1]; exact (hS9 j156).2.1) (by rw [D1.2.1]; exact (hS9 j156).2.2.1) (by rw [D1.1]; exact (hS9 j156).2.2.2) hE.2.1.1 (by rw [D1.2.1]; exact dK_p16 (hS9 j156).1 (hS9 j156).2.2.1 hE.2.1.1 (sB_t16 hE.1.1 hE.1.2.1 hE.2.2.1).1 (sB_t16 hE.1.1 hE.1.2.1 hE.2.2.1).2) ?_ (fun κ_3 q4 => ?_)
    · have X := hX j156
      rw [D1.2.1]
      exact ⟨NS, X.1, X.2.1, h30⟩
    obtain ⟨q4, z9⟩ := q4
    intro W5
    intro M6
    refine h _ _ ?_
    · refine and_5 ?_ (fun o9 => ?_)  -- q2
      · rw [D1.2.1] at q4
        exact chI_n9 W Ta0 q4.1.1 (fun r z => z) ⟨q4.1.2.1, q4.1.2.2⟩ q4.2 I
      · rw [D1.2.1] at z9
        have e : sq16 κ a0 σ9 V9 U9 n9 a1 a2 = tK16 κ (zR κ chSolver a0) σ9 V9 a1 a2 n9 * (dK16 κ (zR κ chSolver a0) σ9 V9 a1 a2 n9)⁻¹ := by
          unfold sq16
          rw [if_neg hE.1.1, if_neg hE.1.2.1, if_pos hE.1.2.2]
        rw [e]
        refine ⟨⟨?_, z9⟩, hE.2⟩
        rw [(soF_r9 q4.1.1 (f := chShown) (by decide)).1]
        exact z9.1
  have hj90 : ∀ (l0 : Nat) (l1 : Int32) (l2 : Int32) (τ : zS), zW C (zn κ) τ → zT τ l0 = 15 → ((κ = τ ∧ a0 = l0 ∧ a1 = l1 ∧ a2 = l2 ∧ ((¬ a1 = 12 → ¬ a1 = 11 → zI κ soSolved (zR κ chSolver a0) ≠ 0) ∧ (a1 = 11 → zI κ soPlanned (zR κ chSolver a0) ≠ 0)) ∧ (a1 = 8 ∨ a1 = 11 → zI κ atExplored (zR κ chAtlas a0) ≠ 0 ∧ 0 ≤ a2.toInt ∧ a2.toInt < (zI κ hoTotal (zR κ atStates (zR κ chAtlas a0))).toInt)) ∧ (0 ≤ a1.toInt ∧ a1.toInt ≤ 12) ∧ sB16 κ a0 σ9 V9 n9 a1 ∧ sD16 κ a0 a1 a2) → w_Ch_show_90 C (zn κ) Q X  l0 l1 l2 τ := by
    rintro _ _ _ _ W90 T90_0 ⟨⟨rfl, rfl, rfl, rfl, j90⟩, hE⟩
    unfold w_Ch_show_90
    refine ⟨fun c7 => ?_, fun c7 => ?_⟩
    · skip
      refine ⟨fun c8 => ?_, fun c8 => ?_⟩
      · skip
        refine ⟨fun c9 => ?_, fun c9 => ?_⟩
        · skip
          refine hj156 _ _ _ _ W90 ?_ ?_
          · exact Ta0  -- t3
          · refine and_5 ?_ (fun o9 => ⟨⟨c7, c8, Or.inl c9⟩, hE⟩)  -- k4
            exact ⟨rfl, rfl, rfl, rfl, j90.1.1 c7 c8⟩
        · skip
          refine ⟨fun c10 => ?_, fun c10 => ?_⟩
          · skip
            refine hj156 _ _ _ _ W90 ?_ ?_
            · exact Ta0  -- t5
            · refine and_5 ?_ (fun o9 => ⟨⟨c7, c8, Or.inr c10⟩, hE⟩)  -- k6
              exact ⟨rfl, rfl, rfl, rfl, j90.1.1 c7 c8⟩
          · skip
            intro T11
            intro T12
            refine So_showVisits_q6 W90 T11 T12 ρ n9 P9 V9 (hS9 (j90.1.1 c7 c8)).2.2.1 ?_ (fun κ_13 q14 => ?_)
            · have X := hX (j90.1.1 c7 c8)
              refine ⟨NS, ⟨by rw [I.2.2.1.2.2.1.1]; exact X.2.2.1, X.2.2.2.2⟩, X.2.2.2.1, X.2.1, h30, fun z => ?_⟩
              have y := j90.2 (Or.inl z)
              have t := X.2.2.1.2.2.2.1
              exact ⟨y.2.1, by omega⟩
            obtain ⟨q14, z9⟩ := q14
            intro W15
            intro M16
            refine h _ _ ?_
            · refine and_5 ?_ (fun o9 => ?_)  -- q8
              · refine chI_n9 W Ta0 q14.1.1 (fun r z => z) ⟨q14.1.2.1, q14.1.2.2⟩ ?_ I
                rcases q14.2 with y | y
                · exact y
                · rw [y]; exact I.2.2.1.1.2.2.2.2.2.2
              · have e : sq16 κ a0 σ9 V9 U9 n9 a1 a2 = if a1 = 8 then V9 a2.toNatClampNeg else vs16 V9 (gg16 κ (zR κ chSolver a0)) a1 n9 := by
                  unfold sq16
                  rw [if_neg c7, if_neg c8, if_neg (fun z => z.elim c9 c10)]
                rw [e]
                refine ⟨⟨?_, z9⟩, hE⟩
                rw [(soF_r9 q14.1.1 (f := chShown) (by decide)).1]
                exact z9.1
      · skip
        have H11 : zI κ soPlanned (zR κ chSolver a0) ≠ 0 → (zI κ atExplored (zR κ chAtlas a0) ≠ 0 ∧ 0 ≤ a2.toInt ∧ a2.toInt < (zI κ hoTotal (zR κ atStates (zR κ chAtlas a0))).toInt) → (a2.toInt < (zN κ (zR κ soWorths (zR κ chSolver a0))) ∧ a2.toNatClampNeg < 1000) ∧ ∃ u, zQ κ (zR κ soWorths (zR κ chSolver a0)) a2.toNatClampNeg = some u := fun y1 y2 => by
          obtain ⟨x1, x3⟩ := I.2.2.2.1.2 y1
          obtain ⟨⟨n, hn⟩, _⟩ := ch_x9 I x1
          have t := hn.2.2.2.1
          have t3 := hn.2.2.1
          have k := cnk y2.2.1
          have z := x3 n hn
          exact ⟨⟨by omega, by omega⟩, z.2 _ (by omega)⟩
        refine ⟨?_, ?_⟩
        · have y2 := j90.2 (Or.inr c8)
          have H := H11 (j90.1.2 c8) y2
          rw [inb_iff]
          exact ⟨y2.2.1, H.1.1⟩
        refine ex_some ?_ (fun u17 hu17 => ?_)
        · exact (H11 (j90.1.2 c8) (j90.2 (Or.inr c8))).2  -- e10
        intro T18
        intro T19
        have hw := I.2.2.1.1.2.2.2.2.1.1 _ u17 (H11 (j90.1.2 c8) (j90.2 (Or.inr c8))).1.2 hu17
        have hr : raR (104 + 8 * a2.toNatClampNeg) := Or.inr (Or.inr ⟨by omega, by have := (H11 (j90.1.2 c8) (j90.2 (Or.inr c8))).1.2; omega, by omega⟩)
        have q := NS.1.2 u17 (by rw [hw]; exact hr)
        rw [hw] at q
        have q30 := ra_t9 NS.1 h30 (Or.inr rfl)
        have g1 := nm_g NS.1 q.2.1 (raR_n hr).1 (by omega)
        have g2 := nm_g NS.1 q.2.2 (raR_n hr).2 (by omega)
        have c1 : capR (104 + 8 * a2.toNatClampNeg + 1) = 20 := by
          have := (H11 (j90.1.2 c8) (j90.2 (Or.inr c8))).1.2
          unfold capR
          rw [if_neg (by omega), if_pos (by omega)]
        have c2 : capR (104 + 8 * a2.toNatClampNeg + 2) = 20 := by
          have := (H11 (j90.1.2 c8) (j90.2 (Or.inr c8))).1.2
          unfold capR
          rw [if_neg (by omega), if_pos (by omega)]
        rw [c1] at g1
        rw [c2] at g2
        have k1 := nuK_c9 g1.1
        have k2 := nuK_c9 g2.1
        refine Ra_copy_c W90 T18 T19 6500 ?_ (fun κ_20 q21 => ?_)
        · refine ⟨q30.2.1, ⟨g1.2.1, g2.2.1, ro_n q.2.1 q.2.2 (by omega)⟩, ⟨ro_n q30.1.1 q.2.1 (by omega), ro_n q30.1.1 q.2.2 (by omega), ro_n q30.1.2 q.2.1 (by omega), ro_n q30.1.2 q.2.2 (by omega)⟩, ⟨by omega, by omega⟩, by decide⟩  -- p11
        intro W22
        intro M23
        refine h _ _ ?_
        · refine and_5 ?_ (fun o9 => ?_)  -- q12
          · have rt := raF_r q21.1 (f := raTop) (x := zR κ chShown a0) (by decide) (by decide) (by decide)
            have rb := raF_r q21.1 (f := raBottom) (x := zR κ chShown a0) (by decide) (by decide) (by decide)
            have y := q21.2.1
            unfold raJ at y
            rw [rt, rb] at y
            have M := nm_ra W tS NS.1 NS.2 h30 (Or.inr (Or.inl rfl)) q21.1 y.1 y.2.1
            have tl := ty_soLess W tS
            have l8 : ρ (zR κ soLess (zR κ chSolver a0)) = 8 := NS.2.1.2.2.2.2.2.1
            have nl := (soF_B (c := 0) W tl (M.2 0) (by rw [l8]; decide)).2.1
            exact chI_n9 W Ta0 (M.2 0) (fun r z => by rcases z with z | z | z <;> omega) M.1 (by rw [nl]; exact I.2.2.1.1.2.2.2.2.2.2) I
          · have y2 := hE.2.2.2 (Or.inr c8)
            have k2 := cnk y2.1
            have H := hU9 (j90.1.2 c8) a2.toNatClampNeg (by omega)
            have eu : wU9 κ (zR κ chSolver a0) a2.toNatClampNeg = u17 := by
              unfold wU9
              rw [hu17]
              rfl
            rw [eu] at H
            have e : sq16 κ a0 σ9 V9 U9 n9 a1 a2 = U9 a2.toNatClampNeg := by
              unfold sq16
              rw [if_neg c7, if_pos c8]
            have rs := raF_r q21.1 (f := chShown) (x := a0) (by decide) (by decide) (by decide)
            have Vc := q21.2.2
            rw [e, rs]
            exact ⟨⟨Vc.1.trans H.1, Vc.1.trans H.1, Vc.2.1.trans H.2.1, Vc.2.2.trans H.2.2⟩, hE⟩
    · skip
      intro T24
      refine Ch_showPlay_q6 W90 T24 (hD9 (sB_m16 c7 hE.2.1)) ?_ (fun κ_25 q26 => ?_)
      · exact ⟨(ra_t9 NS.1 h30 (Or.inr rfl)).2.1, I.2.2.2.2.2.1.2.2.2.2, I.2.2.2.2.2.1.2.1.1⟩  -- p13
      obtain ⟨q26, z9⟩ := q26
      intro W27
      intro M28
      refine h _ _ ?_
      · refine and_5 ?_ (fun o9 => ?_)  -- q14
        · have rt := raF_r q26.1 (f := raTop) (x := zR κ chShown a0) (by decide) (by decide) (by decide)
          have rb := raF_r q26.1 (f := raBottom) (x := zR κ chShown a0) (by decide) (by decide) (by decide)
          have y := q26.2
          unfold raJ at y
          rw [rt, rb] at y
          have M := nm_ra W tS NS.1 NS.2 h30 (Or.inr (Or.inl rfl)) q26.1 y.1 y.2.1
          have tl := ty_soLess W tS
          have l8 : ρ (zR κ soLess (zR κ chSolver a0)) = 8 := NS.2.1.2.2.2.2.2.1
          have nl := (soF_B (c := 0) W tl (M.2 0) (by rw [l8]; decide)).2.1
          exact chI_n9 W Ta0 (M.2 0) (fun r z => by rcases z with z | z | z <;> omega) M.1 (by rw [nl]; exact I.2.2.1.1.2.2.2.2.2.2) I
        · have e : sq16 κ a0 σ9 V9 U9 n9 a1 a2 = pd16 (dW16 κ a0) (dT16 κ a0) (dC16 κ a0).toNat := by
            unfold sq16
            rw [if_pos c7]
          have rs := raF_r q26.1 (f := chShown) (x := a0) (by decide) (by decide) (by decide)
          rw [e, rs]
          exact ⟨⟨z9.1, z9⟩, hE⟩
  have hj68 : ∀ (l0 : Nat) (l1 : Int32) (l2 : Int32) (τ : zS), zW C (zn κ) τ → zT τ l0 = 15 → ((κ = τ ∧ a0 = l0 ∧ a1 = l1 ∧ a2 = l2 ∧ ((¬ a1 = 12 → ¬ a1 = 11 → zI κ soSolved (zR κ chSolver a0) ≠ 0) ∧ (a1 = 11 → zI κ soPlanned (zR κ chSolver a0) ≠ 0))) ∧ (0 ≤ a1.toInt ∧ a1.toInt ≤ 12) ∧ sB16 κ a0 σ9 V9 n9 a1 ∧ (a1 = 2 → 0 ≤ a2.toInt ∧ a2.toInt < (zI κ hoTotal (zR κ atEndings (zR κ chAtlas a0))).toInt) ∧ (a1 = 8 ∨ a1 = 11)) → w_Ch_show_68 C (zn κ) Q X  l0 l1 l2 τ := by
    rintro _ _ _ _ W68 T68_0 ⟨⟨rfl, rfl, rfl, rfl, j68⟩, hE⟩
    unfold w_Ch_show_68
    intro T29
    refine At_holds_q6 W68 T29  (fun r30 q32 => ?_)
    obtain ⟨q32, z9⟩ := q32
    intro W33
    intro M34
    refine ⟨fun c35 => ?_, fun c35 => ?_⟩
    · skip
      refine hj90 _ _ _ _ W33 ?_ ?_
      · exact Ta0  -- t15
      · refine and_5 ?_ (fun o9 => ⟨hE.1, hE.2.1, hE.2.2.1, fun _ => (q32.2 c35).2⟩)  -- k16
        exact ⟨rfl, rfl, rfl, rfl, j68, fun _ => q32.2 c35⟩
    · skip
      intro κ_36 hκ_36
      refine hx _ _ ?_
      · refine and_5 ?_ (fun o9 => ?_)  -- x17
        · exact ⟨Or.inr (Or.inr rfl), hκ_36⟩
        · have n12 : ¬ a1 = 12 := fun z => by rcases hE.2.2.2 with y | y <;> rw [z] at y <;> exact absurd y (by decide)
          exact Or.inr (Or.inr ⟨rfl, hE.1, hE.2.1, fun z => z9.mpr ⟨exx_16 I n12 hE.2.1, z.2 hE.2.2.2⟩ c35⟩)
  have hj56 : ∀ (l0 : Nat) (l1 : Int32) (l2 : Int32) (τ : zS), zW C (zn κ) τ → zT τ l0 = 15 → ((κ = τ ∧ a0 = l0 ∧ a1 = l1 ∧ a2 = l2 ∧ ((¬ a1 = 12 → ¬ a1 = 11 → zI κ soSolved (zR κ chSolver a0) ≠ 0) ∧ (a1 = 11 → zI κ soPlanned (zR κ chSolver a0) ≠ 0))) ∧ (0 ≤ a1.toInt ∧ a1.toInt ≤ 12) ∧ sB16 κ a0 σ9 V9 n9 a1 ∧ (a1 = 2 → 0 ≤ a2.toInt ∧ a2.toInt < (zI κ hoTotal (zR κ atEndings (zR κ chAtlas a0))).toInt)) → w_Ch_show_56 C (zn κ) Q X  l0 l1 l2 τ := by
    rintro _ _ _ _ W56 T56_0 ⟨⟨rfl, rfl, rfl, rfl, j56⟩, hE⟩
    unfold w_Ch_show_56
    refine ⟨fun c37 => ?_, fun c37 => ?_⟩
    · skip
      refine hj68 _ _ _ _ W56 ?_ ?_
      · exact Ta0  -- t18
      · refine and_5 ?_ (fun o9 => ⟨hE.1, hE.2.1, hE.2.2, Or.inl c37⟩)  -- k19
        exact ⟨rfl, rfl, rfl, rfl, j56⟩
    · skip
      refine ⟨fun c38 => ?_, fun c38 => ?_⟩
      · skip
        refine hj90 _ _ _ _ W56 ?_ ?_
        · exact Ta0  -- t20
        · refine and_5 ?_ (fun o9 => ⟨hE.1, hE.2.1, hE.2.2, fun z => z.elim (fun y => absurd y c37) (fun y => absurd y c38)⟩)  -- k21
          exact ⟨rfl, rfl, rfl, rfl, j56, fun z => z.elim (fun y => absurd y c37) (fun y => absurd y c38)⟩
      · skip
        refine hj68 _ _ _ _ W56 ?_ ?_
        · exact Ta0  -- t22
        · refine and_5 ?_ (fun o9 => ⟨hE.1, hE.2.1, hE.2.2, Or.inr c38⟩)  -- k23
          exact ⟨rfl, rfl, rfl, rfl, j56⟩
  refine ⟨fun c39 => ?_, fun c39 => ?_⟩
  · skip
    intro κ_40 hκ_40
    refine hx _ _ ?_
    · refine and_5 ?_ (fun o9 => Or.inl ⟨rfl, fun z => by rw [lti, t0i] at c39; omega⟩)  -- x24
      exact ⟨Or.inl rfl, hκ_40⟩
  · skip
    refine ⟨fun c41 => ?_, fun c41 => ?_⟩
    · skip
      intro T42
      refine Ch_showsNow_q6 W T42 ρ n9 P9 σ9 V9 (fun z => by rw [D1.1, D1.2.1]; exact ⟨(hS9 z).1, (hS9 z).2.1, (hS9 z).2.2.1⟩) ?_ (fun r43 q45 => ?_)
      · exact fun z => (hX z).1  -- p25
      obtain ⟨q45, z9⟩ := q45
      have zs := z9
      intro W46
      intro M47
      refine ⟨fun c48 => ?_, fun c48 => ?_⟩
      · skip
        refine ⟨fun c49 => ?_, fun c49 => ?_⟩
        · skip
          refine hj56 _ _ _ _ W46 ?_ ?_
          · exact Ta0  -- t26
          · refine and_5 ?_ (fun o9 => ?_)  -- k27
            · exact ⟨rfl, rfl, rfl, rfl, q45.2 c48⟩
            · have A : 0 ≤ a1.toInt ∧ a1.toInt ≤ 12 := by
                have l12 : (12 : Int32).toInt = 12 := rfl
                rw [lti, t0i] at c39
                rw [lei, l12] at c41
                omega
              exact ⟨A, zs.mp c48, fun z => absurd z c49⟩
        · skip
          intro T50
          refine At_holdsEnding_q6 W46 T50  (fun r51 q53 => ?_)
          obtain ⟨q53, z9⟩ := q53
          intro W54
          intro M55
          refine ⟨fun c56 => ?_, fun c56 => ?_⟩
          · skip
            intro κ_57 hκ_57
            refine hx _ _ ?_
            · refine and_5 ?_ (fun o9 => ?_)  -- x28
              · exact ⟨Or.inr (Or.inr rfl), hκ_57⟩
              · have A : 0 ≤ a1.toInt ∧ a1.toInt ≤ 12 := by
                  have l12 : (12 : Int32).toInt = 12 := rfl
                  rw [lti, t0i] at c39
                  rw [lei, l12] at c41
                  omega
                have n12 : ¬ a1 = 12 := fun z => by rw [z] at c49; exact absurd c49 (by decide)
                exact Or.inr (Or.inr ⟨rfl, A, zs.mp c48, fun z => z9.mpr ⟨exx_16 I n12 (zs.mp c48), z.1 c49⟩ c56⟩)
          · skip
            refine hj56 _ _ _ _ W54 ?_ ?_
            · exact Ta0  -- t29
            · refine and_5 ?_ (fun o9 => ?_)  -- k30
              · exact ⟨rfl, rfl, rfl, rfl, q45.2 c48⟩
              · have A : 0 ≤ a1.toInt ∧ a1.toInt ≤ 12 := by
                  have l12 : (12 : Int32).toInt = 12 := rfl
                  rw [lti, t0i] at c39
                  rw [lei, l12] at c41
                  omega
                exact ⟨A, zs.mp c48, fun _ => (z9.mp c56).2⟩
      · skip
        intro κ_58 hκ_58
        refine hx _ _ ?_
        · refine and_5 ?_ (fun o9 => ?_)  -- x31
          · exact ⟨Or.inr (Or.inl rfl), hκ_58⟩
          · have A : 0 ≤ a1.toInt ∧ a1.toInt ≤ 12 := by
              have l12 : (12 : Int32).toInt = 12 := rfl
              rw [lti, t0i] at c39
              rw [lei, l12] at c41
              omega
            exact Or.inr (Or.inl ⟨rfl, A, fun z => zs.mpr z c48⟩)
    · skip
      intro κ_59 hκ_59
      refine hx _ _ ?_
      · refine and_5 ?_ (fun o9 => Or.inl ⟨rfl, fun z => c41 (by have l12 : (12 : Int32).toInt = 12 := rfl; rw [lei, l12]; exact z.2)⟩)  -- x32
        exact ⟨Or.inl rfl, hκ_59⟩

end
section
set_option maxHeartbeats 1600000
/-! what both sides show, and when -/
/-- what holds of both sides where all is solved -/
def VS16 (κ : zS) (a b n : Nat) (σ : rS) (V : Nat → Rat) : Prop := tbl15 κ b n σ ∧ zR κ soAtlas a = b ∧ vV15 κ a n V ∧ (∀ k, k < n → vR15 σ k (V k)) ∧ (∀ k, k < n → (σ.2.2.1 95 k ≠ 0 ↔ cnE σ k)) ∧ vE15 (pR15 σ n) n (cnE σ) V
section
variable {κ : zS} {a b n : Nat} {σ : rS} {V : Nat → Rat}
theorem vS_t16 (h : VS16 κ a b n σ V) : ∀ k, k < n → vt16 σ k = V k := fun k hk => vt_16 (h.2.2.2.1 k hk) (h.2.2.2.2.1 k hk) (fun z => h.2.2.2.2.2.1 k hk z)
theorem n7_16 (h : VS16 κ a b n σ V) : n = (σ.1 70).toNatClampNeg ∧ (n = 0 ↔ σ.1 70 = 0) := by
  have B := tb_n15 h.1
  refine ⟨h.1.1.2.1, fun z => Int32.toInt_inj.mp (by rw [B.2.2, z]; rfl), fun z => ?_⟩
  have y := B.2.2
  rw [z, t0i] at y
  omega
theorem sK_u16 (h : VS16 κ a b n σ V) {kind v : Int32} : sK16 κ a σ V kind v n = ((al16 n kind v : Int) : Rat) + uS16 σ V (si16 σ kind v) n := by
  unfold sK16
  rw [wq_16 h.1 h.2.1]
theorem sQ_u16 (h : VS16 κ a b n σ V) {how v c : Int32} : swQ σ how v c = uS16 σ V (byI σ how v c) n + alQ σ how v c + opQ σ how := by
  unfold swQ
  rw [← (n7_16 h).1, sw_16 (vS_t16 h)]
theorem op_016 {how : Int32} (ne : how ≠ 5) : opQ σ how = 0 := if_neg (fun z => ne z.1)
theorem al_n16 (h : VS16 κ a b n σ V) (n0 : ¬ n = 0) {kind v how c : Int32} : ((al16 n kind v : Int) : Rat) = 0 ∧ alQ σ how v c = 0 := by
  have i0 : ((0 : Int) : Rat) = 0 := rfl
  refine ⟨?_, if_neg (fun z => n0 ((n7_16 h).2.mpr z.1))⟩
  unfold al16
  rw [if_neg n0, i0]
theorem al_016 (h : VS16 κ a b n σ V) (n0 : n = 0) (z75 : n = 0 → σ.2.2.1 75 0 = 0) {v : Int32} : (∀ how : Int32, (how = 0 ∨ how = 1 ∨ how = 2 ∨ how = 3 ∨ how = 4 ∨ how = 6 ∨ how = 7) → ((al16 n how v : Int) : Rat) = alQ σ how v 0) ∧ ((al16 n 10 v : Int) : Rat) = alQ σ 7 0 1 ∧ ((al16 n 5 v : Int) : Rat) = 1 ∧ alQ σ 5 v 0 = 0 := by
  have e70 := (n7_16 h).2.mp n0
  have e75 := z75 n0
  have i0 : ((0 : Int) : Rat) = 0 := rfl
  have i1 : ((1 : Int) : Rat) = 1 := rfl
  unfold al16
  rw [if_pos n0, if_pos n0]
  refine ⟨fun how hh => ?_, ?_, ?_, ?_⟩
  · rw [if_pos n0]
    rcases hh with z | z | z | z | z | z | z <;> subst z
    · rw [sh_016]
      by_cases q : (0 : Int32) = v
      · rw [if_pos ⟨rfl, q⟩, i1]
        exact ((if_pos ⟨e70, Or.inl ⟨rfl, e75.trans q⟩⟩ : alQ σ 0 v 0 = _).trans (if_pos rfl)).symm
      · rw [if_neg (fun y => q y.2), i0]
        exact (if_neg (fun y => by
          rcases y.2 with w | w | w
          · exact q (e75.symm.trans w.2)
          · exact absurd w.1 (by decide)
          · exact w (by decide)) : alQ σ 0 v 0 = _).symm
    · rw [sh_116, if_neg (fun y => absurd y.1 (by decide)), i0]
      exact (if_neg (fun y => by
        rcases y.2 with w | w | w
        · exact absurd w.1 (by decide)
        · exact absurd w.1 (by decide)
        · exact w (by decide)) : alQ σ 1 v 0 = _).symm
    · rw [sh_216]
      by_cases q : (0 : Int32) = v
      · rw [if_pos ⟨rfl, q⟩, i1]
        exact ((if_pos ⟨e70, Or.inr (Or.inl ⟨rfl, q.symm⟩)⟩ : alQ σ 2 v 0 = _).trans (if_pos rfl)).symm
      · rw [if_neg (fun y => q y.2), i0]
        exact (if_neg (fun y => by
          rcases y.2 with w | w | w
          · exact absurd w.1 (by decide)
          · exact q w.2.symm
          · exact w (by decide)) : alQ σ 2 v 0 = _).symm
    · rw [sh_316, if_neg (fun y => absurd y.1 (by decide)), i0]
      exact (if_neg (fun y => by
        rcases y.2 with w | w | w
        · exact absurd w.1 (by decide)
        · exact absurd w.1 (by decide)
        · exact w (by decide)) : alQ σ 3 v 0 = _).symm
    · rw [sh_416, if_neg (by decide), i0]
      exact (if_neg (fun y => by
        rcases y.2 with w | w | w
        · exact absurd w.1 (by decide)
        · exact absurd w.1 (by decide)
        · exact w (by decide)) : alQ σ 4 v 0 = _).symm
    · rw [sh_616, if_pos (Or.inl rfl), i1]
      exact ((if_pos ⟨e70, Or.inr (Or.inr (by decide))⟩ : alQ σ 6 v 0 = _).trans (if_pos rfl)).symm
    · rw [sh_716, if_pos rfl, i1]
      exact ((if_pos ⟨e70, Or.inr (Or.inr (by decide))⟩ : alQ σ 7 v 0 = _).trans (if_pos rfl)).symm
  · rw [sh_e16 (Or.inr (by decide)), if_pos rfl, t0i, i0]
    exact ((if_pos ⟨e70, Or.inr (Or.inr (by decide))⟩ : alQ σ 7 0 1 = _).trans (if_neg (by decide))).symm
  · rw [sh_516, if_neg (by decide), i1]
  · exact if_neg (fun y => by
      rcases y.2 with w | w | w
      · exact absurd w.1 (by decide)
      · exact absurd w.1 (by decide)
      · exact w (by decide))
theorem sQ_16 (h : VS16 κ a b n σ V) (z75 : n = 0 → σ.2.2.1 75 0 = 0) {how v : Int32} (hh : how = 0 ∨ how = 1 ∨ how = 2 ∨ how = 3 ∨ how = 4 ∨ how = 6 ∨ how = 7) : sK16 κ a σ V how v n = swQ σ how v 0 := by
  have s := si_b16 (σ := σ) (v := v)
  have e : si16 σ how v = byI σ how v 0 := by
    rcases hh with z | z | z | z | z | z | z <;> subst z
    · exact s.1
    · exact s.2.1
    · exact s.2.2.1
    · exact s.2.2.2.1
    · exact s.2.2.2.2.1
    · exact s.2.2.2.2.2.1
    · exact s.2.2.2.2.2.2
  have n5 : how ≠ 5 := fun z => by rw [z] at hh; revert hh; decide
  rw [sK_u16 h, sQ_u16 h, e, op_016 n5]
  by_cases n0 : n = 0
  · rw [(al_016 h n0 z75).1 how hh]
    grind
  · rw [(al_n16 h n0 (how := how) (c := 0)).1, (al_n16 h n0 (kind := how)).2]
    grind
theorem sQ_t16 (h : VS16 κ a b n σ V) (z75 : n = 0 → σ.2.2.1 75 0 = 0) {v : Int32} : sK16 κ a σ V 10 v n = swQ σ 7 0 1 := by
  rw [sK_u16 h, sQ_u16 h, si_t16, op_016 (by decide)]
  by_cases n0 : n = 0
  · rw [(al_016 h n0 z75).2.1]
    grind
  · rw [(al_n16 h n0 (how := 7) (c := 1)).1, (al_n16 h n0 (kind := 7) (v := 0)).2]
    grind
theorem sQ_516 (h : VS16 κ a b n σ V) (z75 : n = 0 → σ.2.2.1 75 0 = 0) {v : Int32} : 1 - sK16 κ a σ V 5 v n = swQ σ 5 v 0 := by
  rw [sK_u16 h, sQ_u16 h]
  by_cases n0 : n = 0
  · have l := (al_016 h n0 z75 (v := v)).2.2
    have o : opQ σ 5 = 0 := if_neg (fun y => y.2.1 (by rw [(n7_16 h).2.mp n0]; decide))
    have u1 : uS16 σ V (si16 σ 5 v) n = 0 := by rw [n0]; rfl
    have u2 : uS16 σ V (byI σ 5 v 0) n = 0 := by rw [n0]; rfl
    rw [l.1, l.2, o, u1, u2]
    grind
  · have l := al_n16 h n0 (kind := 5) (v := v) (how := 5) (c := 0)
    have q := lost_16 (v := v) h.1 (by omega) h.2.2.2.2.1 h.2.2.2.2.2
    have e : opQ σ 5 = if σ.2.2.1 95 0 = 0 then 1 else 0 := by
      have p : ¬ σ.1 70 ≤ 0 := fun y => by
        have B := (tb_n15 h.1).2.2
        rw [lei, t0i] at y
        omega
      by_cases c : σ.2.2.1 95 0 = 0
      · rw [if_pos c]; exact if_pos ⟨rfl, p, c⟩
      · rw [if_neg c]; exact if_neg (fun y => c y.2.2)
    rw [l.1, l.2, e]
    grind
theorem sK_v16 {v : Int32} : sK16 κ a σ V 6 v n = sK16 κ a σ V 6 0 n ∧ sK16 κ a σ V 7 v n = sK16 κ a σ V 7 0 n := by
  unfold sK16 al16 wK16
  constructor
  · rw [sh_616, sh_616]
    congr 1
  · rw [sh_716, sh_716]
    congr 1
/-- the fraction of weights -/
theorem sT_16 (h : VS16 κ a b n σ V) (z75 : n = 0 → σ.2.2.1 75 0 = 0) {kind v : Int32} (h0 : 0 ≤ kind.toInt) (hk : kind < 7 ∨ kind = 10) : tK16 κ a σ V kind v n * (dK16 κ a σ V kind v n)⁻¹ = shR16 σ kind v := by
  have l7 : (7 : Int32).toInt = 7 := rfl
  have ks : kind = 0 ∨ kind = 1 ∨ kind = 2 ∨ kind = 3 ∨ kind = 4 ∨ kind = 5 ∨ kind = 6 ∨ kind = 10 := by
    rcases hk with c | c
    · rw [lti, l7] at c
      have e : ∀ k : Int32, kind.toInt = k.toInt → kind = k := fun k => ik_16
      have : kind.toInt = 0 ∨ kind.toInt = 1 ∨ kind.toInt = 2 ∨ kind.toInt = 3 ∨ kind.toInt = 4 ∨ kind.toInt = 5 ∨ kind.toInt = 6 := by omega
      rcases this with z | z | z | z | z | z | z
      · exact Or.inl (e 0 z)
      · exact Or.inr (Or.inl (e 1 z))
      · exact Or.inr (Or.inr (Or.inl (e 2 z)))
      · exact Or.inr (Or.inr (Or.inr (Or.inl (e 3 z))))
      · exact Or.inr (Or.inr (Or.inr (Or.inr (Or.inl (e 4 z)))))
      · exact Or.inr (Or.inr (Or.inr (Or.inr (Or.inr (Or.inl (e 5 z))))))
      · exact Or.inr (Or.inr (Or.inr (Or.inr (Or.inr (Or.inr (Or.inl (e 6 z)))))))
    · exact Or.inr (Or.inr (Or.inr (Or.inr (Or.inr (Or.inr (Or.inr c))))))
  have d6 : sK16 κ a σ V 6 v n = swQ σ 6 0 0 := (sK_v16 (v := v)).1.trans (sQ_16 h z75 (by decide))
  have d7 : sK16 κ a σ V 7 v n = swQ σ 7 0 0 := (sK_v16 (v := v)).2.trans (sQ_16 h z75 (by decide))
  unfold tK16 dK16
  rcases ks with z | z | z | z | z | z | z | z <;> subst z
  · rw [if_neg (by decide), if_neg (by decide), show aK16 0 = 6 from rfl, d6, sQ_16 h z75 (by decide), sR_o16 (by decide)]
  · rw [if_neg (by decide), if_neg (by decide), show aK16 1 = 6 from rfl, d6, sQ_16 h z75 (by decide), sR_o16 (by decide)]
  · rw [if_neg (by decide), if_pos (by decide), iv_116, Rat.mul_one, sQ_16 h z75 (by decide), sR_w16 (by decide) (by decide)]
  · rw [if_neg (by decide), if_pos (by decide), iv_116, Rat.mul_one, sQ_16 h z75 (by decide), sR_w16 (by decide) (by decide)]
  · rw [if_neg (by decide), if_pos (by decide), iv_116, Rat.mul_one, sQ_16 h z75 (by decide), sR_w16 (by decide) (by decide)]
  · rw [if_pos rfl, if_pos (by decide), iv_116, Rat.mul_one, sQ_516 h z75, sR_w16 (by decide) (by decide)]
  · rw [if_neg (by decide), if_pos (by decide), iv_116, Rat.mul_one, sQ_16 h z75 (by decide), sR_w16 (by decide) (by decide)]
  · rw [if_neg (by decide), if_neg (by decide), show aK16 10 = 7 from rfl, d7, sQ_t16 h z75, sR_1016]
/-- sums of visits -/
theorem sV_16v (h : VS16 κ a b n σ V) {g : Nat → Int32} (hg : ∀ k, k < n → g k = σ.2.2.1 82 k) {v : Int32} : vs16 V g 7 n = shR16 σ 7 v ∧ vs16 V g 9 n = shR16 σ 9 v := by
  rw [sR_716, sR_916, ← (n7_16 h).1]
  constructor
  · refine smQ_c (fun k hk => ?_)
    rw [vS_t16 h k hk]
    unfold gv16 gr16
    rw [if_neg (by decide), if_neg (by decide), hg k hk]
  · refine smQ_c (fun k hk => ?_)
    rw [vS_t16 h k hk]
    unfold gv16 gr16
    rw [if_pos rfl, if_pos rfl]
/-- nothing below 0; when something weighs -/
theorem sP_16 (h : VS16 κ a b n σ V) (z75 : n = 0 → σ.2.2.1 75 0 = 0) : (0 ≤ swQ σ 6 0 0 ∧ 0 ≤ swQ σ 7 0 0) ∧ ((n = 0 ∨ ∃ k, k < n ∧ uV16 σ V 6 0 k ≠ 0) ↔ swQ σ 6 0 0 ≠ 0) ∧ ((n = 0 ∨ ∃ k, k < n ∧ uV16 σ V 7 0 k ≠ 0) ↔ swQ σ 7 0 0 ≠ 0) := by
  rw [← sQ_16 h z75 (how := 6) (v := 0) (by decide), ← sQ_16 h z75 (how := 7) (v := 0) (by decide)]
  have key : ∀ kind : Int32, kind = 6 ∨ kind = 7 → (0 ≤ sK16 κ a σ V kind 0 n) ∧ ((n = 0 ∨ ∃ k, k < n ∧ uV16 σ V kind 0 k ≠ 0) ↔ sK16 κ a σ V kind 0 n ≠ 0) := fun kind hk => by
    by_cases c : n = 0 ∨ ∃ k, k < n ∧ uV16 σ V kind 0 k ≠ 0
    · have p := sK_p16 (v := 0) h.1 h.2.2.1 hk c
      exact ⟨Rat.le_of_lt p, fun _ => by grind, fun _ => c⟩
    · have n0 : ¬ n = 0 := fun z => c (Or.inl z)
      have z : sK16 κ a σ V kind 0 n = 0 := by
        unfold sK16
        rw [(al_n16 h n0 (how := 0) (c := 0)).1, Rat.zero_add]
        refine smQ_0 (fun k hk => ?_)
        have u : uV16 σ V kind 0 k = 0 := Decidable.byContradiction (fun y => c (Or.inr ⟨k, hk, y⟩))
        have i0 : ((0 : Int) : Rat) = 0 := rfl
        rw [u, i0, Rat.mul_zero]
      rw [z]
      exact ⟨Rat.le_refl, fun y => absurd y c, fun y => absurd rfl y⟩
  exact ⟨⟨(key 6 (Or.inl rfl)).1, (key 7 (Or.inr rfl)).1⟩, (key 6 (Or.inl rfl)).2, (key 7 (Or.inr rfl)).2⟩
end

end
section
set_option maxHeartbeats 1600000
/-! both sides show alike, and throw alike -/
section
variable {κ : zS} {a b n : Nat} {σ : rS} {V U : Nat → Rat}
theorem k2_16 {x : Int32} : (x < 2 ↔ ¬ 1 < x) ∧ (x < 11 ∧ 0 ≤ x → 0 ≤ x.toInt ∧ x.toInt < 11) := by
  have l1 : (1 : Int32).toInt = 1 := rfl
  have l2 : (2 : Int32).toInt = 2 := rfl
  have l11 : (11 : Int32).toInt = 11 := rfl
  rw [lti, lti, lti, lei, l1, l2, l11, t0i]
  omega
theorem r11_16 {x : Int32} (h : x ≤ 12) (n12 : ¬ x = 12) (n11 : ¬ x = 11) : x < 11 := by grind
theorem sB_e16 {kind9 : Int32} (w : 0 ≤ kind9 ∧ kind9 ≤ (12 : Int32)) (hm : zI κ chPlayMade a ≠ 0 ↔ σ.1 106 ≠ -1) (hp : zI κ soPlanned (zR κ chSolver a) ≠ 0 ↔ σ.1 114 ≠ 0) (hs : zI κ soSolved (zR κ chSolver a) ≠ 0 ↔ σ.1 94 ≠ 0) (hv : zI κ soSolved (zR κ chSolver a) ≠ 0 → VS16 κ (zR κ chSolver a) b n σ V ∧ (n = 0 → σ.2.2.1 75 0 = 0)) : sB16 κ a σ V n kind9 ↔ shC σ kind9 ∧ (kind9 < 2 → swQ σ 6 0 0 ≠ 0) ∧ (kind9 = 10 → swQ σ 7 0 0 ≠ 0) := by
  constructor
  · intro B
    rcases B with ⟨e, m⟩ | ⟨e, p⟩ | ⟨n12, n11, s, c6, c7⟩
    · subst e
      exact ⟨⟨fun _ => hm.mp m, fun z => absurd z (by decide), fun z => absurd z (by decide), by decide⟩, fun z => absurd z (by decide), fun z => absurd z (by decide)⟩
    · subst e
      exact ⟨⟨fun z => absurd z (by decide), fun _ => hp.mp p, fun z => absurd z (by decide), by decide⟩, fun z => absurd z (by decide), fun z => absurd z (by decide)⟩
    · have P := sP_16 (hv s).1 (hv s).2
      exact ⟨⟨fun z => absurd z n12, fun z => absurd z n11, fun _ => hs.mp s, w.2⟩, fun z => P.2.1.mp (c6 (k2_16.1.mp z)), fun z => P.2.2.mp (c7 z)⟩
  · rintro ⟨⟨c1, c2, c3, _⟩, c4, c5⟩
    by_cases e12 : kind9 = 12
    · exact Or.inl ⟨e12, hm.mpr (c1 e12)⟩
    · by_cases e11 : kind9 = 11
      · exact Or.inr (Or.inl ⟨e11, hp.mpr (c2 e11)⟩)
      · have s := hs.mpr (c3 (r11_16 w.2 e12 e11))
        have P := sP_16 (hv s).1 (hv s).2
        exact Or.inr (Or.inr ⟨e12, e11, s, fun z => P.2.1.mpr (c4 (k2_16.1.mpr z)), fun z => P.2.2.mpr (c5 z)⟩)
theorem cc_q16 {kind v : Int32} (hm : zI κ chPlayMade a ≠ 0 ↔ σ.1 106 ≠ -1) (hp : zI κ soPlanned (zR κ chSolver a) ≠ 0 ↔ σ.1 114 ≠ 0) (hs : zI κ soSolved (zR κ chSolver a) ≠ 0 ↔ σ.1 94 ≠ 0) (hv : zI κ soSolved (zR κ chSolver a) ≠ 0 → VS16 κ (zR κ chSolver a) b n σ V ∧ (n = 0 → σ.2.2.1 75 0 = 0)) (ht : sB16 κ a σ V n kind → ¬ kind = 12 → zI κ hoTotal (zR κ atStates (zR κ chAtlas a)) = σ.1 70 ∧ zI κ hoTotal (zR κ atEndings (zR κ chAtlas a)) = σ.1 71) : (¬ (0 ≤ kind.toInt ∧ kind.toInt ≤ 12) → cc16 σ kind v = 1) ∧ ((0 ≤ kind.toInt ∧ kind.toInt ≤ 12) ∧ ¬ sB16 κ a σ V n kind → cc16 σ kind v = 2) ∧ ((0 ≤ kind.toInt ∧ kind.toInt ≤ 12) ∧ sB16 κ a σ V n kind ∧ ¬ sD16 κ a kind v → cc16 σ kind v = 3) ∧ ((0 ≤ kind.toInt ∧ kind.toInt ≤ 12) ∧ sB16 κ a σ V n kind ∧ sD16 κ a kind v → cc16 σ kind v = 0) := by
  have l12 : (12 : Int32).toInt = 12 := rfl
  have A : (0 ≤ kind ∧ kind ≤ 12) ↔ (0 ≤ kind.toInt ∧ kind.toInt ≤ 12) := by rw [lei, lei, t0i, l12]
  have D : sB16 κ a σ V n kind → (sD16 κ a kind v ↔ (kind = 2 → 0 ≤ v ∧ v < σ.1 71) ∧ (kind = 8 ∨ kind = 11 → 0 ≤ v ∧ v < σ.1 70)) := fun B => by
    unfold sD16
    by_cases e12 : kind = 12
    · subst e12
      exact ⟨fun _ => ⟨fun z => absurd z (by decide), fun z => by rcases z with z | z <;> exact absurd z (by decide)⟩, fun _ => ⟨fun z => absurd z (by decide), fun z => by rcases z with z | z <;> exact absurd z (by decide)⟩⟩
    · obtain ⟨t1, t2⟩ := ht B e12
      rw [t1, t2, lei, lti, lti, t0i]
  refine ⟨fun h => ?_, fun h => ?_, fun h => ?_, fun h => ?_⟩
  · have e := ca_116 (σ := σ) (fun z => h (A.mp z))
    have ne : ¬ ca16 σ kind = 0 := by rw [e]; decide
    have e2 := cb_a16 ne
    rw [cc_b16 (by rw [e2]; exact ne), e2, e]
  · have w := A.mpr h.1
    have E := sB_e16 w hm hp hs hv
    have n2 : cb16 σ kind = 2 := by
      by_cases c : shC σ kind
      · exact cb_216 (ca_016 w c) (fun z => h.2 (E.mpr ⟨c, z⟩))
      · have e := ca_216 w c
        rw [cb_a16 (by rw [e]; decide), e]
    rw [cc_b16 (by rw [n2]; decide), n2]
  · have w := A.mpr h.1
    obtain ⟨c, c2⟩ := (sB_e16 w hm hp hs hv).mp h.2.1
    exact cc_316 (cb_016 (ca_016 w c) c2) (fun z => h.2.2 ((D h.2.1).mpr z))
  · have w := A.mpr h.1
    obtain ⟨c, c2⟩ := (sB_e16 w hm hp hs hv).mp h.2.1
    exact cc_016 (cb_016 (ca_016 w c) c2) ((D h.2.1).mp h.2.2)
theorem sq_e16 {kind v : Int32} (A : 0 ≤ kind.toInt ∧ kind.toInt ≤ 12) (B : sB16 κ a σ V n kind) (D : sD16 κ a kind v) (hv : zI κ soSolved (zR κ chSolver a) ≠ 0 → VS16 κ (zR κ chSolver a) b n σ V ∧ (n = 0 → σ.2.2.1 75 0 = 0) ∧ (∀ k, k < n → gg16 κ (zR κ chSolver a) k = σ.2.2.1 82 k) ∧ (zI κ hoTotal (zR κ atStates (zR κ chAtlas a))).toInt = (n : Int)) (hu : zI κ soPlanned (zR κ chSolver a) ≠ 0 → ∀ k : Nat, (k : Int) < (zI κ hoTotal (zR κ atStates (zR κ chAtlas a))).toInt → U k = wr16 σ k) (hd : zI κ chPlayMade a ≠ 0 → pd16 (dW16 κ a) (dT16 κ a) (dC16 κ a).toNat = fQ σ 17 18) : sq16 κ a σ V U n kind v = shR16 σ kind v := by
  have l7 : (7 : Int32).toInt = 7 := rfl
  have l9 : (9 : Int32).toInt = 9 := rfl
  unfold sq16
  by_cases e12 : kind = 12
  · rw [if_pos e12, hd (sB_m16 e12 B), e12, sR_1216]
  · rw [if_neg e12]
    by_cases e11 : kind = 11
    · have y := D.2 (Or.inr e11)
      have k := cnk y.1
      have p : zI κ soPlanned (zR κ chSolver a) ≠ 0 := by
        rcases B with ⟨z, _⟩ | ⟨_, p⟩ | ⟨_, z, _⟩
        · exact absurd z e12
        · exact p
        · exact absurd e11 z
      rw [if_pos e11, hu p v.toNatClampNeg (by omega), e11, sR_1116]
    · rw [if_neg e11]
      have s : zI κ soSolved (zR κ chSolver a) ≠ 0 := by
        rcases B with ⟨z, _⟩ | ⟨z, _⟩ | ⟨_, _, s, _⟩
        · exact absurd z e12
        · exact absurd z e11
        · exact s
      obtain ⟨h, z75, hg, hn⟩ := hv s
      by_cases c : kind < 7 ∨ 9 < kind
      · rw [if_pos c]
        refine sT_16 h z75 A.1 (c.imp id (fun z => ?_))
        rw [lti, l9] at z
        have n11 : kind.toInt ≠ 11 := fun y => e11 (ik_16 (k := 11) y)
        have n12 : kind.toInt ≠ 12 := fun y => e12 (ik_16 (k := 12) y)
        exact ik_16 (k := 10) (show kind.toInt = 10 by omega)
      · rw [if_neg c]
        have g : kind.toInt = 7 ∨ kind.toInt = 8 ∨ kind.toInt = 9 := by
          rw [lti, lti, l7, l9] at c
          omega
        rcases g with g | g | g
        · have e := ik_16 (k := 7) g
          subst e
          rw [if_neg (by decide)]
          exact (sV_16v h hg).1
        · have e := ik_16 (k := 8) g
          subst e
          have y := D.2 (Or.inl rfl)
          have k := cnk y.1
          rw [if_pos rfl, sR_816, fV_16 (h.2.2.2.1 v.toNatClampNeg (by omega))]
        · have e := ik_16 (k := 9) g
          subst e
          rw [if_neg (by decide)]
          exact (sV_16v h hg).2
end

end
section
set_option maxHeartbeats 1600000
/-! show: visits and worths stay -/
theorem Ch_show_q16 {C : zC} {n0 : Nat} {a0 : Nat} {a1 : Int32} {a2 : Int32} {κ : zS} {Q : Int32 → zS → Prop} {X : zXp} (W : zW C n0 κ) (Ta0 : zT κ a0 = 15) (ρ : Nat → Nat) (L9 : Int) (n9 P9 : Nat) (σ9 : rS) (V9 U9 : Nat → Rat) (hS9 : zI κ soSolved (zR κ chSolver a0) ≠ 0 → tbl15 κ (zR κ chAtlas a0) n9 σ9 ∧ lst16 κ (zR κ chAtlas a0) σ9 ∧ vV15 κ (zR κ chSolver a0) n9 V9 ∧ lz16 κ (zR κ chAtlas a0) n9) (hU9 : zI κ soPlanned (zR κ chSolver a0) ≠ 0 → ∀ k : Nat, (k : Int) < (zI κ hoTotal (zR κ atStates (zR κ chAtlas a0))).toInt → rqW8 κ (wU9 κ (zR κ chSolver a0) k) (U9 k)) (hD9 : zI κ chPlayMade a0 ≠ 0 → dO16 κ a0) (hp : chI9 ρ κ a0 L9 ∧ (zI κ soSolved (zR κ chSolver a0) ≠ 0 → odX9 ρ κ (zR κ chOdds a0) n9 P9 ∧ (0 < P9 ∧ P9 < pB9 1490) ∧ atW κ (zR κ chAtlas a0) n9 ∧ vsI9 ρ κ (zR κ chSolver a0) n9 P9 ∧ n9 ≤ (zN κ (zR κ soVisits (zR κ chSolver a0))))) (h : ∀ (v : Int32) (κ' : zS), ((chI9 ρ κ' a0 L9 ∧ (∃ F, zF F κ κ') ∧ zI κ' chTolds a0 = zI κ chTolds a0) ∧ ((v.toInt = (sq16 κ a0 σ9 V9 U9 n9 a1 a2).num.sign ∧ rqW8 κ' (zR κ chShown a0) (sq16 κ a0 σ9 V9 U9 n9 a1 a2)) ∧ (0 ≤ a1.toInt ∧ a1.toInt ≤ 12) ∧ sB16 κ a0 σ9 V9 n9 a1 ∧ sD16 κ a0 a1 a2 ∧ ∃ ca, zF (soF ρ shR9 ca) κ κ')) → Q v κ') (hx : ∀ (cls : String) (κ' : zS), (((cls = "java/lang/IllegalArgumentException" ∨ cls = "java/lang/IllegalStateException" ∨ cls = "java/lang/IndexOutOfBoundsException") ∧ κ' = ut κ) ∧ ((cls = "java/lang/IllegalArgumentException" ∧ ¬ (0 ≤ a1.toInt ∧ a1.toInt ≤ 12)) ∨ (cls = "java/lang/IllegalStateException" ∧ (0 ≤ a1.toInt ∧ a1.toInt ≤ 12) ∧ ¬ sB16 κ a0 σ9 V9 n9 a1) ∨ (cls = "java/lang/IndexOutOfBoundsException" ∧ (0 ≤ a1.toInt ∧ a1.toInt ≤ 12) ∧ sB16 κ a0 σ9 V9 n9 a1 ∧ ¬ sD16 κ a0 a1 a2))) → X cls κ') : zRun C 8 mCh_show [.ref a0, .int a1, .int a2] κ (oI Q X) := by
  refine Ch_show_run W Ta0 ?_
  replace W := W.lo (Nat.le_trans W.1.2.1 W.1.2.2) (Nat.le_refl (zn κ))
  unfold w_Ch_show_0
  obtain ⟨I, hX⟩ := hp
  have tS := ty_chSolver W Ta0
  have NS := I.2.2.1.1.1
  have h30 := I.2.2.1.2.2.2
  have J := ch_n9 I
  have D1 := I.2.2.2.2.1.1
  have hj156 : ∀ (l0 : Nat) (l1 : Int32) (l2 : Int32) (τ : zS), zW C (zn κ) τ → zT τ l0 = 15 → ((κ = τ ∧ a0 = l0 ∧ a1 = l1 ∧ a2 = l2 ∧ zI κ soSolved (zR κ chSolver a0) ≠ 0) ∧ (¬ a1 = 12 ∧ ¬ a1 = 11 ∧ (a1 < 7 ∨ 9 < a1)) ∧ (0 ≤ a1.toInt ∧ a1.toInt ≤ 12) ∧ sB16 κ a0 σ9 V9 n9 a1 ∧ sD16 κ a0 a1 a2) → w_Ch_show_156 C (zn κ) Q X  l0 l1 l2 τ := by
    rintro _ _ _ _ W156 T156_0 ⟨⟨rfl, rfl, rfl, rfl, j156⟩, hE⟩
    unfold w_Ch_show_156
    intro T1
    intro T2
    refine Od_showWeight_q6 W156 T1 T2 ρ n9 P9 σ9 V9 (by rw [D1.1]; exact (hS9 j156).1) (by rw [D1.1]; exact (hS9 j156).2.1) (by rw [D1.2.1]; exact (hS9 j156).2.2.1) (by rw [D1.1]; exact (hS9 j156).2.2.2) hE.2.1.1 (by rw [D1.2.1]; exact dK_p16 (hS9 j156).1 (hS9 j156).2.2.1 hE.2.1.1 (sB_t16 hE.1.1 hE.1.2.1 hE.2.2.1).1 (sB_t16 hE.1.1 hE.1.2.1 hE.2.2.1).2) ?_ (fun κ_3 q4 => ?_)
    · have X := hX j156
      rw [D1.2.1]
      exact ⟨NS, X.1, X.2.1, h30⟩
    obtain ⟨q4, z9⟩ := q4
    intro W5
    intro M6
    refine h _ _ ?_
    · refine and_5 ?_ (fun o9 => ?_)  -- q2
      · rw [D1.2.1] at q4
        exact chI_n9 W Ta0 q4.1.1 (fun r z => z) ⟨q4.1.2.1, q4.1.2.2⟩ q4.2 I
      · rw [D1.2.1] at z9
        have e : sq16 κ a0 σ9 V9 U9 n9 a1 a2 = tK16 κ (zR κ chSolver a0) σ9 V9 a1 a2 n9 * (dK16 κ (zR κ chSolver a0) σ9 V9 a1 a2 n9)⁻¹ := by
          unfold sq16
          rw [if_neg hE.1.1, if_neg hE.1.2.1, if_pos hE.1.2.2]
        rw [e]
        refine ⟨⟨?_, z9⟩, hE.2.1, hE.2.2.1, hE.2.2.2, _, q4.1.1⟩
        rw [(soF_r9 q4.1.1 (f := chShown) (by decide)).1]
        exact z9.1
  have hj90 : ∀ (l0 : Nat) (l1 : Int32) (l2 : Int32) (τ : zS), zW C (zn κ) τ → zT τ l0 = 15 → ((κ = τ ∧ a0 = l0 ∧ a1 = l1 ∧ a2 = l2 ∧ ((¬ a1 = 12 → ¬ a1 = 11 → zI κ soSolved (zR κ chSolver a0) ≠ 0) ∧ (a1 = 11 → zI κ soPlanned (zR κ chSolver a0) ≠ 0)) ∧ (a1 = 8 ∨ a1 = 11 → zI κ atExplored (zR κ chAtlas a0) ≠ 0 ∧ 0 ≤ a2.toInt ∧ a2.toInt < (zI κ hoTotal (zR κ atStates (zR κ chAtlas a0))).toInt)) ∧ (0 ≤ a1.toInt ∧ a1.toInt ≤ 12) ∧ sB16 κ a0 σ9 V9 n9 a1 ∧ sD16 κ a0 a1 a2) → w_Ch_show_90 C (zn κ) Q X  l0 l1 l2 τ := by
    rintro _ _ _ _ W90 T90_0 ⟨⟨rfl, rfl, rfl, rfl, j90⟩, hE⟩
    unfold w_Ch_show_90
    refine ⟨fun c7 => ?_, fun c7 => ?_⟩
    · skip
      refine ⟨fun c8 => ?_, fun c8 => ?_⟩
      · skip
        refine ⟨fun c9 => ?_, fun c9 => ?_⟩
        · skip
          refine hj156 _ _ _ _ W90 ?_ ?_
          · exact Ta0  -- t3
          · refine and_5 ?_ (fun o9 => ⟨⟨c7, c8, Or.inl c9⟩, hE⟩)  -- k4
            exact ⟨rfl, rfl, rfl, rfl, j90.1.1 c7 c8⟩
        · skip
          refine ⟨fun c10 => ?_, fun c10 => ?_⟩
          · skip
            refine hj156 _ _ _ _ W90 ?_ ?_
            · exact Ta0  -- t5
            · refine and_5 ?_ (fun o9 => ⟨⟨c7, c8, Or.inr c10⟩, hE⟩)  -- k6
              exact ⟨rfl, rfl, rfl, rfl, j90.1.1 c7 c8⟩
          · skip
            intro T11
            intro T12
            refine So_showVisits_q6 W90 T11 T12 ρ n9 P9 V9 (hS9 (j90.1.1 c7 c8)).2.2.1 ?_ (fun κ_13 q14 => ?_)
            · have X := hX (j90.1.1 c7 c8)
              refine ⟨NS, ⟨by rw [I.2.2.1.2.2.1.1]; exact X.2.2.1, X.2.2.2.2⟩, X.2.2.2.1, X.2.1, h30, fun z => ?_⟩
              have y := j90.2 (Or.inl z)
              have t := X.2.2.1.2.2.2.1
              exact ⟨y.2.1, by omega⟩
            obtain ⟨q14, z9⟩ := q14
            intro W15
            intro M16
            refine h _ _ ?_
            · refine and_5 ?_ (fun o9 => ?_)  -- q8
              · refine chI_n9 W Ta0 q14.1.1 (fun r z => z) ⟨q14.1.2.1, q14.1.2.2⟩ ?_ I
                rcases q14.2 with y | y
                · exact y
                · rw [y]; exact I.2.2.1.1.2.2.2.2.2.2
              · have e : sq16 κ a0 σ9 V9 U9 n9 a1 a2 = if a1 = 8 then V9 a2.toNatClampNeg else vs16 V9 (gg16 κ (zR κ chSolver a0)) a1 n9 := by
                  unfold sq16
                  rw [if_neg c7, if_neg c8, if_neg (fun z => z.elim c9 c10)]
                rw [e]
                refine ⟨⟨?_, z9⟩, hE.1, hE.2.1, hE.2.2, _, q14.1.1⟩
                rw [(soF_r9 q14.1.1 (f := chShown) (by decide)).1]
                exact z9.1
      · skip
        have H11 : zI κ soPlanned (zR κ chSolver a0) ≠ 0 → (zI κ atExplored (zR κ chAtlas a0) ≠ 0 ∧ 0 ≤ a2.toInt ∧ a2.toInt < (zI κ hoTotal (zR κ atStates (zR κ chAtlas a0))).toInt) → (a2.toInt < (zN κ (zR κ soWorths (zR κ chSolver a0))) ∧ a2.toNatClampNeg < 1000) ∧ ∃ u, zQ κ (zR κ soWorths (zR κ chSolver a0)) a2.toNatClampNeg = some u := fun y1 y2 => by
          obtain ⟨x1, x3⟩ := I.2.2.2.1.2 y1
          obtain ⟨⟨n, hn⟩, _⟩ := ch_x9 I x1
          have t := hn.2.2.2.1
          have t3 := hn.2.2.1
          have k := cnk y2.2.1
          have z := x3 n hn
          exact ⟨⟨by omega, by omega⟩, z.2 _ (by omega)⟩
        refine ⟨?_, ?_⟩
        · have y2 := j90.2 (Or.inr c8)
          have H := H11 (j90.1.2 c8) y2
          rw [inb_iff]
          exact ⟨y2.2.1, H.1.1⟩
        refine ex_some ?_ (fun u17 hu17 => ?_)
        · exact (H11 (j90.1.2 c8) (j90.2 (Or.inr c8))).2  -- e10
        intro T18
        intro T19
        have hw := I.2.2.1.1.2.2.2.2.1.1 _ u17 (H11 (j90.1.2 c8) (j90.2 (Or.inr c8))).1.2 hu17
        have hr : raR (104 + 8 * a2.toNatClampNeg) := Or.inr (Or.inr ⟨by omega, by have := (H11 (j90.1.2 c8) (j90.2 (Or.inr c8))).1.2; omega, by omega⟩)
        have q := NS.1.2 u17 (by rw [hw]; exact hr)
        rw [hw] at q
        have q30 := ra_t9 NS.1 h30 (Or.inr rfl)
        have g1 := nm_g NS.1 q.2.1 (raR_n hr).1 (by omega)
        have g2 := nm_g NS.1 q.2.2 (raR_n hr).2 (by omega)
        have c1 : capR (104 + 8 * a2.toNatClampNeg + 1) = 20 := by
          have := (H11 (j90.1.2 c8) (j90.2 (Or.inr c8))).1.2
          unfold capR
          rw [if_neg (by omega), if_pos (by omega)]
        have c2 : capR (104 + 8 * a2.toNatClampNeg + 2) = 20 := by
          have := (H11 (j90.1.2 c8) (j90.2 (Or.inr c8))).1.2
          unfold capR
          rw [if_neg (by omega), if_pos (by omega)]
        rw [c1] at g1
        rw [c2] at g2
        have k1 := nuK_c9 g1.1
        have k2 := nuK_c9 g2.1
        refine Ra_copy_c W90 T18 T19 6500 ?_ (fun κ_20 q21 => ?_)
        · refine ⟨q30.2.1, ⟨g1.2.1, g2.2.1, ro_n q.2.1 q.2.2 (by omega)⟩, ⟨ro_n q30.1.1 q.2.1 (by omega), ro_n q30.1.1 q.2.2 (by omega), ro_n q30.1.2 q.2.1 (by omega), ro_n q30.1.2 q.2.2 (by omega)⟩, ⟨by omega, by omega⟩, by decide⟩  -- p11
        intro W22
        intro M23
        refine h _ _ ?_
        · refine and_5 ?_ (fun o9 => ?_)  -- q12
          · have rt := raF_r q21.1 (f := raTop) (x := zR κ chShown a0) (by decide) (by decide) (by decide)
            have rb := raF_r q21.1 (f := raBottom) (x := zR κ chShown a0) (by decide) (by decide) (by decide)
            have y := q21.2.1
            unfold raJ at y
            rw [rt, rb] at y
            have M := nm_ra W tS NS.1 NS.2 h30 (Or.inr (Or.inl rfl)) q21.1 y.1 y.2.1
            have tl := ty_soLess W tS
            have l8 : ρ (zR κ soLess (zR κ chSolver a0)) = 8 := NS.2.1.2.2.2.2.2.1
            have nl := (soF_B (c := 0) W tl (M.2 0) (by rw [l8]; decide)).2.1
            exact chI_n9 W Ta0 (M.2 0) (fun r z => by rcases z with z | z | z <;> omega) M.1 (by rw [nl]; exact I.2.2.1.1.2.2.2.2.2.2) I
          · have FF : ∃ ca, zF (soF ρ shR9 ca) κ κ_20 := by
              have rt := raF_r q21.1 (f := raTop) (x := zR κ chShown a0) (by decide) (by decide) (by decide)
              have rb := raF_r q21.1 (f := raBottom) (x := zR κ chShown a0) (by decide) (by decide) (by decide)
              have y := q21.2.1
              unfold raJ at y
              rw [rt, rb] at y
              have M := nm_ra W tS NS.1 NS.2 h30 (Or.inr (Or.inl rfl)) q21.1 y.1 y.2.1
              exact ⟨0, soF_m (fun r z => by show r < 100; rcases z with z | z | z <;> omega) (M.2 0)⟩
            have y2 := hE.2.2.2 (Or.inr c8)
            have k2 := cnk y2.1
            have H := hU9 (j90.1.2 c8) a2.toNatClampNeg (by omega)
            have eu : wU9 κ (zR κ chSolver a0) a2.toNatClampNeg = u17 := by
              unfold wU9
              rw [hu17]
              rfl
            rw [eu] at H
            have e : sq16 κ a0 σ9 V9 U9 n9 a1 a2 = U9 a2.toNatClampNeg := by
              unfold sq16
              rw [if_neg c7, if_pos c8]
            have rs := raF_r q21.1 (f := chShown) (x := a0) (by decide) (by decide) (by decide)
            have Vc := q21.2.2
            rw [e, rs]
            exact ⟨⟨Vc.1.trans H.1, Vc.1.trans H.1, Vc.2.1.trans H.2.1, Vc.2.2.trans H.2.2⟩, hE.1, hE.2.1, hE.2.2, FF⟩
    · skip
      intro T24
      refine Ch_showPlay_q6 W90 T24 (hD9 (sB_m16 c7 hE.2.1)) ?_ (fun κ_25 q26 => ?_)
      · exact ⟨(ra_t9 NS.1 h30 (Or.inr rfl)).2.1, I.2.2.2.2.2.1.2.2.2.2, I.2.2.2.2.2.1.2.1.1⟩  -- p13
      obtain ⟨q26, z9⟩ := q26
      intro W27
      intro M28
      refine h _ _ ?_
      · refine and_5 ?_ (fun o9 => ?_)  -- q14
        · have rt := raF_r q26.1 (f := raTop) (x := zR κ chShown a0) (by decide) (by decide) (by decide)
          have rb := raF_r q26.1 (f := raBottom) (x := zR κ chShown a0) (by decide) (by decide) (by decide)
          have y := q26.2
          unfold raJ at y
          rw [rt, rb] at y
          have M := nm_ra W tS NS.1 NS.2 h30 (Or.inr (Or.inl rfl)) q26.1 y.1 y.2.1
          have tl := ty_soLess W tS
          have l8 : ρ (zR κ soLess (zR κ chSolver a0)) = 8 := NS.2.1.2.2.2.2.2.1
          have nl := (soF_B (c := 0) W tl (M.2 0) (by rw [l8]; decide)).2.1
          exact chI_n9 W Ta0 (M.2 0) (fun r z => by rcases z with z | z | z <;> omega) M.1 (by rw [nl]; exact I.2.2.1.1.2.2.2.2.2.2) I
        · have FF : ∃ ca, zF (soF ρ shR9 ca) κ κ_25 := by
            have rt := raF_r q26.1 (f := raTop) (x := zR κ chShown a0) (by decide) (by decide) (by decide)
            have rb := raF_r q26.1 (f := raBottom) (x := zR κ chShown a0) (by decide) (by decide) (by decide)
            have y := q26.2
            unfold raJ at y
            rw [rt, rb] at y
            have M := nm_ra W tS NS.1 NS.2 h30 (Or.inr (Or.inl rfl)) q26.1 y.1 y.2.1
            exact ⟨0, soF_m (fun r z => by show r < 100; rcases z with z | z | z <;> omega) (M.2 0)⟩
          have e : sq16 κ a0 σ9 V9 U9 n9 a1 a2 = pd16 (dW16 κ a0) (dT16 κ a0) (dC16 κ a0).toNat := by
            unfold sq16
            rw [if_pos c7]
          have rs := raF_r q26.1 (f := chShown) (x := a0) (by decide) (by decide) (by decide)
          rw [e, rs]
          exact ⟨⟨z9.1, z9⟩, hE.1, hE.2.1, hE.2.2, FF⟩
  have hj68 : ∀ (l0 : Nat) (l1 : Int32) (l2 : Int32) (τ : zS), zW C (zn κ) τ → zT τ l0 = 15 → ((κ = τ ∧ a0 = l0 ∧ a1 = l1 ∧ a2 = l2 ∧ ((¬ a1 = 12 → ¬ a1 = 11 → zI κ soSolved (zR κ chSolver a0) ≠ 0) ∧ (a1 = 11 → zI κ soPlanned (zR κ chSolver a0) ≠ 0))) ∧ (0 ≤ a1.toInt ∧ a1.toInt ≤ 12) ∧ sB16 κ a0 σ9 V9 n9 a1 ∧ (a1 = 2 → 0 ≤ a2.toInt ∧ a2.toInt < (zI κ hoTotal (zR κ atEndings (zR κ chAtlas a0))).toInt) ∧ (a1 = 8 ∨ a1 = 11)) → w_Ch_show_68 C (zn κ) Q X  l0 l1 l2 τ := by
    rintro _ _ _ _ W68 T68_0 ⟨⟨rfl, rfl, rfl, rfl, j68⟩, hE⟩
    unfold w_Ch_show_68
    intro T29
    refine At_holds_q6 W68 T29  (fun r30 q32 => ?_)
    obtain ⟨q32, z9⟩ := q32
    intro W33
    intro M34
    refine ⟨fun c35 => ?_, fun c35 => ?_⟩
    · skip
      refine hj90 _ _ _ _ W33 ?_ ?_
      · exact Ta0  -- t15
      · refine and_5 ?_ (fun o9 => ⟨hE.1, hE.2.1, hE.2.2.1, fun _ => (q32.2 c35).2⟩)  -- k16
        exact ⟨rfl, rfl, rfl, rfl, j68, fun _ => q32.2 c35⟩
    · skip
      intro κ_36 hκ_36
      refine hx _ _ ?_
      · refine and_5 ?_ (fun o9 => ?_)  -- x17
        · exact ⟨Or.inr (Or.inr rfl), hκ_36⟩
        · have n12 : ¬ a1 = 12 := fun z => by rcases hE.2.2.2 with y | y <;> rw [z] at y <;> exact absurd y (by decide)
          exact Or.inr (Or.inr ⟨rfl, hE.1, hE.2.1, fun z => z9.mpr ⟨exx_16 I n12 hE.2.1, z.2 hE.2.2.2⟩ c35⟩)
  have hj56 : ∀ (l0 : Nat) (l1 : Int32) (l2 : Int32) (τ : zS), zW C (zn κ) τ → zT τ l0 = 15 → ((κ = τ ∧ a0 = l0 ∧ a1 = l1 ∧ a2 = l2 ∧ ((¬ a1 = 12 → ¬ a1 = 11 → zI κ soSolved (zR κ chSolver a0) ≠ 0) ∧ (a1 = 11 → zI κ soPlanned (zR κ chSolver a0) ≠ 0))) ∧ (0 ≤ a1.toInt ∧ a1.toInt ≤ 12) ∧ sB16 κ a0 σ9 V9 n9 a1 ∧ (a1 = 2 → 0 ≤ a2.toInt ∧ a2.toInt < (zI κ hoTotal (zR κ atEndings (zR κ chAtlas a0))).toInt)) → w_Ch_show_56 C (zn κ) Q X  l0 l1 l2 τ := by
    rintro _ _ _ _ W56 T56_0 ⟨⟨rfl, rfl, rfl, rfl, j56⟩, hE⟩
    unfold w_Ch_show_56
    refine ⟨fun c37 => ?_, fun c37 => ?_⟩
    · skip
      refine hj68 _ _ _ _ W56 ?_ ?_
      · exact Ta0  -- t18
      · refine and_5 ?_ (fun o9 => ⟨hE.1, hE.2.1, hE.2.2, Or.inl c37⟩)  -- k19
        exact ⟨rfl, rfl, rfl, rfl, j56⟩
    · skip
      refine ⟨fun c38 => ?_, fun c38 => ?_⟩
      · skip
        refine hj90 _ _ _ _ W56 ?_ ?_
        · exact Ta0  -- t20
        · refine and_5 ?_ (fun o9 => ⟨hE.1, hE.2.1, hE.2.2, fun z => z.elim (fun y => absurd y c37) (fun y => absurd y c38)⟩)  -- k21
          exact ⟨rfl, rfl, rfl, rfl, j56, fun z => z.elim (fun y => absurd y c37) (fun y => absurd y c38)⟩
      · skip
        refine hj68 _ _ _ _ W56 ?_ ?_
        · exact Ta0  -- t22
        · refine and_5 ?_ (fun o9 => ⟨hE.1, hE.2.1, hE.2.2, Or.inr c38⟩)  -- k23
          exact ⟨rfl, rfl, rfl, rfl, j56⟩
  refine ⟨fun c39 => ?_, fun c39 => ?_⟩
  · skip
    intro κ_40 hκ_40
    refine hx _ _ ?_
    · refine and_5 ?_ (fun o9 => Or.inl ⟨rfl, fun z => by rw [lti, t0i] at c39; omega⟩)  -- x24
      exact ⟨Or.inl rfl, hκ_40⟩
  · skip
    refine ⟨fun c41 => ?_, fun c41 => ?_⟩
    · skip
      intro T42
      refine Ch_showsNow_q6 W T42 ρ n9 P9 σ9 V9 (fun z => by rw [D1.1, D1.2.1]; exact ⟨(hS9 z).1, (hS9 z).2.1, (hS9 z).2.2.1⟩) ?_ (fun r43 q45 => ?_)
      · exact fun z => (hX z).1  -- p25
      obtain ⟨q45, z9⟩ := q45
      have zs := z9
      intro W46
      intro M47
      refine ⟨fun c48 => ?_, fun c48 => ?_⟩
      · skip
        refine ⟨fun c49 => ?_, fun c49 => ?_⟩
        · skip
          refine hj56 _ _ _ _ W46 ?_ ?_
          · exact Ta0  -- t26
          · refine and_5 ?_ (fun o9 => ?_)  -- k27
            · exact ⟨rfl, rfl, rfl, rfl, q45.2 c48⟩
            · have A : 0 ≤ a1.toInt ∧ a1.toInt ≤ 12 := by
                have l12 : (12 : Int32).toInt = 12 := rfl
                rw [lti, t0i] at c39
                rw [lei, l12] at c41
                omega
              exact ⟨A, zs.mp c48, fun z => absurd z c49⟩
        · skip
          intro T50
          refine At_holdsEnding_q6 W46 T50  (fun r51 q53 => ?_)
          obtain ⟨q53, z9⟩ := q53
          intro W54
          intro M55
          refine ⟨fun c56 => ?_, fun c56 => ?_⟩
          · skip
            intro κ_57 hκ_57
            refine hx _ _ ?_
            · refine and_5 ?_ (fun o9 => ?_)  -- x28
              · exact ⟨Or.inr (Or.inr rfl), hκ_57⟩
              · have A : 0 ≤ a1.toInt ∧ a1.toInt ≤ 12 := by
                  have l12 : (12 : Int32).toInt = 12 := rfl
                  rw [lti, t0i] at c39
                  rw [lei, l12] at c41
                  omega
                have n12 : ¬ a1 = 12 := fun z => by rw [z] at c49; exact absurd c49 (by decide)
                exact Or.inr (Or.inr ⟨rfl, A, zs.mp c48, fun z => z9.mpr ⟨exx_16 I n12 (zs.mp c48), z.1 c49⟩ c56⟩)
          · skip
            refine hj56 _ _ _ _ W54 ?_ ?_
            · exact Ta0  -- t29
            · refine and_5 ?_ (fun o9 => ?_)  -- k30
              · exact ⟨rfl, rfl, rfl, rfl, q45.2 c48⟩
              · have A : 0 ≤ a1.toInt ∧ a1.toInt ≤ 12 := by
                  have l12 : (12 : Int32).toInt = 12 := rfl
                  rw [lti, t0i] at c39
                  rw [lei, l12] at c41
                  omega
                exact ⟨A, zs.mp c48, fun _ => (z9.mp c56).2⟩
      · skip
        intro κ_58 hκ_58
        refine hx _ _ ?_
        · refine and_5 ?_ (fun o9 => ?_)  -- x31
          · exact ⟨Or.inr (Or.inl rfl), hκ_58⟩
          · have A : 0 ≤ a1.toInt ∧ a1.toInt ≤ 12 := by
              have l12 : (12 : Int32).toInt = 12 := rfl
              rw [lti, t0i] at c39
              rw [lei, l12] at c41
              omega
            exact Or.inr (Or.inl ⟨rfl, A, fun z => zs.mpr z c48⟩)
    · skip
      intro κ_59 hκ_59
      refine hx _ _ ?_
      · refine and_5 ?_ (fun o9 => Or.inl ⟨rfl, fun z => c41 (by have l12 : (12 : Int32).toInt = 12 := rfl; rw [lei, l12]; exact z.2)⟩)  -- x32
        exact ⟨Or.inl rfl, hκ_59⟩

end
section
set_option maxHeartbeats 1600000
/-! the class: ChanceWorks' explore, decide -/
/-- atlas, where its plan, machine and web alone may be touched -/
theorem chB_w9 {C : zC} {n0 a : Nat} {F : Nat → Nat → Prop} {κ τ : zS} (W : zW C n0 κ) (T : zT κ a = 15) (Z : zF F κ τ) (hO : ∀ f, f / 100 = 15 → f ≠ chDrawnWeights → f ≠ chDrawnTotals → zR τ f a = zR κ f a) (n3 : ∀ f, f / 100 = 3 → f ≠ atPlan → ¬ F f (zR κ chAtlas a)) (ns : un9 F (zR κ atStates (zR κ chAtlas a)) 6) (ne : un9 F (zR κ atEndings (zR κ chAtlas a)) 6) (nc : un9 F (zR κ atCode (zR κ chAtlas a)) 5) (hm : maL τ (zR κ chMachine a)) (hw : (weU τ (zR κ atWeb (zR κ chAtlas a)) ∨ weM τ (zR κ atWeb (zR κ chAtlas a))) ∧ weL τ (zR κ atWeb (zR κ chAtlas a))) (hA : (atU τ (zR κ chAtlas a) ∨ atM τ (zR κ chAtlas a)) ∧ atL τ (zR κ chAtlas a)) (hN : zI κ atExplored (zR κ chAtlas a) ≠ 0 → ∃ n, atW τ (zR κ chAtlas a) n) (B : chB9 κ a) : chB9 τ a ∧ (zI τ atExplored (zR κ chAtlas a) = zI κ atExplored (zR κ chAtlas a)) ∧ (∀ f, f / 100 = 3 → f ≠ atPlan → zR τ f (zR κ chAtlas a) = zR κ f (zR κ chAtlas a)) ∧ zI τ hoTotal (zR κ atStates (zR κ chAtlas a)) = zI κ hoTotal (zR κ atStates (zR κ chAtlas a)) := by
  have tA := ty_chAtlas W T
  obtain ⟨⟨⟨b1, b2, b3, b4⟩, b5, _, b8, b9⟩, c1, c2⟩ := B
  have S := ho_u9 (M := 1000) (D := 142) (S := 2048) Z W (ty_atStates W tA) ns
  have E := ho_u9 (M := 1000) (D := 35) (S := 2048) Z W (ty_atEndings W tA) ne
  have K := co_u9 Z W (ty_atCode W tA) nc
  have ex : zI τ atExplored (zR κ chAtlas a) = zI κ atExplored (zR κ chAtlas a) := Z.i (n3 _ (by decide) (by decide))
  have r : ∀ f, f / 100 = 3 → f ≠ atPlan → zR τ f (zR κ chAtlas a) = zR κ f (zR κ chAtlas a) := fun f h1 h2 => Z.r (n3 f h1 h2)
  refine ⟨?_, ex, r, S.2.2⟩
  unfold chB9 atI
  rw [hO chAtlas (by decide) (by decide) (by decide), hO chMachine (by decide) (by decide) (by decide), hO chCode (by decide) (by decide) (by decide), r atMachine (by decide) (by decide), r atWeb (by decide) (by decide), r atStates (by decide) (by decide), r atEndings (by decide) (by decide), r atCode (by decide) (by decide), ex, S.2.2]
  refine ⟨⟨⟨hA.1, hA.2, ⟨?_, ?_⟩, b4⟩, by rw [c1]; exact hm, hw, b8, hN⟩, c1, fun z => ⟨⟨(c2 z).1.1, by rw [Z.i (n3 atNexts (by decide) (by decide))]; exact (c2 z).1.2⟩, fun y => ?_⟩⟩
  · rw [r atStates (by decide) (by decide)]; exact S.1 b3.1
  · rw [r atEndings (by decide) (by decide)]; exact E.1 b3.2
  · intro i hi
    rw [r atCode (by decide) (by decide), K.2.1, K.2.2] at hi
    rw [r atEndings (by decide) (by decide), E.2.1]
    exact (c2 z).2 y i hi
/-- a call that touches atlas, machine, web, their hoards and the Solver's marks -/
theorem chI_e9 {C : zC} {n0 a : Nat} {L : Int} {ρ : Nat → Nat} {F : Nat → Nat → Prop} {κ τ : zS} (W : zW C n0 κ) (T : zT κ a = 15) (Z : zF F κ τ) (hF : ∀ f x, F f x → zT κ x = 3 ∨ zT κ x = 7 ∨ zT κ x = 14 ∨ (zT κ x = 6 ∧ x ≠ zR κ odGroups (zR κ chOdds a)) ∨ (x = zR κ chSolver a ∧ (f = soSolved ∨ f = soPlanned))) (hB : chB9 τ a) (hr : zR τ atStates (zR κ chAtlas a) = zR κ atStates (zR κ chAtlas a) ∧ zR τ atEndings (zR κ chAtlas a) = zR κ atEndings (zR κ chAtlas a) ∧ zR τ atWeb (zR κ chAtlas a) = zR κ atWeb (zR κ chAtlas a)) (hS9 : chS9 ρ τ a) (I : chI9 ρ κ a L) : chI9 ρ τ a L ∧ (∃ F, zF F κ τ) ∧ pC7 κ τ a := by
  obtain ⟨⟨A1, ⟨⟨A2, A3⟩, A4⟩, A5, A6⟩, B, ⟨C1, C2, C3, C4⟩, _, ⟨D1, D2, D3, ⟨D4, D5⟩, D6, D7⟩, E0, L0, K0⟩ := I
  have tS := ty_chSolver W T
  have tO := ty_chOdds W T
  have no : ∀ x K, zT κ x = K → K ≠ 3 ∧ K ≠ 7 ∧ K ≠ 14 ∧ K ≠ 6 ∧ K ≠ 12 → ∀ f, ¬ F f x := fun x K h1 h2 f z => by
    rcases hF f x z with y | y | y | y | y
    · exact h2.1 (h1.symm.trans y)
    · exact h2.2.1 (h1.symm.trans y)
    · exact h2.2.2.1 (h1.symm.trans y)
    · exact h2.2.2.2.1 (h1.symm.trans y.1)
    · rw [y.1, tS] at h1
      exact h2.2.2.2.2 h1.symm
  have nS : ∀ f, f ≠ soSolved → f ≠ soPlanned → ¬ F f (zR κ chSolver a) := fun f h1 h2 z => by
    rcases hF f _ z with y | y | y | y | y
    · rw [tS] at y; exact absurd y (by decide)
    · rw [tS] at y; exact absurd y (by decide)
    · rw [tS] at y; exact absurd y (by decide)
    · have y1 := y.1
      rw [tS] at y1; exact absurd y1 (by decide)
    · exact y.2.elim h1 h2
  have tG := ty_odGroups W tO
  have nG : ∀ f, ¬ F f (zR κ odGroups (zR κ chOdds a)) := fun f z => by
    rcases hF f _ z with y | y | y | y | y
    · rw [tG] at y; exact absurd y (by decide)
    · rw [tG] at y; exact absurd y (by decide)
    · rw [tG] at y; exact absurd y (by decide)
    · exact y.2 rfl
    · have y1 := y.1
      rw [y1, tS] at tG; exact absurd tG (by decide)
  have E := chE_u9 W T Z (fun f _ => no a 15 T (by decide) f) E0
  have o := E.2.1
  have hS := rs_h9 W tS C1 Z (fun f w y => no w 8 y (by decide) f) (fun f w y => no w 11 y (by decide) f) (fun f w y => no w 4 y (by decide) f) nS
  have P := pa_u9 Z W (ty_chParser W T) (fun f _ => no _ 10 (ty_chParser W T) (by decide) f) A5
  have K1 := co_u9 Z W (ty_chCode W T) (fun f _ => no _ 5 (ty_chCode W T) (by decide) f)
  have K2 := co_u9 Z W (ty_chSpare W T) (fun f _ => no _ 5 (ty_chSpare W T) (by decide) f)
  have G := odd_u9 Z W tO (fun f _ => no _ 9 tO (by decide) f)
  have H := ho_u9 (M := 3000) (D := 3) (S := 8192) Z W tG (fun f _ => nG f)
  have A := ta_u9 Z W (ty_chTape W T) (fun f _ => no _ 13 (ty_chTape W T) (by decide) f) A1
  have rS : ∀ f, f ≠ soSolved → f ≠ soPlanned → zR τ f (zR κ chSolver a) = zR κ f (zR κ chSolver a) := fun f h1 h2 => Z.r (nS f h1 h2)
  refine ⟨⟨⟨?_, ?_, ?_⟩, hB, ?_, hS9, ?_, E.1, ?_, ?_⟩, ⟨_, Z⟩, pC_v7 W T Z (fun f _ => no a 15 T (by decide) f) (fun f _ => no _ 13 (ty_chTape W T) (by decide) f) (fun f _ => no _ 5 (ty_chCode W T) (by decide) f)⟩
  · rw [o chTape (by decide)]; exact A.1
  · rw [o chCode (by decide), o chSpare (by decide)]
    exact ⟨⟨K1.1 A2, K2.1 A3⟩, A4⟩
  · rw [o chParser (by decide), o chTape (by decide)]
    exact ⟨P.1, P.2.trans A6⟩
  · unfold chC9
    rw [o chSolver (by decide), o chAtlas (by decide), o chShown (by decide), rS soTaken (by decide) (by decide), rS soAtlas (by decide) (by decide), rS soWeb (by decide) (by decide), Z.l (ty_soTaken W tS), hr.2.2]
    exact ⟨hS.1, C2, C3, C4⟩
  · unfold chD9
    rw [o chSolver (by decide), o chAtlas (by decide), o chOdds (by decide), G.2.2.2.2, G.2.2.1, G.2.2.2.1, G.1 odAtlas (by decide), G.1 odSolver (by decide), G.1 odCalc (by decide), G.1 odHeld (by decide), G.1 odGroups (by decide), rS soCalc (by decide) (by decide), hr.1, hr.2.1]
    exact ⟨D1, D2, ⟨G.2.1 D3.1, D3.2⟩, ⟨H.1 D4, D5⟩, D6, D7⟩
  · rw [o chTape (by decide), A.2]; exact L0
  · exact cK_z9 W T Z (o chSolver (by decide)) (o chOdds (by decide)) (fun b hb => no b 0 (zT_o9 W hb) (by decide) 0) (fun f hf => nS f (by rcases hf with y | y | y <;> rw [y] <;> decide) (by rcases hf with y | y | y <;> rw [y] <;> decide)) (Nat.le_of_eq (nE_z9 W tO Z (no _ 9 tO (by decide) _)).symm) K0
/-- the Solver's marks, perhaps the plan, are stored -/
def mkF9 (κ : zS) (a : Nat) : Nat → Nat → Prop := fun f x => (x = zR κ chSolver a ∧ (f = soSolved ∨ f = soPlanned)) ∨ (x = zR κ chAtlas a ∧ f = atPlan)
theorem chI_m9 {C : zC} {n0 a : Nat} {L : Int} {ρ : Nat → Nat} {κ τ : zS} (W : zW C n0 κ) (T : zT κ a = 15) (Z : zF (mkF9 κ a) κ τ) (R : zR τ = zR κ) (h0 : zI τ soSolved (zR κ chSolver a) = 0) (h1 : zI τ soPlanned (zR κ chSolver a) = 0 ∨ zI τ soPlanned (zR κ chSolver a) = zI κ soPlanned (zR κ chSolver a)) (I : chI9 ρ κ a L) : chI9 ρ τ a L ∧ (∃ F, zF F κ τ) ∧ pB8 κ τ a := by
  have tA := ty_chAtlas W T
  have tS := ty_chSolver W T
  have tm := ty_chMachine W T
  have no : ∀ x K, zT κ x = K → K ≠ 3 ∧ K ≠ 12 → ∀ f, ¬ mkF9 κ a f x := fun x K h1 h2 f z => by
    rcases z with z | z
    · rw [z.1, tS] at h1; exact h2.2 h1.symm
    · rw [z.1, tA] at h1; exact h2.1 h1.symm
  have n3 : ∀ f, f / 100 = 3 → f ≠ atPlan → ¬ mkF9 κ a f (zR κ chAtlas a) := fun f hf h2 z => by
    rcases z with z | z
    · rw [z.1, tS] at tA; exact absurd tA (by decide)
    · exact h2 z.2
  have g := at_u9 Z W tA n3 (by rw [R])
  have M := atM_u9 g
  have B := I.2.1
  have iS := (ho_u9 (M := 1000) (D := 142) (S := 2048) Z W (ty_atStates W tA) (fun f _ => no _ 6 (ty_atStates W tA) (by decide) f)).2.2
  have iE := (ho_u9 (M := 1000) (D := 142) (S := 2048) Z W (ty_atEndings W tA) (fun f _ => no _ 6 (ty_atEndings W tA) (by decide) f)).2.2
  have Wn : ∀ n, atW τ (zR κ chAtlas a) n ↔ atW κ (zR κ chAtlas a) n := fun n => atW_u9 g (Z.i (n3 _ (by decide) (by decide))) iS iE
  have V := we_u9 Z W (ty_atWeb W tA) (fun f _ => no _ 14 (ty_atWeb W tA) (by decide) f)
  have ma : maL κ (zR κ chMachine a) := by
    have y := B.1.2.1
    rw [B.2.1] at y
    exact y
  have hB := chB_w9 W T Z (fun f _ _ _ => by rw [R]) n3 (fun f _ => no _ 6 (ty_atStates W tA) (by decide) f) (fun f _ => no _ 6 (ty_atEndings W tA) (by decide) f) (fun f _ => no _ 5 (ty_atCode W tA) (by decide) f) (ma_u9 Z W tm (fun f _ => no _ 7 tm (by decide) f) ma) ⟨B.1.2.2.1.1.elim (fun z => Or.inl (V.2.1 z)) (fun z => Or.inr (V.1 z)), V.2.2 B.1.2.2.1.2⟩ ⟨B.1.1.1.elim (fun z => Or.inl (M.2.1 z)) (fun z => Or.inr (M.1 z)), M.2.2 B.1.1.2.1⟩ (fun z => by
    obtain ⟨n, hn⟩ := B.1.2.2.2.2 z
    exact ⟨n, (Wn n).mpr hn⟩) B
  refine pB_w8 (kB_z8 W T Z (no a 15 T (by decide) _) n3 (fun f _ => no _ 6 (ty_atStates W tA) (by decide) f) (fun f _ => no _ 6 (ty_atEndings W tA) (by decide) f)) (chI_e9 W T Z (fun f x z => ?_) hB.1 ⟨by rw [R], by rw [R], by rw [R]⟩ ?_ I)
  · rcases z with z | z
    · exact Or.inr (Or.inr (Or.inr (Or.inr z)))
    · left; rw [z.1]; exact tA
  · unfold chS9
    rw [R, hB.2.1]
    refine ⟨fun z => absurd h0 z, fun z => ?_⟩
    have z' : zI κ soPlanned (zR κ chSolver a) ≠ 0 := by
      rcases h1 with y | y
      · exact absurd y z
      · rw [y] at z; exact z
    obtain ⟨x1, x3⟩ := I.2.2.2.1.2 z'
    have nw : ¬ mkF9 κ a soWorths (zR κ chSolver a) := fun y => by
      rcases y with y | y
      · exact y.2.elim (fun q => absurd q (by decide)) (fun q => absurd q (by decide))
      · exact absurd y.2 (by decide)
    have q := (Z.row W (show zr soWorths = some 25 by decide +kernel) (by decide) (tS.trans (by decide)) nw).2.2
    rw [R] at q
    rw [q, Z.l (ty_soWorths W tS)]
    exact ⟨x1, fun n hn => x3 n ((Wn n).mp hn)⟩
theorem Ch_explore_c {C : zC} {n0 : Nat} {a0 : Nat} {a1 : Int32} {κ : zS} {Q : Int32 → zS → Prop} {X : zXp} (W : zW C n0 κ) (Ta0 : zT κ a0 = 15) (ρ : Nat → Nat) (L9 : Int) (hp : chI9 ρ κ a0 L9) (h : ∀ (v : Int32) (κ' : zS), (chI9 ρ κ' a0 L9 ∧ (∃ F, zF F κ κ') ∧ pC7 κ κ' a0) → Q v κ') (hx : ∀ (cls : String) (κ' : zS), ((cls = "java/lang/IllegalArgumentException" ∨ cls = "java/lang/IllegalStateException") ∧ κ' = ut κ) → X cls κ') : zRun C 8 mCh_explore [.ref a0, .int a1] κ (oI Q X) := by
  refine Ch_explore_run W Ta0 ?_
  replace W := W.lo (Nat.le_trans W.1.2.1 W.1.2.2) (Nat.le_refl (zn κ))
  unfold w_Ch_explore_0
  refine ⟨fun c1 => ?_, fun c1 => ?_⟩
  · skip
    refine ⟨fun c2 => ?_, fun c2 => ?_⟩
    · skip
      intro κ_3 hκ_3
      refine hx _ _ ?_
      · exact ⟨Or.inl rfl, hκ_3⟩  -- x1
    · skip
      refine ⟨fun c4 => ?_, fun c4 => ?_⟩
      · skip
        intro κ_5 hκ_5
        intro W6
        intro κ_7 hκ_7
        intro W8
        intro T9
        intro T10
        refine At_discover_c2 W8 T9 T10  ?_ (fun r11 κ_12 q13 => ?_)
        · have R5 : zR κ_5 = zR κ := by rw [hκ_5]; rfl
          have Z5 : zF (mkF9 κ a0) κ κ_5 := by rw [hκ_5]; exact zF_ui (Or.inl ⟨rfl, Or.inl rfl⟩)
          rw [R5] at hκ_7
          have Z7 : zF (mkF9 κ a0) κ κ_7 := Z5.tr (by rw [hκ_7]; exact zF_ui (Or.inl ⟨rfl, Or.inr rfl⟩))
          have R7 : zR κ_7 = zR κ := by rw [hκ_7]; exact R5
          have s5 : zI κ_5 soSolved (zR κ chSolver a0) = 0 := by rw [hκ_5]; exact if_pos ⟨rfl, rfl⟩
          have s7 : zI κ_7 soSolved (zR κ chSolver a0) = 0 := by
            rw [hκ_7]
            exact s5
          have p7 : zI κ_7 soPlanned (zR κ chSolver a0) = 0 := by rw [hκ_7]; exact if_pos ⟨rfl, rfl⟩
          have I7 := chI_m9 W Ta0 Z7 R7 s7 (Or.inl p7) hp
          have T7 := Z7.t Ta0 (by decide)
          rw [lti] at c2
          rw [lei] at c4
          have e1 : (1 : Int32).toInt = 1 := rfl
          have e1000 : (1000 : Int32).toInt = 1000 := rfl
          exact ⟨I7.1.2.1.1, I7.1.1.2.1.1.1, by omega, by omega⟩
        intro W14
        intro M15
        refine h _ _ ?_
        · have R5 : zR κ_5 = zR κ := by rw [hκ_5]; rfl
          have Z5 : zF (mkF9 κ a0) κ κ_5 := by rw [hκ_5]; exact zF_ui (Or.inl ⟨rfl, Or.inl rfl⟩)
          rw [R5] at hκ_7
          have Z7 : zF (mkF9 κ a0) κ κ_7 := Z5.tr (by rw [hκ_7]; exact zF_ui (Or.inl ⟨rfl, Or.inr rfl⟩))
          have R7 : zR κ_7 = zR κ := by rw [hκ_7]; exact R5
          have s5 : zI κ_5 soSolved (zR κ chSolver a0) = 0 := by rw [hκ_5]; exact if_pos ⟨rfl, rfl⟩
          have s7 : zI κ_7 soSolved (zR κ chSolver a0) = 0 := by
            rw [hκ_7]
            exact s5
          have p7 : zI κ_7 soPlanned (zR κ chSolver a0) = 0 := by rw [hκ_7]; exact if_pos ⟨rfl, rfl⟩
          have I7 := chI_m9 W Ta0 Z7 R7 s7 (Or.inl p7) hp
          have T7 := Z7.t Ta0 (by decide)
          have tA7 := ty_chAtlas W8 T7
          have tS7 := ty_chSolver W8 T7
          have Ds := I7.1.2.2.2.2.1.2.2.2.2.2
          have na : ∀ f, ¬ dsF κ_7 (zR κ_7 chAtlas a0) f a0 := fun f z => by
            have y1 := ty_atMachine W8 tA7
            have y2 := ty_atStates W8 tA7
            have y3 := ty_atEndings W8 tA7
            have y4 := ty_atWeb W8 tA7
            rcases z with (z | z | z | z) | z
            · have z1 := z.1
              rw [← z1, T7] at tA7; exact absurd tA7 (by decide)
            · rw [← z, T7] at y1; exact absurd y1 (by decide)
            · rw [← z, T7] at y2; exact absurd y2 (by decide)
            · rw [← z, T7] at y3; exact absurd y3 (by decide)
            · rw [← z, T7] at y4; exact absurd y4 (by decide)
          have nr : ∀ f, f < 304 → zR κ_12 f (zR κ_7 chAtlas a0) = zR κ_7 f (zR κ_7 chAtlas a0) := fun f hf => q13.1.r (fun z => by
            have y1 := ty_atMachine W8 tA7
            have y2 := ty_atStates W8 tA7
            have y3 := ty_atEndings W8 tA7
            have y4 := ty_atWeb W8 tA7
            rcases z with (z | z | z | z) | z
            · omega
            · rw [← z, tA7] at y1; exact absurd y1 (by decide)
            · rw [← z, tA7] at y2; exact absurd y2 (by decide)
            · rw [← z, tA7] at y3; exact absurd y3 (by decide)
            · rw [← z, tA7] at y4; exact absurd y4 (by decide))
          have ns : ∀ f, ¬ dsF κ_7 (zR κ_7 chAtlas a0) f (zR κ_7 chSolver a0) := fun f z => by
            have y1 := ty_atMachine W8 tA7
            have y2 := ty_atStates W8 tA7
            have y3 := ty_atEndings W8 tA7
            have y4 := ty_atWeb W8 tA7
            rcases z with (z | z | z | z) | z
            · have z1 := z.1
              rw [← z1, tS7] at tA7; exact absurd tA7 (by decide)
            · rw [← z, tS7] at y1; exact absurd y1 (by decide)
            · rw [← z, tS7] at y2; exact absurd y2 (by decide)
            · rw [← z, tS7] at y3; exact absurd y3 (by decide)
            · rw [← z, tS7] at y4; exact absurd y4 (by decide)
          have R := chI_e9 (ρ := ρ) (L := L9) W8 T7 q13.1 (fun f x z => by
            rcases z with (z | z | z | z) | z
            · left; rw [z.1]; exact tA7
            · right; left; rw [z]; exact ty_atMachine W8 tA7
            · right; right; right; left; rw [z]; exact ⟨ty_atStates W8 tA7, Ds.1⟩
            · right; right; right; left; rw [z]; exact ⟨ty_atEndings W8 tA7, Ds.2⟩
            · right; right; left; rw [z]; exact ty_atWeb W8 tA7) (by
            unfold chB9
            rw [q13.1.r (na chAtlas), q13.1.r (na chMachine), q13.1.r (na chCode), nr atMachine (by decide)]
            exact ⟨q13.2.1, I7.1.2.1.2.1, fun z => ⟨⟨q13.2.2.1, (q13.2.2.2 z).1⟩, (q13.2.2.2 z).2⟩⟩) ⟨nr _ (by decide), nr _ (by decide), nr _ (by decide)⟩ (by
            unfold chS9
            rw [q13.1.r (na chSolver), q13.1.i (ns soSolved), q13.1.i (ns soPlanned), R7, s7, p7]
            exact ⟨fun z => absurd rfl z, fun z => absurd rfl z⟩) I7.1
          obtain ⟨F5, G5⟩ := R.2.1
          exact ⟨R.1, ⟨fun _ _ => True, (Z7.mono (fun _ _ _ => trivial)).tr (G5.mono (fun _ _ _ => trivial))⟩, pC_t7 I7.2.2.1 R.2.2⟩
      · skip
        intro κ_16 hκ_16
        refine hx _ _ ?_
        · exact ⟨Or.inl rfl, hκ_16⟩  -- x4
  · skip
    intro κ_17 hκ_17
    refine hx _ _ ?_
    · exact ⟨Or.inr rfl, hκ_17⟩  -- x5

theorem Ch_decide_c {C : zC} {n0 : Nat} {a0 : Nat} {a1 : Int32} {a2 : Int32} {κ : zS} {Q : Int32 → zS → Prop} {X : zXp} (W : zW C n0 κ) (Ta0 : zT κ a0 = 15) (ρ : Nat → Nat) (L9 : Int) (hp : chI9 ρ κ a0 L9) (h : ∀ (v : Int32) (κ' : zS), (chI9 ρ κ' a0 L9 ∧ (∃ F, zF F κ κ') ∧ pB8 κ κ' a0) → Q v κ') (hx : ∀ (cls : String) (κ' : zS), (cls = "java/lang/IndexOutOfBoundsException" ∧ κ' = ut κ) → X cls κ') : zRun C 8 mCh_decide [.ref a0, .int a1, .int a2] κ (oI Q X) := by
  refine Ch_decide_run W Ta0 ?_
  replace W := W.lo (Nat.le_trans W.1.2.1 W.1.2.2) (Nat.le_refl (zn κ))
  unfold w_Ch_decide_0
  intro T1
  refine At_holds_c W T1  (fun r2 q4 => ?_)
  intro W5
  intro M6
  refine ⟨fun c7 => ?_, fun c7 => ?_⟩
  · skip
    intro κ_8 hκ_8
    refine hx _ _ ?_
    · exact ⟨rfl, hκ_8⟩  -- x1
  · skip
    refine ⟨?_, ?_⟩
    · have H := ch_h9 hp q4 c7
      rw [inb_iff, H.2.1.2.2.2.2.1]
      have y := H.2.2.1
      omega
    refine ⟨fun c9 => ?_, fun c9 => ?_⟩
    · skip
      intro κ_10 hκ_10
      refine hx _ _ ?_
      · exact ⟨rfl, hκ_10⟩  -- x3
    · skip
      refine ⟨fun c11 => ?_, fun c11 => ?_⟩
      · skip
        intro κ_12 hκ_12
        refine hx _ _ ?_
        · exact ⟨rfl, hκ_12⟩  -- x4
      · skip
        intro T13
        refine At_waysOf_c W5 T13  ?_ (fun r14 q16 => ?_)
        · have H := ch_h9 hp q4 c7
          exact ⟨H.2.1.1, H.2.2.1⟩
        intro W17
        intro M18
        refine ⟨fun c19 => ?_, fun c19 => ?_⟩
        · skip
          refine ⟨?_, ?_⟩
          · have H := ch_h9 hp q4 c7
            rw [inb_iff, H.2.1.2.2.2.1]
            have y := H.2.2.1
            omega
          intro x20 hx20
          refine ⟨?_, ?_⟩
          · have H := ch_h9 hp q4 c7
            rw [inb_iff, H.2.1.2.2.2.1]
            have y := H.2.2.1
            omega
          intro κ_21 hκ_21
          intro W22
          intro κ_23 hκ_23
          intro W24
          refine h _ _ ?_
          · have o := W.o (show zr atPlan = some 20 by decide +kernel) (by decide) ((ty_chAtlas W Ta0).trans (by decide))
            have R1 : zR κ_21 = zR κ := by rw [hκ_21]; rfl
            have Z1 : zF (mkF9 κ a0) κ κ_21 := by rw [hκ_21]; exact zF_ua (by rw [o]; exact Or.inr ⟨rfl, rfl⟩)
            rw [R1] at hκ_23
            have Z3 : zF (mkF9 κ a0) κ κ_23 := Z1.tr (by rw [hκ_23]; exact zF_ui (Or.inl ⟨rfl, Or.inl rfl⟩))
            have R3 : zR κ_23 = zR κ := by rw [hκ_23]; exact R1
            refine chI_m9 W Ta0 Z3 R3 (by rw [hκ_23]; exact if_pos ⟨rfl, rfl⟩) (Or.inr ?_) hp
            rw [hκ_23, hκ_21]
            rfl
        · skip
          intro κ_25 hκ_25
          refine hx _ _ ?_
          · exact ⟨rfl, hκ_25⟩  -- x9

end
section
set_option maxHeartbeats 1600000
/-! the class: explore by what it answers -/
theorem Ch_explore_c7 {C : zC} {n0 : Nat} {a0 : Nat} {a1 : Int32} {κ : zS} {Q : Int32 → zS → Prop} {X : zXp} (W : zW C n0 κ) (Ta0 : zT κ a0 = 15) (ρ : Nat → Nat) (L9 : Int) (σ9 : rS) (hr8 : RC8 κ a0 σ9) (hp : chI9 ρ κ a0 L9) (h : ∀ (v : Int32) (κ' : zS), (chI9 ρ κ' a0 L9 ∧ (∃ F, zF F κ κ') ∧ pX16 κ κ' a0 ∧ (zI κ chReady a0 ≠ 0 ∧ 1 ≤ a1 ∧ a1 ≤ 1000) ∧ ∃ σc r, gxE a1 σ9 = (σc, r) ∧ ((r = 0 ∧ v = -1 ∧ zI κ' atExplored (zR κ' chAtlas a0) = 0) ∨ (r = 1 ∧ v = σc.1 70 ∧ zI κ' atExplored (zR κ' chAtlas a0) ≠ 0 ∧ ∃ nv s w, CR7 nv s w (cu7 κ (zR κ chCode a0)) σ9 ∧ AT8 w s (av8 κ' (zR κ' chAtlas a0)) σc ∧ hC8 ((av8 κ' (zR κ' chAtlas a0)).2 11) σc ∧ rC8 ((av8 κ' (zR κ' chAtlas a0)).1 3) ((av8 κ' (zR κ' chAtlas a0)).1 4) σc ∧ pz8 κ' (zR κ' chAtlas a0) ∧ (∃ n, SH6 κ' (zR κ' atStates (zR κ' chAtlas a0)) w s n σc ∧ σc.1 70 = Int32.ofNat n ∧ HT6 n σc)))) → Q v κ') (hx : ∀ (cls : String) (κ' : zS), (((cls = "java/lang/IllegalArgumentException" ∧ zI κ chReady a0 ≠ 0 ∧ ¬ (1 ≤ a1 ∧ a1 ≤ 1000)) ∨ (cls = "java/lang/IllegalStateException" ∧ zI κ chReady a0 = 0)) ∧ κ' = ut κ) → X cls κ') : zRun C 8 mCh_explore [.ref a0, .int a1] κ (oI Q X) := by
  refine Ch_explore_run W Ta0 ?_
  replace W := W.lo (Nat.le_trans W.1.2.1 W.1.2.2) (Nat.le_refl (zn κ))
  unfold w_Ch_explore_0
  refine ⟨fun c1 => ?_, fun c1 => ?_⟩
  · skip
    refine ⟨fun c2 => ?_, fun c2 => ?_⟩
    · skip
      intro κ_3 hκ_3
      refine hx _ _ ?_
      · exact ⟨Or.inl ⟨rfl, c1, fun z => absurd z.1 (fun y => by rw [lei] at y; rw [lti] at c2; omega)⟩, hκ_3⟩  -- x1
    · skip
      refine ⟨fun c4 => ?_, fun c4 => ?_⟩
      · skip
        intro κ_5 hκ_5
        intro W6
        intro κ_7 hκ_7
        intro W8
        intro T9
        intro T10
        have R5 : zR κ_5 = zR κ := by rw [hκ_5]; rfl
        have Z5 : zF (mkF9 κ a0) κ κ_5 := by rw [hκ_5]; exact zF_ui (Or.inl ⟨rfl, Or.inl rfl⟩)
        have hk7 := hκ_7
        rw [R5] at hk7
        have Z7 : zF (mkF9 κ a0) κ κ_7 := Z5.tr (by rw [hk7]; exact zF_ui (Or.inl ⟨rfl, Or.inr rfl⟩))
        have R7 : zR κ_7 = zR κ := by rw [hk7]; exact R5
        have s5 : zI κ_5 soSolved (zR κ chSolver a0) = 0 := by rw [hκ_5]; exact if_pos ⟨rfl, rfl⟩
        have s7 : zI κ_7 soSolved (zR κ chSolver a0) = 0 := by
          rw [hk7]
          exact s5
        have p7 : zI κ_7 soPlanned (zR κ chSolver a0) = 0 := by rw [hk7]; exact if_pos ⟨rfl, rfl⟩
        have I7 := chI_m9 W Ta0 Z7 R7 s7 (Or.inl p7) hp
        obtain ⟨u9, s9, w9, cr9⟩ := hr8.1.2.2 (fun z => absurd (hr8.1.2.1.mp z) c1)
        have hR9 : CR6 u9 s9 w9 (am6 (ur κ_7 maCode (zR κ_7 atMachine (zR κ_7 chAtlas a0)) (zR κ_7 chCode a0)) (zR κ_7 atMachine (zR κ_7 chAtlas a0))) σ9 := by
          have ma := I7.1.2.1.1.2.1
          have ro : ∀ f b, f ≠ maCode → zR (ur κ_7 maCode (zR κ_7 atMachine (zR κ_7 chAtlas a0)) (zR κ_7 chCode a0)) f b = zR κ_7 f b := fun f b q => if_neg (fun y => q y.1)
          have ee := I7.2.2.1.2.2.1
          refine CR_76 cr9 (fun g hg => ?_) (fun g hg => ?_) ⟨?_, ?_, ?_⟩
          · rw [← ee]; exact cu_a7.1 g hg
          · rw [← ee]; exact cu_a7.2 g hg
          · rw [(am_rw6 (f := 705) (by decide)).2, ro _ _ (by decide)]; exact ma.2.1
          · rw [(am_rw6 (f := 707) (by decide)).2, ro _ _ (by decide)]; exact ma.2.2.1
          · rw [(am_rw6 (f := 701) (by decide)).2, ro _ _ (by decide)]; exact ma.1
        have b1 : 1 ≤ a1.toInt := by
          have c2' := c2
          rw [lti, show (1 : Int32).toInt = 1 from rfl] at c2'
          omega
        have b2 : a1.toInt ≤ 1000 := by
          have c4' := c4
          rw [lei, show (1000 : Int32).toInt = 1000 from rfl] at c4'
          omega
        have hl9 : a1 = Int32.ofNat a1.toInt.toNat := Int32.toInt_inj.mp (by rw [ofn_i (by omega)]; omega)
        refine At_discover_q6 W8 T9 T10 u9 s9 w9 a1.toInt.toNat σ9 hR9 hl9 (by omega) ?_ (fun r11 κ_12 q13z => ?_)
        · exact ⟨I7.1.2.1.1, I7.1.1.2.1.1.1, b1, b2⟩
        obtain ⟨q13, qz⟩ := q13z
        intro W14
        intro M15
        refine h _ _ ?_
        · have T7 := Z7.t Ta0 (by decide)
          have tA7 := ty_chAtlas W8 T7
          have tS7 := ty_chSolver W8 T7
          have Ds := I7.1.2.2.2.2.1.2.2.2.2.2
          have na : ∀ f, ¬ dsF κ_7 (zR κ_7 chAtlas a0) f a0 := fun f z => by
            have y1 := ty_atMachine W8 tA7
            have y2 := ty_atStates W8 tA7
            have y3 := ty_atEndings W8 tA7
            have y4 := ty_atWeb W8 tA7
            rcases z with (z | z | z | z) | z
            · have z1 := z.1
              rw [← z1, T7] at tA7; exact absurd tA7 (by decide)
            · rw [← z, T7] at y1; exact absurd y1 (by decide)
            · rw [← z, T7] at y2; exact absurd y2 (by decide)
            · rw [← z, T7] at y3; exact absurd y3 (by decide)
            · rw [← z, T7] at y4; exact absurd y4 (by decide)
          have nr : ∀ f, f < 304 → zR κ_12 f (zR κ_7 chAtlas a0) = zR κ_7 f (zR κ_7 chAtlas a0) := fun f hf => q13.1.r (fun z => by
            have y1 := ty_atMachine W8 tA7
            have y2 := ty_atStates W8 tA7
            have y3 := ty_atEndings W8 tA7
            have y4 := ty_atWeb W8 tA7
            rcases z with (z | z | z | z) | z
            · omega
            · rw [← z, tA7] at y1; exact absurd y1 (by decide)
            · rw [← z, tA7] at y2; exact absurd y2 (by decide)
            · rw [← z, tA7] at y3; exact absurd y3 (by decide)
            · rw [← z, tA7] at y4; exact absurd y4 (by decide))
          have ns : ∀ f, ¬ dsF κ_7 (zR κ_7 chAtlas a0) f (zR κ_7 chSolver a0) := fun f z => by
            have y1 := ty_atMachine W8 tA7
            have y2 := ty_atStates W8 tA7
            have y3 := ty_atEndings W8 tA7
            have y4 := ty_atWeb W8 tA7
            rcases z with (z | z | z | z) | z
            · have z1 := z.1
              rw [← z1, tS7] at tA7; exact absurd tA7 (by decide)
            · rw [← z, tS7] at y1; exact absurd y1 (by decide)
            · rw [← z, tS7] at y2; exact absurd y2 (by decide)
            · rw [← z, tS7] at y3; exact absurd y3 (by decide)
            · rw [← z, tS7] at y4; exact absurd y4 (by decide)
          have R := chI_e9 (ρ := ρ) (L := L9) W8 T7 q13.1 (fun f x z => by
            rcases z with (z | z | z | z) | z
            · left; rw [z.1]; exact tA7
            · right; left; rw [z]; exact ty_atMachine W8 tA7
            · right; right; right; left; rw [z]; exact ⟨ty_atStates W8 tA7, Ds.1⟩
            · right; right; right; left; rw [z]; exact ⟨ty_atEndings W8 tA7, Ds.2⟩
            · right; right; left; rw [z]; exact ty_atWeb W8 tA7) (by
            unfold chB9
            rw [q13.1.r (na chAtlas), q13.1.r (na chMachine), q13.1.r (na chCode), nr atMachine (by decide)]
            exact ⟨q13.2.1, I7.1.2.1.2.1, fun z => ⟨⟨q13.2.2.1, (q13.2.2.2 z).1⟩, (q13.2.2.2 z).2⟩⟩) ⟨nr _ (by decide), nr _ (by decide), nr _ (by decide)⟩ (by
            unfold chS9
            rw [q13.1.r (na chSolver), q13.1.i (ns soSolved), q13.1.i (ns soPlanned), R7, s7, p7]
            exact ⟨fun z => absurd rfl z, fun z => absurd rfl z⟩) I7.1
          obtain ⟨F5, G5⟩ := R.2.1
          have nm : ∀ f, ¬ mkF9 κ a0 f a0 := fun f z => by
            have y1 := ty_chSolver W Ta0
            have y2 := ty_chAtlas W Ta0
            rcases z with z | z
            · rw [← z.1, Ta0] at y1; exact absurd y1 (by decide)
            · rw [← z.1, Ta0] at y2; exact absurd y2 (by decide)
          have so9 : zI κ_12 soSolved (zR κ_12 chSolver a0) = 0 := by rw [q13.1.r (na chSolver), q13.1.i (ns soSolved), R7]; exact s7
          have pl9 : zI κ_12 soPlanned (zR κ_12 chSolver a0) = 0 := by rw [q13.1.r (na chSolver), q13.1.i (ns soPlanned), R7]; exact p7
          have s7k : kS16 κ κ_7 a0 := kS_z16 W Z7 (fun f w e z => by
            rcases z with z | z
            · rw [z.1, ty_chSolver W Ta0] at e; exact absurd e (by decide)
            · rw [z.1, ty_chAtlas W Ta0] at e; exact absurd e (by decide)) (fun f w e z => by
            rcases z with z | z
            · rw [z.1, ty_chSolver W Ta0] at e; exact absurd e (by decide)
            · rw [z.1, ty_chAtlas W Ta0] at e; exact absurd e (by decide)) (nm chShown)
          have s12k : kS16 κ_7 κ_12 a0 := kS_z16 W8 q13.1 (fun f w e z => by
            rcases z with (z | z | z | z) | z
            · rw [z.1, tA7] at e; exact absurd e (by decide)
            · rw [z, ty_atMachine W8 tA7] at e; exact absurd e (by decide)
            · rw [z, ty_atStates W8 tA7] at e; exact absurd e (by decide)
            · rw [z, ty_atEndings W8 tA7] at e; exact absurd e (by decide)
            · rw [z, ty_atWeb W8 tA7] at e; exact absurd e (by decide)) (fun f w e z => by
            rcases z with (z | z | z | z) | z
            · rw [z.1, tA7] at e; exact absurd e (by decide)
            · rw [z, ty_atMachine W8 tA7] at e; exact absurd e (by decide)
            · rw [z, ty_atStates W8 tA7] at e; exact absurd e (by decide)
            · rw [z, ty_atEndings W8 tA7] at e; exact absurd e (by decide)
            · rw [z, ty_atWeb W8 tA7] at e; exact absurd e (by decide)) (na chShown)
          have d7k : kD16 κ κ_7 a0 := dr_o16 W Ta0 Z7 (nm chDrawnWeights) (nm chDrawnTotals)
          have d12k : kD16 κ_7 κ_12 a0 := dr_o16 W8 T7 q13.1 (na chDrawnWeights) (na chDrawnTotals)
          exact ⟨R.1, ⟨fun _ _ => True, (Z7.mono (fun _ _ _ => trivial)).tr (G5.mono (fun _ _ _ => trivial))⟩, ⟨pC_t7 I7.2.2.1 R.2.2, ⟨so9, pl9⟩, kS_t16 s7k s12k, kD_t16 d7k d12k⟩, ⟨c1, by rw [lei]; exact b1, c4⟩, by
            obtain ⟨σc, r, g1, g2⟩ := qz
            have w34 : w9 ≤ 34 := by
              obtain ⟨_, _, _, _, _, _, _, _, _, _, _, ⟨_, y, _⟩, _⟩ := id cr9
              exact y
            refine ⟨σc, r, g1, ?_⟩
            rw [q13.1.r (na chAtlas)]
            exact g2.elim Or.inl (fun y => Or.inr ⟨y.1, y.2.1, y.2.2.1, u9, s9, w9, cr9, AT_d8 y.2.2.2.1 w34, y.2.2.2.2.1, y.2.2.2.2.2.1, y.2.2.2.2.2.2, SX_21 y.2.2.2.1⟩)⟩
      · skip
        intro κ_16 hκ_16
        refine hx _ _ ?_
        · exact ⟨Or.inl ⟨rfl, c1, fun z => c4 z.2⟩, hκ_16⟩  -- x4
  · skip
    intro κ_17 hκ_17
    refine hx _ _ ?_
    · exact ⟨Or.inr ⟨rfl, by first | exact c1 | (exact Classical.not_not.mp c1)⟩, hκ_17⟩  -- x5
/-- explore, of both sides: what holds behind it -/
def XC8 (κ : zS) (a : Nat) (σ : rS) (p : Int32) (κ' : zS) : Prop := (pC8 κ κ' a ∧ ¬ (zI κ chReady a ≠ 0 ∧ 1 ≤ p ∧ p ≤ 1000)) ∨ (pX16 κ κ' a ∧ (zI κ chReady a ≠ 0 ∧ 1 ≤ p ∧ p ≤ 1000) ∧ ∃ σc r, gxE p σ = (σc, r) ∧ ((r = 0 ∧ zI κ' atExplored (zR κ' chAtlas a) = 0) ∨ (r = 1 ∧ zI κ' atExplored (zR κ' chAtlas a) ≠ 0 ∧ ∃ nv s w, CR7 nv s w (cu7 κ (zR κ chCode a)) σ ∧ AT8 w s (av8 κ' (zR κ' chAtlas a)) σc ∧ hC8 ((av8 κ' (zR κ' chAtlas a)).2 11) σc ∧ rC8 ((av8 κ' (zR κ' chAtlas a)).1 3) ((av8 κ' (zR κ' chAtlas a)).1 4) σc ∧ pz8 κ' (zR κ' chAtlas a) ∧ (∃ n, SH6 κ' (zR κ' atStates (zR κ' chAtlas a)) w s n σc ∧ σc.1 70 = Int32.ofNat n ∧ HT6 n σc))))
theorem rx_8 {κ κ' : zS} {a : Nat} {σ σ' : rS} {p v : Int32} (ht : RC8 κ a σ) (k : pR7 σ σ') (X : XS22 p σ σ' v) (h : XC8 κ a σ p κ') : RC8 κ' a σ' := by
  have i14 := ht.1.2.1
  obtain ⟨⟨⟨X, xw⟩, xu, x94⟩, kd, kq, ke⟩ := X
  rcases h with ⟨c, n⟩ | ⟨c, y, σc, r, g1, g2⟩
  · have cd : cd9x σ p ≠ 0 := by
      unfold cd9x
      by_cases z : σ.1 14 = 0
      · rw [if_pos z]; decide
      · rw [if_neg z, if_neg (fun q => n ⟨fun e => z (i14.mpr e), q⟩)]; decide
    rcases X.1.2 with ⟨_, _, f1, f2⟩ | ⟨z, _⟩
    · exact re_8 ⟨k, fun g hg => f1 g ((by decide : ∀ g, g ∈ ke8 → g ≠ 0) g hg), fun g _ => by rw [f2], by rw [f2], kN_f16 (fun g hg => f1 g ((by decide : ∀ g, g ∈ kf16 → g ≠ 0) g hg)) (fun g _ => by rw [f2]) (nM_r16 (by rw [f2]) (by rw [f2]))⟩ ht c
    · exact absurd z cd
  · have cd : cd9x σ p = 0 := by
      unfold cd9x
      rw [if_neg (fun z => y.1 (i14.mp z)), if_pos y.2]
    obtain ⟨⟨x1, x2⟩, xz⟩ := X
    rw [cd] at x2
    obtain ⟨c, ⟨so9, pl9⟩, cks, ckd⟩ := c
    have z94 := x94 (x1.trans cd)
    have RT : RT21 κ' a σ' ∧ RP23 κ' a σ' ∧ RK16 κ' a σ' := ⟨RT_k21 ht.2.2.2.2.1 c.2.2.2.1 kd, RP_k23 ht.2.2.2.2.2.1 c.2.2.1 c.2.2.2.2 (kP_q23 kq), RS_016 so9 z94.1, RW_016 pl9 z94.2, RH_k16 ht.2.2.2.2.2.2.2.2.1 cks ke.1 (nM_515 ke.2), RD_k16 ht.2.2.2.2.2.2.2.2.2 ckd (kq.1 106 (by decide)) (kq.1 109 (by decide)) (nM_716 ke.2)⟩
    refine ⟨re_7 k ht.1 c, ?_⟩
    rcases x2 with x2 | ⟨_, σd, s, d1, d2⟩
    · exact absurd rfl x2.1
    have e := g1.symm.trans d1
    have e1 : σc = σd := congrArg Prod.fst e
    have e2 : r = s := congrArg Prod.snd e
    rcases g2 with ⟨r0, x0⟩ | ⟨r1, x1', nv, s9, w, cr, at8, hc8, rc8, pz, n9, sx1, sx2, sx3⟩
    · rcases d2 with ⟨_, _, z69, zno⟩ | ⟨s0, _⟩
      · exact ⟨⟨fun _ => x0, fun _ => z69⟩, fun z => absurd z69 z, fun _ => zno, RT⟩
      · exact absurd (e2.symm.trans r0) s0
    · rcases d2 with ⟨s0, _⟩ | ⟨_, _, z69, ag, hl, rg⟩
      · exact absurd (r1.symm.trans (e2.trans s0)) (by decide)
      · have TX : TX21 κ' a σ' := by
          rw [e1] at sx1 sx2 sx3
          refine ⟨nv, s9, w, by rw [c.2.2.1]; exact CR_k7 cr k.2, ⟨n9, SH_w21 HS_r6 sx1 (s150_21 cr) (fun i hi => by rw [ag.2 30 (Or.inl (by decide))]) (ag.2 73 (Or.inr (by decide))), by rw [ag.1 70 (by decide)]; exact sx2, fun j hj => ?_⟩, by rw [c.2.2.1]; exact TW_x21 (xw (x1.trans cd) z69) cr⟩
          rw [ag.2 74 (Or.inr (by decide)), ag.2 73 (Or.inr (by decide))]
          exact sx3 j hj
        refine ⟨⟨fun z => absurd z z69, fun z => absurd z x1'⟩, fun _ => ⟨⟨nv, s9, w, ?_, ?_⟩, by rw [e1] at hc8 rc8; exact ⟨HQ_x8 hc8 hl (ag.1 70 (by decide)), RQ_x8 rc8 rg, (xz (x1.trans cd) z69).1, fun j hj => (pz j (Nat.lt_of_lt_of_le hj (n7_q8 (xz (x1.trans cd) z69).1.1))).trans ((xz (x1.trans cd) z69).2 j hj).symm, TX, xu (x1.trans cd) z69⟩⟩, fun z => absurd z z69, RT⟩
        · rw [c.2.2.1]
          exact CR_k7 cr k.2
        · rw [e1] at at8
          exact AT_k8 at8 (fun g q => ag.1 g (by omega)) (fun g q => ag.2 g (Or.inr ((by decide : ∀ g, g ∈ kt8 → 73 ≤ g ∧ g ≤ 82) g q)))

end
