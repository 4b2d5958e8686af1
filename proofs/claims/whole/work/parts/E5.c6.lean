section
set_option maxHeartbeats 1600000
/-! the class: ChanceWorks' showsNow, show -/
theorem so_un9 {ρ : Nat → Nat} {R : Nat → Prop} {ca x K : Nat} (hK : K ≠ 8 ∧ K ≠ 11 ∧ K ≠ 4) : un9 (soF ρ R ca) x K := fun f hf z => by
  rcases z with ⟨_, z | z | z⟩ | ⟨_, z | z | z | z⟩
  · rw [z] at hf; exact hK.1 hf.symm
  · rw [z] at hf; exact hK.1 hf.symm
  · rw [z] at hf; exact hK.2.1 hf.symm
  · rw [z] at hf; exact hK.2.2 hf.symm
  · rw [z] at hf; exact hK.2.2 hf.symm
  · rw [z] at hf; exact hK.2.2 hf.symm
  · rw [z] at hf; exact hK.2.2 hf.symm
/-- a call that works with numbers of small roles alone -/
theorem chI_n9 {C : zC} {n0 a ca : Nat} {L : Int} {ρ : Nat → Nat} {R : Nat → Prop} {κ τ : zS} (W : zW C n0 κ) (T : zT κ a = 15) (Z : zF (soF ρ R ca) κ τ) (hR : ∀ r, R r → r < 100) (N : nmI ρ τ ∧ soI ρ τ (zR κ chSolver a)) (hl : nuN τ (zR κ soLess (zR κ chSolver a)) < pB9 4000) (I : chI9 ρ κ a L) : chI9 ρ τ a L ∧ (∃ F, zF F κ τ) ∧ zI τ chTolds a = zI κ chTolds a := by
  obtain ⟨⟨A1, ⟨⟨A2, A3⟩, A4⟩, A5, A6⟩, B, ⟨C1, C2, C3, C4⟩, ⟨S1, S2⟩, ⟨D1, D2, D3, ⟨D4, D5⟩, D6, D7⟩, E0, L0, K0⟩ := I
  have tA := ty_chAtlas W T
  have tS := ty_chSolver W T
  have tO := ty_chOdds W T
  have tm := ty_chMachine W T
  have E := chE_u9 W T Z (so_un9 (by decide)) E0
  have o := E.2.1
  have ma : maL κ (zR κ chMachine a) := by
    have y := B.1.2.1
    rw [B.2.1] at y
    exact y
  have hB := chB_u9 W T Z (fun f hf _ _ => o f hf) (so_un9 (by decide)) (so_un9 (by decide)) (so_un9 (by decide)) (so_un9 (by decide)) (fun _ => so_un9 (by decide)) (ma_u9 Z W tm (so_un9 (by decide)) ma) B
  have hS := pw_r9 W tS C1 (Z.mono (fun f b z => (Or.inl z : pwF9 ρ R ca (zR κ chSolver a) f b))) (fun r z => Or.inl (hR r z)) N hl
  have P := pa_u9 Z W (ty_chParser W T) (so_un9 (by decide)) A5
  have K1 := co_u9 Z W (ty_chCode W T) (so_un9 (by decide))
  have K2 := co_u9 Z W (ty_chSpare W T) (so_un9 (by decide))
  have G := odd_u9 Z W tO (so_un9 (by decide))
  have H := ho_u9 (M := 3000) (D := 3) (S := 8192) Z W (ty_odGroups W tO) (so_un9 (by decide))
  have A := ta_u9 Z W (ty_chTape W T) (so_un9 (by decide)) A1
  have rS : ∀ f, f / 100 = 12 → zR τ f (zR κ chSolver a) = zR κ f (zR κ chSolver a) := fun f hf => Z.r (so_un9 (by decide) f hf)
  have iS : ∀ f, f / 100 = 12 → zI τ f (zR κ chSolver a) = zI κ f (zR κ chSolver a) := fun f hf => Z.i (so_un9 (by decide) f hf)
  have nv : zN τ (zR κ soVisits (zR κ chSolver a)) = zN κ (zR κ soVisits (zR κ chSolver a)) := Z.l (ty_soVisits W tS)
  have nw := hS.2.2.2
  rw [rS soWorths (by decide)] at nw
  refine ⟨⟨⟨?_, ?_, ?_⟩, hB.1, ?_, ?_, ?_, E.1, ?_, ?_⟩, ⟨_, Z⟩, E.2.2⟩
  · rw [o chTape (by decide)]; exact A.1
  · rw [o chCode (by decide), o chSpare (by decide)]
    exact ⟨⟨K1.1 A2, K2.1 A3⟩, A4⟩
  · rw [o chParser (by decide), o chTape (by decide)]
    exact ⟨P.1, P.2.trans A6⟩
  · unfold chC9
    rw [o chSolver (by decide), o chAtlas (by decide), o chShown (by decide), rS soTaken (by decide), rS soAtlas (by decide), rS soWeb (by decide), Z.l (ty_soTaken W tS), hB.2.2.2 atWeb (by decide)]
    exact ⟨hS.1, C2, C3, C4⟩
  · unfold chS9
    rw [o chSolver (by decide), o chAtlas (by decide), iS soSolved (by decide), iS soPlanned (by decide), rS soVisits (by decide), rS soWorths (by decide), nv, nw.1, nw.2, hB.2.2.1]
    refine ⟨fun z => ?_, fun z => ?_⟩
    · obtain ⟨x1, P9, x2, x3⟩ := S1 z
      refine ⟨x1, P9, x2, fun n hn => ?_⟩
      have hn' := (hB.2.1 n).mp hn
      have y := x3 n hn'
      exact ⟨hS.2.2.1 n P9 hn'.2.2.1 y.1, y.2⟩
    · obtain ⟨x1, x3⟩ := S2 z
      exact ⟨x1, fun n hn => x3 n ((hB.2.1 n).mp hn)⟩
  · unfold chD9
    rw [o chSolver (by decide), o chAtlas (by decide), o chOdds (by decide), G.2.2.2.2, G.2.2.1, G.2.2.2.1, G.1 odAtlas (by decide), G.1 odSolver (by decide), G.1 odCalc (by decide), G.1 odHeld (by decide), G.1 odGroups (by decide), rS soCalc (by decide), hB.2.2.2 atStates (by decide), hB.2.2.2 atEndings (by decide)]
    exact ⟨D1, D2, ⟨G.2.1 D3.1, D3.2⟩, ⟨H.1 D4, D5⟩, D6, D7⟩
  · rw [o chTape (by decide), A.2]; exact L0
  · exact cK_z9 W T Z (o chSolver (by decide)) (o chOdds (by decide)) (fun b _ => soF_no9 (by decide)) (fun f hf => so_un9 (K := 12) (by decide) f (by rcases hf with y | y | y <;> rw [y] <;> rfl)) (Nat.le_of_eq (nE_z9 W tO Z (so_un9 (K := 9) (by decide) odEdges rfl)).symm) K0
/-- what Odds reads, where all is solved -/
theorem ch_o9 {a : Nat} {L : Int} {ρ : Nat → Nat} {κ : zS} (I : chI9 ρ κ a L) : ∃ n P, zI κ soSolved (zR κ chSolver a) ≠ 0 → odX9 ρ κ (zR κ chOdds a) n P ∧ (0 < P ∧ P < pB9 1490) ∧ atW κ (zR κ chAtlas a) n ∧ vsI9 ρ κ (zR κ chSolver a) n P ∧ n ≤ (zN κ (zR κ soVisits (zR κ chSolver a))) := by
  by_cases z : zI κ soSolved (zR κ chSolver a) = 0
  · exact ⟨0, 0, fun y => absurd z y⟩
  · obtain ⟨x1, P, x2, x3⟩ := I.2.2.2.1.1 z
    obtain ⟨⟨n, hn⟩, G⟩ := ch_x9 I x1
    have y := x3 n hn
    have D := I.2.2.2.2.1
    refine ⟨n, P, fun _ => ⟨?_, x2, hn, y.1, y.2⟩⟩
    unfold odX9
    rw [D.1.1, D.1.2.1, D.1.2.2]
    refine ⟨⟨I.2.2.1.2.2.1.1, rfl⟩, D.2.1, ⟨hn, y.2⟩, y.1, ⟨G.2, fun e => (I.2.1.2.2 x1).2 ?_⟩, G.1.2⟩
    have t := hn.2.2.2.1
    omega
theorem Ch_showsNow_c {C : zC} {n0 : Nat} {a0 : Nat} {a1 : Int32} {κ : zS} {Q : Int32 → zS → Prop} (W : zW C n0 κ) (Ta0 : zT κ a0 = 15) (ρ : Nat → Nat) (n9 P9 : Nat) (hp : zI κ soSolved (zR κ chSolver a0) ≠ 0 → odX9 ρ κ (zR κ chOdds a0) n9 P9) (h : ∀ (v : Int32), (nb v ∧ (v ≠ 0 → (¬ a1 = 12 → ¬ a1 = 11 → zI κ soSolved (zR κ chSolver a0) ≠ 0) ∧ (a1 = 11 → zI κ soPlanned (zR κ chSolver a0) ≠ 0))) → Q v κ) : zRun C 6 mCh_showsNow [.ref a0, .int a1] κ (oI Q noX) := by
  refine Ch_showsNow_run W Ta0 ?_
  replace W := W.lo (Nat.le_trans W.1.2.1 W.1.2.2) (Nat.le_refl (zn κ))
  unfold w_Ch_showsNow_0
  have tS := ty_chSolver W Ta0
  refine ⟨fun c1 => ?_, fun c1 => ?_⟩
  · skip
    refine ⟨fun c2 => ?_, fun c2 => ?_⟩
    · skip
      refine ⟨fun c3 => ?_, fun c3 => ?_⟩
      · skip
        refine ⟨fun c4 => ?_, fun c4 => ?_⟩
        · skip
          refine ⟨fun c5 => ?_, fun c5 => ?_⟩
          · skip
            refine h _ ?_
            · exact ⟨nb_1, fun _ => ⟨fun _ _ => c3, fun z => absurd z c2⟩⟩  -- q1
          · skip
            intro T6
            refine Od_weighs_c W T6 ρ n9 P9 ?_ (fun r7 q9 => ?_)
            · exact hp c3  -- p2
            intro W10
            intro M11
            refine ⟨fun c12 => ?_, fun c12 => ?_⟩
            · skip
              refine h _ ?_
              · exact ⟨nb_0, fun z => absurd rfl z⟩  -- q3
            · skip
              refine h _ ?_
              · exact ⟨nb_1, fun _ => ⟨fun _ _ => c3, fun z => absurd z c2⟩⟩  -- q4
        · skip
          intro T13
          refine Od_weighs_c W T13 ρ n9 P9 ?_ (fun r14 q16 => ?_)
          · exact hp c3  -- p5
          intro W17
          intro M18
          refine ⟨?_, h _ ?_⟩
          · exact q16  -- b6
          · exact ⟨q16, fun _ => ⟨fun _ _ => c3, fun z => absurd z c2⟩⟩  -- q7
      · skip
        refine h _ ?_
        · exact ⟨nb_0, fun z => absurd rfl z⟩  -- q8
    · skip
      refine ⟨?_, h _ ?_⟩
      · exact W.2.2.2.2.2.1 soPlanned _ (by decide) (tS.trans (by decide))  -- b9
      · exact ⟨W.2.2.2.2.2.1 soPlanned _ (by decide) (tS.trans (by decide)), fun z => ⟨fun _ y => absurd c2 y, fun _ => z⟩⟩  -- q10
  · skip
    refine ⟨?_, h _ ?_⟩
    · exact W.2.2.2.2.2.1 chPlayMade _ (by decide) (Ta0.trans (by decide))  -- b11
    · exact ⟨W.2.2.2.2.2.1 chPlayMade _ (by decide) (Ta0.trans (by decide)), fun _ => ⟨fun y => absurd c1 y, fun y => by rw [y] at c1; exact absurd c1 (by decide)⟩⟩  -- q12

theorem Ch_show_c {C : zC} {n0 : Nat} {a0 : Nat} {a1 : Int32} {a2 : Int32} {κ : zS} {Q : Int32 → zS → Prop} {X : zXp} (W : zW C n0 κ) (Ta0 : zT κ a0 = 15) (ρ : Nat → Nat) (L9 : Int) (n9 P9 : Nat) (hp : chI9 ρ κ a0 L9 ∧ (zI κ soSolved (zR κ chSolver a0) ≠ 0 → odX9 ρ κ (zR κ chOdds a0) n9 P9 ∧ (0 < P9 ∧ P9 < pB9 1490) ∧ atW κ (zR κ chAtlas a0) n9 ∧ vsI9 ρ κ (zR κ chSolver a0) n9 P9 ∧ n9 ≤ (zN κ (zR κ soVisits (zR κ chSolver a0))))) (h : ∀ (v : Int32) (κ' : zS), (chI9 ρ κ' a0 L9 ∧ (∃ F, zF F κ κ') ∧ zI κ' chTolds a0 = zI κ chTolds a0) → Q v κ') (hx : ∀ (cls : String) (κ' : zS), ((cls = "java/lang/IllegalArgumentException" ∨ cls = "java/lang/IllegalStateException" ∨ cls = "java/lang/IndexOutOfBoundsException") ∧ κ' = ut κ) → X cls κ') : zRun C 8 mCh_show [.ref a0, .int a1, .int a2] κ (oI Q X) := by
  refine Ch_show_run W Ta0 ?_
  replace W := W.lo (Nat.le_trans W.1.2.1 W.1.2.2) (Nat.le_refl (zn κ))
  unfold w_Ch_show_0
  obtain ⟨I, hX⟩ := hp
  have tS := ty_chSolver W Ta0
  have NS := I.2.2.1.1.1
  have h30 := I.2.2.1.2.2.2
  have J := ch_n9 I
  have D1 := I.2.2.2.2.1.1
  have hj156 : ∀ (l0 : Nat) (l1 : Int32) (l2 : Int32) (τ : zS), zW C (zn κ) τ → zT τ l0 = 15 → (κ = τ ∧ a0 = l0 ∧ a1 = l1 ∧ a2 = l2 ∧ zI κ soSolved (zR κ chSolver a0) ≠ 0) → w_Ch_show_156 C (zn κ) Q X  l0 l1 l2 τ := by
    rintro _ _ _ _ W156 T156_0 ⟨rfl, rfl, rfl, rfl, j156⟩
    unfold w_Ch_show_156
    intro T1
    intro T2
    refine Od_showWeight_c W156 T1 T2 ρ n9 P9 ?_ (fun κ_3 q4 => ?_)
    · have X := hX j156
      rw [D1.2.1]
      exact ⟨NS, X.1, X.2.1, h30⟩
    intro W5
    intro M6
    refine h _ _ ?_
    · rw [D1.2.1] at q4
      exact chI_n9 W Ta0 q4.1.1 (fun r z => z) ⟨q4.1.2.1, q4.1.2.2⟩ q4.2 I
  have hj90 : ∀ (l0 : Nat) (l1 : Int32) (l2 : Int32) (τ : zS), zW C (zn κ) τ → zT τ l0 = 15 → (κ = τ ∧ a0 = l0 ∧ a1 = l1 ∧ a2 = l2 ∧ ((¬ a1 = 12 → ¬ a1 = 11 → zI κ soSolved (zR κ chSolver a0) ≠ 0) ∧ (a1 = 11 → zI κ soPlanned (zR κ chSolver a0) ≠ 0)) ∧ (a1 = 8 ∨ a1 = 11 → zI κ atExplored (zR κ chAtlas a0) ≠ 0 ∧ 0 ≤ a2.toInt ∧ a2.toInt < (zI κ hoTotal (zR κ atStates (zR κ chAtlas a0))).toInt)) → w_Ch_show_90 C (zn κ) Q X  l0 l1 l2 τ := by
    rintro _ _ _ _ W90 T90_0 ⟨rfl, rfl, rfl, rfl, j90⟩
    unfold w_Ch_show_90
    refine ⟨fun c7 => ?_, fun c7 => ?_⟩
    · skip
      refine ⟨fun c8 => ?_, fun c8 => ?_⟩
      · skip
        refine ⟨fun c9 => ?_, fun c9 => ?_⟩
        · skip
          refine hj156 _ _ _ _ W90 ?_ ?_
          · exact Ta0  -- t3
          · exact ⟨rfl, rfl, rfl, rfl, j90.1.1 c7 c8⟩  -- k4
        · skip
          refine ⟨fun c10 => ?_, fun c10 => ?_⟩
          · skip
            refine hj156 _ _ _ _ W90 ?_ ?_
            · exact Ta0  -- t5
            · exact ⟨rfl, rfl, rfl, rfl, j90.1.1 c7 c8⟩  -- k6
          · skip
            intro T11
            intro T12
            refine So_showVisits_c W90 T11 T12 ρ n9 P9 ?_ (fun κ_13 q14 => ?_)
            · have X := hX (j90.1.1 c7 c8)
              refine ⟨NS, ⟨by rw [I.2.2.1.2.2.1.1]; exact X.2.2.1, X.2.2.2.2⟩, X.2.2.2.1, X.2.1, h30, fun z => ?_⟩
              have y := j90.2 (Or.inl z)
              have t := X.2.2.1.2.2.2.1
              exact ⟨y.2.1, by omega⟩
            intro W15
            intro M16
            refine h _ _ ?_
            · refine chI_n9 W Ta0 q14.1.1 (fun r z => z) ⟨q14.1.2.1, q14.1.2.2⟩ ?_ I
              rcases q14.2 with y | y
              · exact y
              · rw [y]; exact I.2.2.1.1.2.2.2.2.2.2
      · skip
        have H11 : zI κ soPlanned (zR κ chSolver a0) ≠ 0 → (zI κ atExplored (zR κ chAtlas a0) ≠ 0 ∧ 0 ≤ a2.toInt ∧ a2.toInt < (zI κ hoTotal (zR κ atStates (zR κ chAtlas a0))).toInt) → (a2.toInt < (zN κ (zR κ soWorths (zR κ chSolver a0))) ∧ a2.toNatClampNeg < 1000) ∧ ∃ u, zQ κ (zR κ soWorths (zR κ chSolver a0)) a2.toNatClampNeg = some u := fun y1 y2 => by
          obtain ⟨x1, x3⟩ := I.2.2.2.1.2 y1
          obtain ⟨⟨n, hn⟩, _⟩ := ch_x9 I x1
          have t := hn.2.2.2.1
          have t3 := hn.2.2.1
          have k := cnk y2.2.1
          have z := x3 n hn
          exact ⟨⟨by omega, by omega⟩, z.2 _ (by omega)⟩
        refine ⟨?_, ?_⟩
        · have y2 := j90.2 (Or.inr c8)
          have H := H11 (j90.1.2 c8) y2
          rw [inb_iff]
          exact ⟨y2.2.1, H.1.1⟩
        refine ex_some ?_ (fun u17 hu17 => ?_)
        · exact (H11 (j90.1.2 c8) (j90.2 (Or.inr c8))).2  -- e10
        intro T18
        intro T19
        have hw := I.2.2.1.1.2.2.2.2.1.1 _ u17 (H11 (j90.1.2 c8) (j90.2 (Or.inr c8))).1.2 hu17
        have hr : raR (104 + 8 * a2.toNatClampNeg) := Or.inr (Or.inr ⟨by omega, by have := (H11 (j90.1.2 c8) (j90.2 (Or.inr c8))).1.2; omega, by omega⟩)
        have q := NS.1.2 u17 (by rw [hw]; exact hr)
        rw [hw] at q
        have q30 := ra_t9 NS.1 h30 (Or.inr rfl)
        have g1 := nm_g NS.1 q.2.1 (raR_n hr).1 (by omega)
        have g2 := nm_g NS.1 q.2.2 (raR_n hr).2 (by omega)
        have c1 : capR (104 + 8 * a2.toNatClampNeg + 1) = 20 := by
          have := (H11 (j90.1.2 c8) (j90.2 (Or.inr c8))).1.2
          unfold capR
          rw [if_neg (by omega), if_pos (by omega)]
        have c2 : capR (104 + 8 * a2.toNatClampNeg + 2) = 20 := by
          have := (H11 (j90.1.2 c8) (j90.2 (Or.inr c8))).1.2
          unfold capR
          rw [if_neg (by omega), if_pos (by omega)]
        rw [c1] at g1
        rw [c2] at g2
        have k1 := nuK_c9 g1.1
        have k2 := nuK_c9 g2.1
        refine Ra_copy_c W90 T18 T19 6500 ?_ (fun κ_20 q21 => ?_)
        · refine ⟨q30.2.1, ⟨g1.2.1, g2.2.1, ro_n q.2.1 q.2.2 (by omega)⟩, ⟨ro_n q30.1.1 q.2.1 (by omega), ro_n q30.1.1 q.2.2 (by omega), ro_n q30.1.2 q.2.1 (by omega), ro_n q30.1.2 q.2.2 (by omega)⟩, ⟨by omega, by omega⟩, by decide⟩  -- p11
        intro W22
        intro M23
        refine h _ _ ?_
        · have rt := raF_r q21.1 (f := raTop) (x := zR κ chShown a0) (by decide) (by decide) (by decide)
          have rb := raF_r q21.1 (f := raBottom) (x := zR κ chShown a0) (by decide) (by decide) (by decide)
          have y := q21.2.1
          unfold raJ at y
          rw [rt, rb] at y
          have M := nm_ra W tS NS.1 NS.2 h30 (Or.inr (Or.inl rfl)) q21.1 y.1 y.2.1
          have tl := ty_soLess W tS
          have l8 : ρ (zR κ soLess (zR κ chSolver a0)) = 8 := NS.2.1.2.2.2.2.2.1
          have nl := (soF_B (c := 0) W tl (M.2 0) (by rw [l8]; decide)).2.1
          exact chI_n9 W Ta0 (M.2 0) (fun r z => by rcases z with z | z | z <;> omega) M.1 (by rw [nl]; exact I.2.2.1.1.2.2.2.2.2.2) I
    · skip
      intro T24
      refine Ch_showPlay_c W90 T24  ?_ (fun κ_25 q26 => ?_)
      · exact ⟨(ra_t9 NS.1 h30 (Or.inr rfl)).2.1, I.2.2.2.2.2.1.2.2.2.2, I.2.2.2.2.2.1.2.1.1⟩  -- p13
      intro W27
      intro M28
      refine h _ _ ?_
      · have rt := raF_r q26.1 (f := raTop) (x := zR κ chShown a0) (by decide) (by decide) (by decide)
        have rb := raF_r q26.1 (f := raBottom) (x := zR κ chShown a0) (by decide) (by decide) (by decide)
        have y := q26.2
        unfold raJ at y
        rw [rt, rb] at y
        have M := nm_ra W tS NS.1 NS.2 h30 (Or.inr (Or.inl rfl)) q26.1 y.1 y.2.1
        have tl := ty_soLess W tS
        have l8 : ρ (zR κ soLess (zR κ chSolver a0)) = 8 := NS.2.1.2.2.2.2.2.1
        have nl := (soF_B (c := 0) W tl (M.2 0) (by rw [l8]; decide)).2.1
        exact chI_n9 W Ta0 (M.2 0) (fun r z => by rcases z with z | z | z <;> omega) M.1 (by rw [nl]; exact I.2.2.1.1.2.2.2.2.2.2) I
  have hj68 : ∀ (l0 : Nat) (l1 : Int32) (l2 : Int32) (τ : zS), zW C (zn κ) τ → zT τ l0 = 15 → (κ = τ ∧ a0 = l0 ∧ a1 = l1 ∧ a2 = l2 ∧ ((¬ a1 = 12 → ¬ a1 = 11 → zI κ soSolved (zR κ chSolver a0) ≠ 0) ∧ (a1 = 11 → zI κ soPlanned (zR κ chSolver a0) ≠ 0))) → w_Ch_show_68 C (zn κ) Q X  l0 l1 l2 τ := by
    rintro _ _ _ _ W68 T68_0 ⟨rfl, rfl, rfl, rfl, j68⟩
    unfold w_Ch_show_68
    intro T29
    refine At_holds_c W68 T29  (fun r30 q32 => ?_)
    intro W33
    intro M34
    refine ⟨fun c35 => ?_, fun c35 => ?_⟩
    · skip
      refine hj90 _ _ _ _ W33 ?_ ?_
      · exact Ta0  -- t15
      · exact ⟨rfl, rfl, rfl, rfl, j68, fun _ => q32.2 c35⟩  -- k16
    · skip
      intro κ_36 hκ_36
      refine hx _ _ ?_
      · exact ⟨Or.inr (Or.inr rfl), hκ_36⟩  -- x17
  have hj56 : ∀ (l0 : Nat) (l1 : Int32) (l2 : Int32) (τ : zS), zW C (zn κ) τ → zT τ l0 = 15 → (κ = τ ∧ a0 = l0 ∧ a1 = l1 ∧ a2 = l2 ∧ ((¬ a1 = 12 → ¬ a1 = 11 → zI κ soSolved (zR κ chSolver a0) ≠ 0) ∧ (a1 = 11 → zI κ soPlanned (zR κ chSolver a0) ≠ 0))) → w_Ch_show_56 C (zn κ) Q X  l0 l1 l2 τ := by
    rintro _ _ _ _ W56 T56_0 ⟨rfl, rfl, rfl, rfl, j56⟩
    unfold w_Ch_show_56
    refine ⟨fun c37 => ?_, fun c37 => ?_⟩
    · skip
      refine hj68 _ _ _ _ W56 ?_ ?_
      · exact Ta0  -- t18
      · exact ⟨rfl, rfl, rfl, rfl, j56⟩  -- k19
    · skip
      refine ⟨fun c38 => ?_, fun c38 => ?_⟩
      · skip
        refine hj90 _ _ _ _ W56 ?_ ?_
        · exact Ta0  -- t20
        · exact ⟨rfl, rfl, rfl, rfl, j56, fun z => z.elim (fun y => absurd y c37) (fun y => absurd y c38)⟩  -- k21
      · skip
        refine hj68 _ _ _ _ W56 ?_ ?_
        · exact Ta0  -- t22
        · exact ⟨rfl, rfl, rfl, rfl, j56⟩  -- k23
  refine ⟨fun c39 => ?_, fun c39 => ?_⟩
  · skip
    intro κ_40 hκ_40
    refine hx _ _ ?_
    · exact ⟨Or.inl rfl, hκ_40⟩  -- x24
  · skip
    refine ⟨fun c41 => ?_, fun c41 => ?_⟩
    · skip
      intro T42
      refine Ch_showsNow_c W T42 ρ n9 P9 ?_ (fun r43 q45 => ?_)
      · exact fun z => (hX z).1  -- p25
      intro W46
      intro M47
      refine ⟨fun c48 => ?_, fun c48 => ?_⟩
      · skip
        refine ⟨fun c49 => ?_, fun c49 => ?_⟩
        · skip
          refine hj56 _ _ _ _ W46 ?_ ?_
          · exact Ta0  -- t26
          · exact ⟨rfl, rfl, rfl, rfl, q45.2 c48⟩  -- k27
        · skip
          intro T50
          refine At_holdsEnding_c W46 T50  (fun r51 q53 => ?_)
          intro W54
          intro M55
          refine ⟨fun c56 => ?_, fun c56 => ?_⟩
          · skip
            intro κ_57 hκ_57
            refine hx _ _ ?_
            · exact ⟨Or.inr (Or.inr rfl), hκ_57⟩  -- x28
          · skip
            refine hj56 _ _ _ _ W54 ?_ ?_
            · exact Ta0  -- t29
            · exact ⟨rfl, rfl, rfl, rfl, q45.2 c48⟩  -- k30
      · skip
        intro κ_58 hκ_58
        refine hx _ _ ?_
        · exact ⟨Or.inr (Or.inl rfl), hκ_58⟩  -- x31
    · skip
      intro κ_59 hκ_59
      refine hx _ _ ?_
      · exact ⟨Or.inl rfl, hκ_59⟩  -- x32

end
section
set_option maxHeartbeats 1600000
/-! the class: show, by its value -/
noncomputable def sq16 (κ : zS) (a : Nat) (σ : rS) (V U : Nat → Rat) (n : Nat) (kind v : Int32) : Rat :=
  if kind = 12 then pd16 (dW16 κ a) (dT16 κ a) (dC16 κ a).toNat
  else if kind = 11 then U v.toNatClampNeg
  else if kind < 7 ∨ 9 < kind then tK16 κ (zR κ chSolver a) σ V kind v n * (dK16 κ (zR κ chSolver a) σ V kind v n)⁻¹
  else if kind = 8 then V v.toNatClampNeg
  else vs16 V (gg16 κ (zR κ chSolver a)) kind n
def sB16 (κ : zS) (a : Nat) (σ : rS) (V : Nat → Rat) (n : Nat) (kind : Int32) : Prop := (kind = 12 ∧ zI κ chPlayMade a ≠ 0) ∨ (kind = 11 ∧ zI κ soPlanned (zR κ chSolver a) ≠ 0) ∨ (¬ kind = 12 ∧ ¬ kind = 11 ∧ zI κ soSolved (zR κ chSolver a) ≠ 0 ∧ (¬ 1 < kind → n = 0 ∨ ∃ k, k < n ∧ uV16 σ V 6 0 k ≠ 0) ∧ (kind = 10 → n = 0 ∨ ∃ k, k < n ∧ uV16 σ V 7 0 k ≠ 0))
def sD16 (κ : zS) (a : Nat) (kind v : Int32) : Prop := (kind = 2 → 0 ≤ v.toInt ∧ v.toInt < (zI κ hoTotal (zR κ atEndings (zR κ chAtlas a))).toInt) ∧ (kind = 8 ∨ kind = 11 → 0 ≤ v.toInt ∧ v.toInt < (zI κ hoTotal (zR κ atStates (zR κ chAtlas a))).toInt)
theorem uV_616 {σ : rS} {V : Nat → Rat} {v : Int32} {k : Nat} : uV16 σ V 6 v k = uV16 σ V 6 0 k := by
  have e : si16 σ 6 v = si16 σ 6 0 := by
    funext i
    unfold si16
    rw [sh_616, sh_616]
  unfold uV16
  rw [e]
theorem uV_716 {σ : rS} {V : Nat → Rat} {v : Int32} {k : Nat} : uV16 σ V 7 v k = uV16 σ V 7 0 k := by
  have e : si16 σ 7 v = si16 σ 7 0 := by
    funext i
    unfold si16
    rw [sh_716, sh_716]
  unfold uV16
  rw [e]
theorem uV_n16 {κ : zS} {b n : Nat} {σ : rS} {V : Nat → Rat} {a v : Int32} (h : tbl15 κ b n σ) {k : Nat} (hk : k < n) (h0 : 0 ≤ a.toInt) (h7 : a.toInt ≤ 7) : 0 ≤ uV16 σ V a v k := by
  unfold uV16
  split
  · exact Int.le_refl 0
  · refine sI_n16 (fun d hd => Int.mul_nonneg (tw_n16 h hk hd) ?_)
    unfold si16
    exact sh_n16 h0 h7
theorem sK_p16 {κ : zS} {a b n : Nat} {σ : rS} {V : Nat → Rat} {kind v : Int32} (h : tbl15 κ b n σ) (hV : vV15 κ a n V) (hk : kind = 6 ∨ kind = 7) (c : n = 0 ∨ ∃ k, k < n ∧ uV16 σ V kind v k ≠ 0) : 0 < sK16 κ a σ V kind v n := by
  have h0 : 0 ≤ kind.toInt := by rcases hk with z | z <;> rw [z] <;> decide
  have h7 : kind.toInt ≤ 7 := by rcases hk with z | z <;> rw [z] <;> decide
  unfold sK16
  by_cases z : n = 0
  · have e : al16 n kind v = 1 := by
      unfold al16
      rw [if_pos z]
      rcases hk with y | y <;> rw [y]
      · rw [sh_616]; rfl
      · rw [sh_716]; rfl
    have i1 : ((1 : Int) : Rat) = 1 := rfl
    have w0 : wK16 κ a σ V kind v n = 0 := by rw [z]; rfl
    rw [e, w0, i1, Rat.add_zero]
    decide
  · obtain ⟨k, k1, k2⟩ := c.resolve_left z
    have e : al16 n kind v = 0 := if_neg z
    have i0 : ((0 : Int) : Rat) = 0 := rfl
    rw [e, i0, Rat.zero_add]
    have nn : ∀ i, i < n → 0 ≤ un15 κ a V i * ((uV16 σ V kind v i : Int) : Rat) := fun i hi => Rat.mul_nonneg (un_p15 (hV i hi).2) (by
      have y : ((0 : Int) : Rat) ≤ ((uV16 σ V kind v i : Int) : Rat) := Rat.intCast_le_intCast.mpr (uV_n16 h hi h0 h7)
      exact y)
    have g := smQ_ge nn k1
    have v0 : V k ≠ 0 := fun y => k2 (by
      unfold uV16
      rw [if_pos y])
    have v1 := (hV k k1).2
    have p1 : 0 < un15 κ a V k := by
      unfold un15
      refine Rat.mul_pos (by grind) ?_
      have i1 : ((1 : Int) : Rat) = 1 := rfl
      rw [mk_d, i1, Rat.one_mul]
      exact Rat.inv_pos.mpr (nq0 dvN9_p)
    have p2 : (0 : Rat) < ((uV16 σ V kind v k : Int) : Rat) := by
      have y := uV_n16 (V := V) (v := v) h k1 h0 h7
      have y2 : ((0 : Int) : Rat) < ((uV16 σ V kind v k : Int) : Rat) := Rat.intCast_lt_intCast.mpr (by omega)
      exact y2
    have p := Rat.mul_pos p1 p2
    show 0 < smQ (fun k => un15 κ a V k * ((uV16 σ V kind v k : Int) : Rat)) n
    grind
theorem dK_p16 {κ : zS} {a b n : Nat} {σ : rS} {V : Nat → Rat} {kind v : Int32} (h : tbl15 κ b n σ) (hV : vV15 κ a n V) (h0 : 0 ≤ kind.toInt) (c6 : ¬ 1 < kind → n = 0 ∨ ∃ k, k < n ∧ uV16 σ V 6 0 k ≠ 0) (c7 : kind = 10 → n = 0 ∨ ∃ k, k < n ∧ uV16 σ V 7 0 k ≠ 0) : 0 < dK16 κ a σ V kind v n := by
  unfold dK16
  by_cases e : aK16 kind = kind
  · rw [if_pos e]; decide
  · rw [if_neg e]
    rcases aK_16 h0 e with ⟨y, y2⟩ | ⟨y, y2⟩
    · rw [y2]
      refine sK_p16 h hV (Or.inl rfl) ((c6 (by rcases y with y | y <;> rw [y] <;> decide)).imp id (fun ⟨k, k1, k2⟩ => ⟨k, k1, by rw [uV_616]; exact k2⟩))
    · rw [y2]
      refine sK_p16 h hV (Or.inr rfl) ((c7 y).imp id (fun ⟨k, k1, k2⟩ => ⟨k, k1, by rw [uV_716]; exact k2⟩))
theorem At_holds_q6 {C : zC} {n0 : Nat} {a0 : Nat} {a1 : Int32} {κ : zS} {Q : Int32 → zS → Prop} (W : zW C n0 κ) (Ta0 : zT κ a0 = 3)  (h9 : ∀ (v : Int32), ((nb v ∧ (v ≠ 0 → zI κ atExplored a0 ≠ 0 ∧ 0 ≤ a1.toInt ∧ a1.toInt < (zI κ hoTotal (zR κ atStates a0)).toInt)) ∧ (v ≠ 0 ↔ zI κ atExplored a0 ≠ 0 ∧ 0 ≤ a1.toInt ∧ a1.toInt < (zI κ hoTotal (zR κ atStates a0)).toInt)) → Q v κ) : zRun C 0 mAt_holds [.ref a0, .int a1] κ (oI Q noX) := by
  have h : ∀ (v : Int32), (nb v ∧ (v ≠ 0 ↔ zI κ atExplored a0 ≠ 0 ∧ 0 ≤ a1.toInt ∧ a1.toInt < (zI κ hoTotal (zR κ atStates a0)).toInt)) → Q v κ := fun v z => h9 v ⟨⟨z.1, z.2.mp⟩, z.2⟩
  refine At_holds_run W Ta0 ?_
  replace W := W.lo (Nat.le_trans W.1.2.1 W.1.2.2) (Nat.le_refl (zn κ))
  unfold w_At_holds_0
  refine ⟨fun c1 => ?_, fun c1 => ?_⟩
  · refine h _ ⟨nb_0, fun z => absurd rfl z, fun z => absurd c1 z.1⟩
  · refine ⟨fun c2 => ?_, fun c2 => ?_⟩
    · refine h _ ⟨nb_0, fun z => absurd rfl z, fun z => ?_⟩
      rw [lti, t0i] at c2
      omega
    · refine ⟨fun c3 => ?_, fun c3 => ?_⟩
      · refine h _ ⟨nb_0, fun z => absurd rfl z, fun z => ?_⟩
        rw [lei] at c3
        omega
      · refine h _ ?_
        rw [lti, t0i] at c2
        rw [lei] at c3
        exact ⟨nb_1, fun _ => ⟨c1, by omega, by omega⟩, fun _ => by decide⟩
theorem At_holdsEnding_q6 {C : zC} {n0 : Nat} {a0 : Nat} {a1 : Int32} {κ : zS} {Q : Int32 → zS → Prop} (W : zW C n0 κ) (Ta0 : zT κ a0 = 3)  (h9 : ∀ (v : Int32), ((nb v ∧ (v ≠ 0 → zI κ atExplored a0 ≠ 0 ∧ 0 ≤ a1.toInt ∧ a1.toInt < (zI κ hoTotal (zR κ atEndings a0)).toInt)) ∧ (v ≠ 0 ↔ zI κ atExplored a0 ≠ 0 ∧ 0 ≤ a1.toInt ∧ a1.toInt < (zI κ hoTotal (zR κ atEndings a0)).toInt)) → Q v κ) : zRun C 0 mAt_holdsEnding [.ref a0, .int a1] κ (oI Q noX) := by
  have h : ∀ (v : Int32), (nb v ∧ (v ≠ 0 ↔ zI κ atExplored a0 ≠ 0 ∧ 0 ≤ a1.toInt ∧ a1.toInt < (zI κ hoTotal (zR κ atEndings a0)).toInt)) → Q v κ := fun v z => h9 v ⟨⟨z.1, z.2.mp⟩, z.2⟩
  refine At_holdsEnding_run W Ta0 ?_
  replace W := W.lo (Nat.le_trans W.1.2.1 W.1.2.2) (Nat.le_refl (zn κ))
  unfold w_At_holdsEnding_0
  refine ⟨fun c1 => ?_, fun c1 => ?_⟩
  · refine h _ ⟨nb_0, fun z => absurd rfl z, fun z => absurd c1 z.1⟩
  · refine ⟨fun c2 => ?_, fun c2 => ?_⟩
    · refine h _ ⟨nb_0, fun z => absurd rfl z, fun z => ?_⟩
      rw [lti, t0i] at c2
      omega
    · refine ⟨fun c3 => ?_, fun c3 => ?_⟩
      · refine h _ ⟨nb_0, fun z => absurd rfl z, fun z => ?_⟩
        rw [lei] at c3
        omega
      · refine h _ ?_
        rw [lti, t0i] at c2
        rw [lei] at c3
        exact ⟨nb_1, fun _ => ⟨c1, by omega, by omega⟩, fun _ => by decide⟩
theorem exx_16 {a n : Nat} {L : Int} {ρ : Nat → Nat} {κ : zS} {σ : rS} {V : Nat → Rat} {kind : Int32} (I : chI9 ρ κ a L) (n12 : ¬ kind = 12) (B : sB16 κ a σ V n kind) : zI κ atExplored (zR κ chAtlas a) ≠ 0 := by
  rcases B with ⟨z, _⟩ | ⟨_, p⟩ | ⟨_, _, s, _⟩
  · exact absurd z n12
  · exact (I.2.2.2.1.2 p).1
  · exact (I.2.2.2.1.1 s).1
theorem sB_t16 {κ : zS} {a n : Nat} {σ : rS} {V : Nat → Rat} {kind : Int32} (n12 : ¬ kind = 12) (n11 : ¬ kind = 11) (B : sB16 κ a σ V n kind) : (¬ 1 < kind → n = 0 ∨ ∃ k, k < n ∧ uV16 σ V 6 0 k ≠ 0) ∧ (kind = 10 → n = 0 ∨ ∃ k, k < n ∧ uV16 σ V 7 0 k ≠ 0) := by
  rcases B with ⟨z, _⟩ | ⟨z, _⟩ | ⟨_, _, _, c⟩
  · exact absurd z n12
  · exact absurd z n11
  · exact c
theorem sB_m16 {κ : zS} {a n : Nat} {σ : rS} {V : Nat → Rat} {kind : Int32} (e : kind = 12) (B : sB16 κ a σ V n kind) : zI κ chPlayMade a ≠ 0 := by
  rcases B with ⟨_, p⟩ | ⟨z, _⟩ | ⟨z, _⟩
  · exact p
  · rw [e] at z; exact absurd z (by decide)
  · exact absurd e z
theorem Ch_show_q6 {C : zC} {n0 : Nat} {a0 : Nat} {a1 : Int32} {a2 : Int32} {κ : zS} {Q : Int32 → zS → Prop} {X : zXp} (W : zW C n0 κ) (Ta0 : zT κ a0 = 15) (ρ : Nat → Nat) (L9 : Int) (n9 P9 : Nat) (σ9 : rS) (V9 U9 : Nat → Rat) (hS9 : zI κ soSolved (zR κ chSolver a0) ≠ 0 → tbl15 κ (zR κ chAtlas a0) n9 σ9 ∧ lst16 κ (zR κ chAtlas a0) σ9 ∧ vV15 κ (zR κ chSolver a0) n9 V9 ∧ lz16 κ (zR κ chAtlas a0) n9) (hU9 : zI κ soPlanned (zR κ chSolver a0) ≠ 0 → ∀ k : Nat, (k : Int) < (zI κ hoTotal (zR κ atStates (zR κ chAtlas a0))).toInt → rqW8 κ (wU9 κ (zR κ chSolver a0) k) (U9 k)) (hD9 : zI κ chPlayMade a0 ≠ 0 → dO16 κ a0) (hp : chI9 ρ κ a0 L9 ∧ (zI κ soSolved (zR κ chSolver a0) ≠ 0 → odX9 ρ κ (zR κ chOdds a0) n9 P9 ∧ (0 < P9 ∧ P9 < pB9 1490) ∧ atW κ (zR κ chAtlas a0) n9 ∧ vsI9 ρ κ (zR κ chSolver a0) n9 P9 ∧ n9 ≤ (zN κ (zR κ soVisits (zR κ chSolver a0))))) (h : ∀ (v : Int32) (κ' : zS), ((chI9 ρ κ' a0 L9 ∧ (∃ F, zF F κ κ') ∧ zI κ' chTolds a0 = zI κ chTolds a0) ∧ ((v.toInt = (sq16 κ a0 σ9 V9 U9 n9 a1 a2).num.sign ∧ rqW8 κ' (zR κ chShown a0) (sq16 κ a0 σ9 V9 U9 n9 a1 a2)) ∧ (0 ≤ a1.toInt ∧ a1.toInt ≤ 12) ∧ sB16 κ a0 σ9 V9 n9 a1 ∧ sD16 κ a0 a1 a2)) → Q v κ') (hx : ∀ (cls : String) (κ' : zS), (((cls = "java/lang/IllegalArgumentException" ∨ cls = "java/lang/IllegalStateException" ∨ cls = "java/lang/IndexOutOfBoundsException") ∧ κ' = ut κ) ∧ ((cls = "java/lang/IllegalArgumentException" ∧ ¬ (0 ≤ a1.toInt ∧ a1.toInt ≤ 12)) ∨ (cls = "java/lang/IllegalStateException" ∧ (0 ≤ a1.toInt ∧ a1.toInt ≤ 12) ∧ ¬ sB16 κ a0 σ9 V9 n9 a1) ∨ (cls = "java/lang/IndexOutOfBoundsException" ∧ (0 ≤ a1.toInt ∧ a1.toInt ≤ 12) ∧ sB16 κ a0 σ9 V9 n9 a1 ∧ ¬ sD16 κ a0 a1 a2))) → X cls κ') : zRun C 8 mCh_show [.ref a0, .int a1, .int a2] κ (oI Q X) := by
  refine Ch_show_run W Ta0 ?_
  replace W := W.lo (Nat.le_trans W.1.2.1 W.1.2.2) (Nat.le_refl (zn κ))
  unfold w_Ch_show_0
  obtain ⟨I, hX⟩ := hp
  have tS := ty_chSolver W Ta0
  have NS := I.2.2.1.1.1
  have h30 := I.2.2.1.2.2.2
  have J := ch_n9 I
  have D1 := I.2.2.2.2.1.1
  have hj156 : ∀ (l0 : Nat) (l1 : Int32) (l2 : Int32) (τ : zS), zW C (zn κ) τ → zT τ l0 = 15 → ((κ = τ ∧ a0 = l0 ∧ a1 = l1 ∧ a2 = l2 ∧ zI κ soSolved (zR κ chSolver a0) ≠ 0) ∧ (¬ a1 = 12 ∧ ¬ a1 = 11 ∧ (a1 < 7 ∨ 9 < a1)) ∧ (0 ≤ a1.toInt ∧ a1.toInt ≤ 12) ∧ sB16 κ a0 σ9 V9 n9 a1 ∧ sD16 κ a0 a1 a2) → w_Ch_show_156 C (zn κ) Q X  l0 l1 l2 τ := by
    rintro _ _ _ _ W156 T156_0 ⟨⟨rfl, rfl, rfl, rfl, j156⟩, hE⟩
    unfold w_Ch_show_156
    intro T1
    intro T2
    refine Od_showWeight_q6 W156 T1 T2 ρ n9 P9 σ9 V9 (by rw [D1.1]; exact (hS9 j156).1) (by rw [D1.1]; exact (hS9 j156).2.1) (by rw [D1.2.1]; exact (hS9 j156).2.2.1) (by rw [D1.1]; exact (hS9 j156).2.2.2) hE.2.1.1 (by rw [D1.2.1]; exact dK_p16 (hS9 j156).1 (hS9 j156).2.2.1 hE.2.1.1 (sB_t16 hE.1.1 hE.1.2.1 hE.2.2.1).1 (sB_t16 hE.1.1 hE.1.2.1 hE.2.2.1).2) ?_ (fun κ_3 q4 => ?_)
    · have X := hX j156
      rw [D1.2.1]
      exact ⟨NS, X.1, X.2.1, h30⟩
    obtain ⟨q4, z9⟩ := q4
    intro W5
    intro M6
    refine h _ _ ?_
    · refine and_5 ?_ (fun o9 => ?_)  -- q2
      · rw [D1.2.1] at q4
        exact chI_n9 W Ta0 q4.1.1 (fun r z => z) ⟨q4.1.2.1, q4.1.2.2⟩ q4.2 I
      · rw [D1.2.1] at z9
        have e : sq16 κ a0 σ9 V9 U9 n9 a1 a2 = tK16 κ (zR κ chSolver a0) σ9 V9 a1 a2 n9 * (dK16 κ (zR κ chSolver a0) σ9 V9 a1 a2 n9)⁻¹ := by
          unfold sq16
          rw [if_neg hE.1.1, if_neg hE.1.2.1, if_pos hE.1.2.2]
        rw [e]
        refine ⟨⟨?_, z9⟩, hE.2⟩
        rw [(soF_r9 q4.1.1 (f := chShown) (by decide)).1]
        exact z9.1
  have hj90 : ∀ (l0 : Nat) (l1 : Int32) (l2 : Int32) (τ : zS), zW C (zn κ) τ → zT τ l0 = 15 → ((κ = τ ∧ a0 = l0 ∧ a1 = l1 ∧ a2 = l2 ∧ ((¬ a1 = 12 → ¬ a1 = 11 → zI κ soSolved (zR κ chSolver a0) ≠ 0) ∧ (a1 = 11 → zI κ soPlanned (zR κ chSolver a0) ≠ 0)) ∧ (a1 = 8 ∨ a1 = 11 → zI κ atExplored (zR κ chAtlas a0) ≠ 0 ∧ 0 ≤ a2.toInt ∧ a2.toInt < (zI κ hoTotal (zR κ atStates (zR κ chAtlas a0))).toInt)) ∧ (0 ≤ a1.toInt ∧ a1.toInt ≤ 12) ∧ sB16 κ a0 σ9 V9 n9 a1 ∧ sD16 κ a0 a1 a2) → w_Ch_show_90 C (zn κ) Q X  l0 l1 l2 τ := by
    rintro _ _ _ _ W90 T90_0 ⟨⟨rfl, rfl, rfl, rfl, j90⟩, hE⟩
    unfold w_Ch_show_90
    refine ⟨fun c7 => ?_, fun c7 => ?_⟩
    · skip
      refine ⟨fun c8 => ?_, fun c8 => ?_⟩
      · skip
        refine ⟨fun c9 => ?_, fun c9 => ?_⟩
        · skip
          refine hj156 _ _ _ _ W90 ?_ ?_
          · exact Ta0  -- t3
          · refine and_5 ?_ (fun o9 => ⟨⟨c7, c8, Or.inl c9⟩, hE⟩)  -- k4
            exact ⟨rfl, rfl, rfl, rfl, j90.1.1 c7 c8⟩
        · skip
          refine ⟨fun c10 => ?_, fun c10 => ?_⟩
          · skip
            refine hj156 _ _ _ _ W90 ?_ ?_
            · exact Ta0  -- t5
            · refine and_5 ?_ (fun o9 => ⟨⟨c7, c8, Or.inr c10⟩, hE⟩)  -- k6
              exact ⟨rfl, rfl, rfl, rfl, j90.1.1 c7 c8⟩
          · skip
            intro T11
            intro T12
            refine So_showVisits_q6 W90 T11 T12 ρ n9 P9 V9 (hS9 (j90.1.1 c7 c8)).2.2.1 ?_ (fun κ_13 q14 => ?_)
            · have X := hX (j90.1.1 c7 c8)
              refine ⟨NS, ⟨by rw [I.2.2.1.2.2.1.1]; exact X.2.2.1, X.2.2.2.2⟩, X.2.2.2.1, X.2.1, h30, fun z => ?_⟩
              have y := j90.2 (Or.inl z)
              have t := X.2.2.1.2.2.2.1
              exact ⟨y.2.1, by omega⟩
            obtain ⟨q14, z9⟩ := q14
            intro W15
            intro M16
            refine h _ _ ?_
            · refine and_5 ?_ (fun o9 => ?_)  -- q8
              · refine chI_n9 W Ta0 q14.1.1 (fun r z => z) ⟨q14.1.2.1, q14.1.2.2⟩ ?_ I
                rcases q14.2 with y | y
                · exact y
                · rw [y]; exact I.2.2.1.1.2.2.2.2.2.2
              · have e : sq16 κ a0 σ9 V9 U9 n9 a1 a2 = if a1 = 8 then V9 a2.toNatClampNeg else vs16 V9 (gg16 κ (zR κ chSolver a0)) a1 n9 := by
                  unfold sq16
                  rw [if_neg c7, if_neg c8, if_neg (fun z => z.elim c9 c10)]
                rw [e]
                refine ⟨⟨?_, z9⟩, hE⟩
                rw [(soF_r9 q14.1.1 (f := chShown) (by decide)).1]
                exact z9.1
      · skip
        have H11 : zI κ soPlanned (zR κ chSolver a0) ≠ 0 → (zI κ atExplored (zR κ chAtlas a0) ≠ 0 ∧ 0 ≤ a2.toInt ∧ a2.toInt < (zI κ hoTotal (zR κ atStates (zR κ chAtlas a0))).toInt) → (a2.toInt < (zN κ (zR κ soWorths (zR κ chSolver a0))) ∧ a2.toNatClampNeg < 1000) ∧ ∃ u, zQ κ (zR κ soWorths (zR κ chSolver a0)) a2.toNatClampNeg = some u := fun y1 y2 => by
          obtain ⟨x1, x3⟩ := I.2.2.2.1.2 y1
          obtain ⟨⟨n, hn⟩, _⟩ := ch_x9 I x1
          have t := hn.2.2.2.1
          have t3 := hn.2.2.1
          have k := cnk y2.2.1
          have z := x3 n hn
          exact ⟨⟨by omega, by omega⟩, z.2 _ (by omega)⟩
        refine ⟨?_, ?_⟩
        · have y2 := j90.2 (Or.inr c8)
          have H := H11 (j90.1.2 c8) y2
          rw [inb_iff]
          exact ⟨y2.2.1, H.1.1⟩
        refine ex_some ?_ (fun u17 hu17 => ?_)
        · exact (H11 (j90.1.2 c8) (j90.2 (Or.inr c8))).2  -- e10
        intro T18
        intro T19
        have hw := I.2.2.1.1.2.2.2.2.1.1 _ u17 (H11 (j90.1.2 c8) (j90.2 (Or.inr c8))).1.2 hu17
        have hr : raR (104 + 8 * a2.toNatClampNeg) := Or.inr (Or.inr ⟨by omega, by have := (H11 (j90.1.2 c8) (j90.2 (Or.inr c8))).1.2; omega, by omega⟩)
        have q := NS.1.2 u17 (by rw [hw]; exact hr)
        rw [hw] at q
        have q30 := ra_t9 NS.1 h30 (Or.inr rfl)
        have g1 := nm_g NS.1 q.2.1 (raR_n hr).1 (by omega)
        have g2 := nm_g NS.1 q.2.2 (raR_n hr).2 (by omega)
        have c1 : capR (104 + 8 * a2.toNatClampNeg + 1) = 20 := by
          have := (H11 (j90.1.2 c8) (j90.2 (Or.inr c8))).1.2
          unfold capR
          rw [if_neg (by omega), if_pos (by omega)]
        have c2 : capR (104 + 8 * a2.toNatClampNeg + 2) = 20 := by
          have := (H11 (j90.1.2 c8) (j90.2 (Or.inr c8))).1.2
          unfold capR
          rw [if_neg (by omega), if_pos (by omega)]
        rw [c1] at g1
        rw [c2] at g2
        have k1 := nuK_c9 g1.1
        have k2 := nuK_c9 g2.1
        refine Ra_copy_c W90 T18 T19 6500 ?_ (fun κ_20 q21 => ?_)
        · refine ⟨q30.2.1, ⟨g1.2.1, g2.2.1, ro_n q.2.1 q.2.2 (by omega)⟩, ⟨ro_n q30.1.1 q.2.1 (by omega), ro_n q30.1.1 q.2.2 (by omega), ro_n q30.1.2 q.2.1 (by omega), ro_n q30.1.2 q.2.2 (by omega)⟩, ⟨by omega, by omega⟩, by decide⟩  -- p11
        intro W22
        intro M23
        refine h _ _ ?_
        · refine and_5 ?_ (fun o9 => ?_)  -- q12
          · have rt := raF_r q21.1 (f := raTop) (x := zR κ chShown a0) (by decide) (by decide) (by decide)
            have rb := raF_r q21.1 (f := raBottom) (x := zR κ chShown a0) (by decide) (by decide) (by decide)
            have y := q21.2.1
            unfold raJ at y
            rw [rt, rb] at y
            have M := nm_ra W tS NS.1 NS.2 h30 (Or.inr (Or.inl rfl)) q21.1 y.1 y.2.1
            have tl := ty_soLess W tS
            have l8 : ρ (zR κ soLess (zR κ chSolver a0)) = 8 := NS.2.1.2.2.2.2.2.1
            have nl := (soF_B (c := 0) W tl (M.2 0) (by rw [l8]; decide)).2.1
            exact chI_n9 W Ta0 (M.2 0) (fun r z => by rcases z with z | z | z <;> omega) M.1 (by rw [nl]; exact I.2.2.1.1.2.2.2.2.2.2) I
          · have y2 := hE.2.2.2 (Or.inr c8)
            have k2 := cnk y2.1
            have H := hU9 (j90.1.2 c8) a2.toNatClampNeg (by omega)
            have eu : wU9 κ (zR κ chSolver a0) a2.toNatClampNeg = u17 := by
              unfold wU9
              rw [hu17]
              rfl
            rw [eu] at H
            have e : sq16 κ a0 σ9 V9 U9 n9 a1 a2 = U9 a2.toNatClampNeg := by
              unfold sq16
              rw [if_neg c7, if_pos c8]
            have rs := raF_r q21.1 (f := chShown) (x := a0) (by decide) (by decide) (by decide)
            have Vc := q21.2.2
            rw [e, rs]
            exact ⟨⟨Vc.1.trans H.1, Vc.1.trans H.1, Vc.2.1.trans H.2.1, Vc.2.2.trans H.2.2⟩, hE⟩
    · skip
      intro T24
      refine Ch_showPlay_q6 W90 T24 (hD9 (sB_m16 c7 hE.2.1)) ?_ (fun κ_25 q26 => ?_)
      · exact ⟨(ra_t9 NS.1 h30 (Or.inr rfl)).2.1, I.2.2.2.2.2.1.2.2.2.2, I.2.2.2.2.2.1.2.1.1⟩  -- p13
      obtain ⟨q26, z9⟩ := q26
      intro W27
      intro M28
      refine h _ _ ?_
      · refine and_5 ?_ (fun o9 => ?_)  -- q14
        · have rt := raF_r q26.1 (f := raTop) (x := zR κ chShown a0) (by decide) (by decide) (by decide)
          have rb := raF_r q26.1 (f := raBottom) (x := zR κ chShown a0) (by decide) (by decide) (by decide)
          have y := q26.2
          unfold raJ at y
          rw [rt, rb] at y
          have M := nm_ra W tS NS.1 NS.2 h30 (Or.inr (Or.inl rfl)) q26.1 y.1 y.2.1
          have tl := ty_soLess W tS
          have l8 : ρ (zR κ soLess (zR κ chSolver a0)) = 8 := NS.2.1.2.2.2.2.2.1
          have nl := (soF_B (c := 0) W tl (M.2 0) (by rw [l8]; decide)).2.1
          exact chI_n9 W Ta0 (M.2 0) (fun r z => by rcases z with z | z | z <;> omega) M.1 (by rw [nl]; exact I.2.2.1.1.2.2.2.2.2.2) I
        · have e : sq16 κ a0 σ9 V9 U9 n9 a1 a2 = pd16 (dW16 κ a0) (dT16 κ a0) (dC16 κ a0).toNat := by
            unfold sq16
            rw [if_pos c7]
          have rs := raF_r q26.1 (f := chShown) (x := a0) (by decide) (by decide) (by decide)
          rw [e, rs]
          exact ⟨⟨z9.1, z9⟩, hE⟩
  have hj68 : ∀ (l0 : Nat) (l1 : Int32) (l2 : Int32) (τ : zS), zW C (zn κ) τ → zT τ l0 = 15 → ((κ = τ ∧ a0 = l0 ∧ a1 = l1 ∧ a2 = l2 ∧ ((¬ a1 = 12 → ¬ a1 = 11 → zI κ soSolved (zR κ chSolver a0) ≠ 0) ∧ (a1 = 11 → zI κ soPlanned (zR κ chSolver a0) ≠ 0))) ∧ (0 ≤ a1.toInt ∧ a1.toInt ≤ 12) ∧ sB16 κ a0 σ9 V9 n9 a1 ∧ (a1 = 2 → 0 ≤ a2.toInt ∧ a2.toInt < (zI κ hoTotal (zR κ atEndings (zR κ chAtlas a0))).toInt) ∧ (a1 = 8 ∨ a1 = 11)) → w_Ch_show_68 C (zn κ) Q X  l0 l1 l2 τ := by
    rintro _ _ _ _ W68 T68_0 ⟨⟨rfl, rfl, rfl, rfl, j68⟩, hE⟩
    unfold w_Ch_show_68
    intro T29
    refine At_holds_q6 W68 T29  (fun r30 q32 => ?_)
    obtain ⟨q32, z9⟩ := q32
    intro W33
    intro M34
    refine ⟨fun c35 => ?_, fun c35 => ?_⟩
    · skip
      refine hj90 _ _ _ _ W33 ?_ ?_
      · exact Ta0  -- t15
      · refine and_5 ?_ (fun o9 => ⟨hE.1, hE.2.1, hE.2.2.1, fun _ => (q32.2 c35).2⟩)  -- k16
        exact ⟨rfl, rfl, rfl, rfl, j68, fun _ => q32.2 c35⟩
    · skip
      intro κ_36 hκ_36
      refine hx _ _ ?_
      · refine and_5 ?_ (fun o9 => ?_)  -- x17
        · exact ⟨Or.inr (Or.inr rfl), hκ_36⟩
        · have n12 : ¬ a1 = 12 := fun z => by rcases hE.2.2.2 with y | y <;> rw [z] at y <;> exact absurd y (by decide)
          exact Or.inr (Or.inr ⟨rfl, hE.1, hE.2.1, fun z => z9.mpr ⟨exx_16 I n12 hE.2.1, z.2 hE.2.2.2⟩ c35⟩)
  have hj56 : ∀ (l0 : Nat) (l1 : Int32) (l2 : Int32) (τ : zS), zW C (zn κ) τ → zT τ l0 = 15 → ((κ = τ ∧ a0 = l0 ∧ a1 = l1 ∧ a2 = l2 ∧ ((¬ a1 = 12 → ¬ a1 = 11 → zI κ soSolved (zR κ chSolver a0) ≠ 0) ∧ (a1 = 11 → zI κ soPlanned (zR κ chSolver a0) ≠ 0))) ∧ (0 ≤ a1.toInt ∧ a1.toInt ≤ 12) ∧ sB16 κ a0 σ9 V9 n9 a1 ∧ (a1 = 2 → 0 ≤ a2.toInt ∧ a2.toInt < (zI κ hoTotal (zR κ atEndings (zR κ chAtlas a0))).toInt)) → w_Ch_show_56 C (zn κ) Q X  l0 l1 l2 τ := by
    rintro _ _ _ _ W56 T56_0 ⟨⟨rfl, rfl, rfl, rfl, j56⟩, hE⟩
    unfold w_Ch_show_56
    refine ⟨fun c37 => ?_, fun c37 => ?_⟩
    · skip
      refine hj68 _ _ _ _ W56 ?_ ?_
      · exact Ta0  -- t18
      · refine and_5 ?_ (fun o9 => ⟨hE.1, hE.2.1, hE.2.2, Or.inl c37⟩)  -- k19
        exact ⟨rfl, rfl, rfl, rfl, j56⟩
    · skip
      refine ⟨fun c38 => ?_, fun c38 => ?_⟩
      · skip
        refine hj90 _ _ _ _ W56 ?_ ?_
        · exact Ta0  -- t20
        · refine and_5 ?_ (fun o9 => ⟨hE.1, hE.2.1, hE.2.2, fun z => z.elim (fun y => absurd y c37) (fun y => absurd y c38)⟩)  -- k21
          exact ⟨rfl, rfl, rfl, rfl, j56, fun z => z.elim (fun y => absurd y c37) (fun y => absurd y c38)⟩
      · skip
        refine hj68 _ _ _ _ W56 ?_ ?_
        · exact Ta0  -- t22
        · refine and_5 ?_ (fun o9 => ⟨hE.1, hE.2.1, hE.2.2, Or.inr c38⟩)  -- k23
          exact ⟨rfl, rfl, rfl, rfl, j56⟩
  refine ⟨fun c39 => ?_, fun c39 => ?_⟩
  · skip
    intro κ_40 hκ_40
    refine hx _ _ ?_
    · refine and_5 ?_ (fun o9 => Or.inl ⟨rfl, fun z => by rw [lti, t0i] at c39; omega⟩)  -- x24
      exact ⟨Or.inl rfl, hκ_40⟩
  · skip
    refine ⟨fun c41 => ?_, fun c41 => ?_⟩
    · skip
      intro T42
      refine Ch_showsNow_q6 W T42 ρ n9 P9 σ9 V9 (fun z => by rw [D1.1, D1.2.1]; exact ⟨(hS9 z).1, (hS9 z).2.1, (hS9 z).2.2.1⟩) ?_ (fun r43 q45 => ?_)
      · exact fun z => (hX z).1  -- p25
      obtain ⟨q45, z9⟩ := q45
      have zs := z9
      intro W46
      intro M47
      refine ⟨fun c48 => ?_, fun c48 => ?_⟩
      · skip
        refine ⟨fun c49 => ?_, fun c49 => ?_⟩
        · skip
          refine hj56 _ _ _ _ W46 ?_ ?_
          · exact Ta0  -- t26
          · refine and_5 ?_ (fun o9 => ?_)  -- k27
            · exact ⟨rfl, rfl, rfl, rfl, q45.2 c48⟩
            · have A : 0 ≤ a1.toInt ∧ a1.toInt ≤ 12 := by
                have l12 : (12 : Int32).toInt = 12 := rfl
                rw [lti, t0i] at c39
                rw [lei, l12] at c41
                omega
              exact ⟨A, zs.mp c48, fun z => absurd z c49⟩
        · skip
          intro T50
          refine At_holdsEnding_q6 W46 T50  (fun r51 q53 => ?_)
          obtain ⟨q53, z9⟩ := q53
          intro W54
          intro M55
          refine ⟨fun c56 => ?_, fun c56 => ?_⟩
          · skip
            intro κ_57 hκ_57
            refine hx _ _ ?_
            · refine and_5 ?_ (fun o9 => ?_)  -- x28
              · exact ⟨Or.inr (Or.inr rfl), hκ_57⟩
              · have A : 0 ≤ a1.toInt ∧ a1.toInt ≤ 12 := by
                  have l12 : (12 : Int32).toInt = 12 := rfl
                  rw [lti, t0i] at c39
                  rw [lei, l12] at c41
                  omega
                have n12 : ¬ a1 = 12 := fun z => by rw [z] at c49; exact absurd c49 (by decide)
                exact Or.inr (Or.inr ⟨rfl, A, zs.mp c48, fun z => z9.mpr ⟨exx_16 I n12 (zs.mp c48), z.1 c49⟩ c56⟩)
          · skip
            refine hj56 _ _ _ _ W54 ?_ ?_
            · exact Ta0  -- t29
            · refine and_5 ?_ (fun o9 => ?_)  -- k30
              · exact ⟨rfl, rfl, rfl, rfl, q45.2 c48⟩
              · have A : 0 ≤ a1.toInt ∧ a1.toInt ≤ 12 := by
                  have l12 : (12 : Int32).toInt = 12 := rfl
                  rw [lti, t0i] at c39
                  rw [lei, l12] at c41
                  omega
                exact ⟨A, zs.mp c48, fun _ => (z9.mp c56).2⟩
      · skip
        intro κ_58 hκ_58
        refine hx _ _ ?_
        · refine and_5 ?_ (fun o9 => ?_)  -- x31
          · exact ⟨Or.inr (Or.inl rfl), hκ_58⟩
          · have A : 0 ≤ a1.toInt ∧ a1.toInt ≤ 12 := by
              have l12 : (12 : Int32).toInt = 12 := rfl
              rw [lti, t0i] at c39
              rw [lei, l12] at c41
              omega
            exact Or.inr (Or.inl ⟨rfl, A, fun z => zs.mpr z c48⟩)
    · skip
      intro κ_59 hκ_59
      refine hx _ _ ?_
      · refine and_5 ?_ (fun o9 => Or.inl ⟨rfl, fun z => c41 (by have l12 : (12 : Int32).toInt = 12 := rfl; rw [lei, l12]; exact z.2)⟩)  -- x32
        exact ⟨Or.inl rfl, hκ_59⟩

end
section
set_option maxHeartbeats 1600000
/-! what both sides show, and when -/
/-- what holds of both sides where all is solved -/
def VS16 (κ : zS) (a b n : Nat) (σ : rS) (V : Nat → Rat) : Prop := tbl15 κ b n σ ∧ zR κ soAtlas a = b ∧ vV15 κ a n V ∧ (∀ k, k < n → vR15 σ k (V k)) ∧ (∀ k, k < n → (σ.2.2.1 95 k ≠ 0 ↔ cnE σ k)) ∧ vE15 (pR15 σ n) n (cnE σ) V
section
variable {κ : zS} {a b n : Nat} {σ : rS} {V : Nat → Rat}
theorem vS_t16 (h : VS16 κ a b n σ V) : ∀ k, k < n → vt16 σ k = V k := fun k hk => vt_16 (h.2.2.2.1 k hk) (h.2.2.2.2.1 k hk) (fun z => h.2.2.2.2.2.1 k hk z)
theorem n7_16 (h : VS16 κ a b n σ V) : n = (σ.1 70).toNatClampNeg ∧ (n = 0 ↔ σ.1 70 = 0) := by
  have B := tb_n15 h.1
  refine ⟨h.1.1.2.1, fun z => Int32.toInt_inj.mp (by rw [B.2.2, z]; rfl), fun z => ?_⟩
  have y := B.2.2
  rw [z, t0i] at y
  omega
theorem sK_u16 (h : VS16 κ a b n σ V) {kind v : Int32} : sK16 κ a σ V kind v n = ((al16 n kind v : Int) : Rat) + uS16 σ V (si16 σ kind v) n := by
  unfold sK16
  rw [wq_16 h.1 h.2.1]
theorem sQ_u16 (h : VS16 κ a b n σ V) {how v c : Int32} : swQ σ how v c = uS16 σ V (byI σ how v c) n + alQ σ how v c + opQ σ how := by
  unfold swQ
  rw [← (n7_16 h).1, sw_16 (vS_t16 h)]
theorem op_016 {how : Int32} (ne : how ≠ 5) : opQ σ how = 0 := if_neg (fun z => ne z.1)
theorem al_n16 (h : VS16 κ a b n σ V) (n0 : ¬ n = 0) {kind v how c : Int32} : ((al16 n kind v : Int) : Rat) = 0 ∧ alQ σ how v c = 0 := by
  have i0 : ((0 : Int) : Rat) = 0 := rfl
  refine ⟨?_, if_neg (fun z => n0 ((n7_16 h).2.mpr z.1))⟩
  unfold al16
  rw [if_neg n0, i0]
theorem al_016 (h : VS16 κ a b n σ V) (n0 : n = 0) (z75 : n = 0 → σ.2.2.1 75 0 = 0) {v : Int32} : (∀ how : Int32, (how = 0 ∨ how = 1 ∨ how = 2 ∨ how = 3 ∨ how = 4 ∨ how = 6 ∨ how = 7) → ((al16 n how v : Int) : Rat) = alQ σ how v 0) ∧ ((al16 n 10 v : Int) : Rat) = alQ σ 7 0 1 ∧ ((al16 n 5 v : Int) : Rat) = 1 ∧ alQ σ 5 v 0 = 0 := by
  have e70 := (n7_16 h).2.mp n0
  have e75 := z75 n0
  have i0 : ((0 : Int) : Rat) = 0 := rfl
  have i1 : ((1 : Int) : Rat) = 1 := rfl
  unfold al16
  rw [if_pos n0, if_pos n0]
  refine ⟨fun how hh => ?_, ?_, ?_, ?_⟩
  · rw [if_pos n0]
    rcases hh with z | z | z | z | z | z | z <;> subst z
    · rw [sh_016]
      by_cases q : (0 : Int32) = v
      · rw [if_pos ⟨rfl, q⟩, i1]
        exact ((if_pos ⟨e70, Or.inl ⟨rfl, e75.trans q⟩⟩ : alQ σ 0 v 0 = _).trans (if_pos rfl)).symm
      · rw [if_neg (fun y => q y.2), i0]
        exact (if_neg (fun y => by
          rcases y.2 with w | w | w
          · exact q (e75.symm.trans w.2)
          · exact absurd w.1 (by decide)
          · exact w (by decide)) : alQ σ 0 v 0 = _).symm
    · rw [sh_116, if_neg (fun y => absurd y.1 (by decide)), i0]
      exact (if_neg (fun y => by
        rcases y.2 with w | w | w
        · exact absurd w.1 (by decide)
        · exact absurd w.1 (by decide)
        · exact w (by decide)) : alQ σ 1 v 0 = _).symm
    · rw [sh_216]
      by_cases q : (0 : Int32) = v
      · rw [if_pos ⟨rfl, q⟩, i1]
        exact ((if_pos ⟨e70, Or.inr (Or.inl ⟨rfl, q.symm⟩)⟩ : alQ σ 2 v 0 = _).trans (if_pos rfl)).symm
      · rw [if_neg (fun y => q y.2), i0]
        exact (if_neg (fun y => by
          rcases y.2 with w | w | w
          · exact absurd w.1 (by decide)
          · exact q w.2.symm
          · exact w (by decide)) : alQ σ 2 v 0 = _).symm
    · rw [sh_316, if_neg (fun y => absurd y.1 (by decide)), i0]
      exact (if_neg (fun y => by
        rcases y.2 with w | w | w
        · exact absurd w.1 (by decide)
        · exact absurd w.1 (by decide)
        · exact w (by decide)) : alQ σ 3 v 0 = _).symm
    · rw [sh_416, if_neg (by decide), i0]
      exact (if_neg (fun y => by
        rcases y.2 with w | w | w
        · exact absurd w.1 (by decide)
        · exact absurd w.1 (by decide)
        · exact w (by decide)) : alQ σ 4 v 0 = _).symm
    · rw [sh_616, if_pos (Or.inl rfl), i1]
      exact ((if_pos ⟨e70, Or.inr (Or.inr (by decide))⟩ : alQ σ 6 v 0 = _).trans (if_pos rfl)).symm
    · rw [sh_716, if_pos rfl, i1]
      exact ((if_pos ⟨e70, Or.inr (Or.inr (by decide))⟩ : alQ σ 7 v 0 = _).trans (if_pos rfl)).symm
  · rw [sh_e16 (Or.inr (by decide)), if_pos rfl, t0i, i0]
    exact ((if_pos ⟨e70, Or.inr (Or.inr (by decide))⟩ : alQ σ 7 0 1 = _).trans (if_neg (by decide))).symm
  · rw [sh_516, if_neg (by decide), i1]
  · exact if_neg (fun y => by
      rcases y.2 with w | w | w
      · exact absurd w.1 (by decide)
      · exact absurd w.1 (by decide)
      · exact w (by decide))
theorem sQ_16 (h : VS16 κ a b n σ V) (z75 : n = 0 → σ.2.2.1 75 0 = 0) {how v : Int32} (hh : how = 0 ∨ how = 1 ∨ how = 2 ∨ how = 3 ∨ how = 4 ∨ how = 6 ∨ how = 7) : sK16 κ a σ V how v n = swQ σ how v 0 := by
  have s := si_b16 (σ := σ) (v := v)
  have e : si16 σ how v = byI σ how v 0 := by
    rcases hh with z | z | z | z | z | z | z <;> subst z
    · exact s.1
    · exact s.2.1
    · exact s.2.2.1
    · exact s.2.2.2.1
    · exact s.2.2.2.2.1
    · exact s.2.2.2.2.2.1
    · exact s.2.2.2.2.2.2
  have n5 : how ≠ 5 := fun z => by rw [z] at hh; revert hh; decide
  rw [sK_u16 h, sQ_u16 h, e, op_016 n5]
  by_cases n0 : n = 0
  · rw [(al_016 h n0 z75).1 how hh]
    grind
  · rw [(al_n16 h n0 (how := how) (c := 0)).1, (al_n16 h n0 (kind := how)).2]
    grind
theorem sQ_t16 (h : VS16 κ a b n σ V) (z75 : n = 0 → σ.2.2.1 75 0 = 0) {v : Int32} : sK16 κ a σ V 10 v n = swQ σ 7 0 1 := by
  rw [sK_u16 h, sQ_u16 h, si_t16, op_016 (by decide)]
  by_cases n0 : n = 0
  · rw [(al_016 h n0 z75).2.1]
    grind
  · rw [(al_n16 h n0 (how := 7) (c := 1)).1, (al_n16 h n0 (kind := 7) (v := 0)).2]
    grind
theorem sQ_516 (h : VS16 κ a b n σ V) (z75 : n = 0 → σ.2.2.1 75 0 = 0) {v : Int32} : 1 - sK16 κ a σ V 5 v n = swQ σ 5 v 0 := by
  rw [sK_u16 h, sQ_u16 h]
  by_cases n0 : n = 0
  · have l := (al_016 h n0 z75 (v := v)).2.2
    have o : opQ σ 5 = 0 := if_neg (fun y => y.2.1 (by rw [(n7_16 h).2.mp n0]; decide))
    have u1 : uS16 σ V (si16 σ 5 v) n = 0 := by rw [n0]; rfl
    have u2 : uS16 σ V (byI σ 5 v 0) n = 0 := by rw [n0]; rfl
    rw [l.1, l.2, o, u1, u2]
    grind
  · have l := al_n16 h n0 (kind := 5) (v := v) (how := 5) (c := 0)
    have q := lost_16 (v := v) h.1 (by omega) h.2.2.2.2.1 h.2.2.2.2.2
    have e : opQ σ 5 = if σ.2.2.1 95 0 = 0 then 1 else 0 := by
      have p : ¬ σ.1 70 ≤ 0 := fun y => by
        have B := (tb_n15 h.1).2.2
        rw [lei, t0i] at y
        omega
      by_cases c : σ.2.2.1 95 0 = 0
      · rw [if_pos c]; exact if_pos ⟨rfl, p, c⟩
      · rw [if_neg c]; exact if_neg (fun y => c y.2.2)
    rw [l.1, l.2, e]
    grind
theorem sK_v16 {v : Int32} : sK16 κ a σ V 6 v n = sK16 κ a σ V 6 0 n ∧ sK16 κ a σ V 7 v n = sK16 κ a σ V 7 0 n := by
  unfold sK16 al16 wK16
  constructor
  · rw [sh_616, sh_616]
    congr 1
  · rw [sh_716, sh_716]
    congr 1
/-- the fraction of weights -/
theorem sT_16 (h : VS16 κ a b n σ V) (z75 : n = 0 → σ.2.2.1 75 0 = 0) {kind v : Int32} (h0 : 0 ≤ kind.toInt) (hk : kind < 7 ∨ kind = 10) : tK16 κ a σ V kind v n * (dK16 κ a σ V kind v n)⁻¹ = shR16 σ kind v := by
  have l7 : (7 : Int32).toInt = 7 := rfl
  have ks : kind = 0 ∨ kind = 1 ∨ kind = 2 ∨ kind = 3 ∨ kind = 4 ∨ kind = 5 ∨ kind = 6 ∨ kind = 10 := by
    rcases hk with c | c
    · rw [lti, l7] at c
      have e : ∀ k : Int32, kind.toInt = k.toInt → kind = k := fun k => ik_16
      have : kind.toInt = 0 ∨ kind.toInt = 1 ∨ kind.toInt = 2 ∨ kind.toInt = 3 ∨ kind.toInt = 4 ∨ kind.toInt = 5 ∨ kind.toInt = 6 := by omega
      rcases this with z | z | z | z | z | z | z
      · exact Or.inl (e 0 z)
      · exact Or.inr (Or.inl (e 1 z))
      · exact Or.inr (Or.inr (Or.inl (e 2 z)))
      · exact Or.inr (Or.inr (Or.inr (Or.inl (e 3 z))))
      · exact Or.inr (Or.inr (Or.inr (Or.inr (Or.inl (e 4 z)))))
      · exact Or.inr (Or.inr (Or.inr (Or.inr (Or.inr (Or.inl (e 5 z))))))
      · exact Or.inr (Or.inr (Or.inr (Or.inr (Or.inr (Or.inr (Or.inl (e 6 z)))))))
    · exact Or.inr (Or.inr (Or.inr (Or.inr (Or.inr (Or.inr (Or.inr c))))))
  have d6 : sK16 κ a σ V 6 v n = swQ σ 6 0 0 := (sK_v16 (v := v)).1.trans (sQ_16 h z75 (by decide))
  have d7 : sK16 κ a σ V 7 v n = swQ σ 7 0 0 := (sK_v16 (v := v)).2.trans (sQ_16 h z75 (by decide))
  unfold tK16 dK16
  rcases ks with z | z | z | z | z | z | z | z <;> subst z
  · rw [if_neg (by decide), if_neg (by decide), show aK16 0 = 6 from rfl, d6, sQ_16 h z75 (by decide), sR_o16 (by decide)]
  · rw [if_neg (by decide), if_neg (by decide), show aK16 1 = 6 from rfl, d6, sQ_16 h z75 (by decide), sR_o16 (by decide)]
  · rw [if_neg (by decide), if_pos (by decide), iv_116, Rat.mul_one, sQ_16 h z75 (by decide), sR_w16 (by decide) (by decide)]
  · rw [if_neg (by decide), if_pos (by decide), iv_116, Rat.mul_one, sQ_16 h z75 (by decide), sR_w16 (by decide) (by decide)]
  · rw [if_neg (by decide), if_pos (by decide), iv_116, Rat.mul_one, sQ_16 h z75 (by decide), sR_w16 (by decide) (by decide)]
  · rw [if_pos rfl, if_pos (by decide), iv_116, Rat.mul_one, sQ_516 h z75, sR_w16 (by decide) (by decide)]
  · rw [if_neg (by decide), if_pos (by decide), iv_116, Rat.mul_one, sQ_16 h z75 (by decide), sR_w16 (by decide) (by decide)]
  · rw [if_neg (by decide), if_neg (by decide), show aK16 10 = 7 from rfl, d7, sQ_t16 h z75, sR_1016]
/-- sums of visits -/
theorem sV_16v (h : VS16 κ a b n σ V) {g : Nat → Int32} (hg : ∀ k, k < n → g k = σ.2.2.1 82 k) {v : Int32} : vs16 V g 7 n = shR16 σ 7 v ∧ vs16 V g 9 n = shR16 σ 9 v := by
  rw [sR_716, sR_916, ← (n7_16 h).1]
  constructor
  · refine smQ_c (fun k hk => ?_)
    rw [vS_t16 h k hk]
    unfold gv16 gr16
    rw [if_neg (by decide), if_neg (by decide), hg k hk]
  · refine smQ_c (fun k hk => ?_)
    rw [vS_t16 h k hk]
    unfold gv16 gr16
    rw [if_pos rfl, if_pos rfl]
/-- nothing below 0; when something weighs -/
theorem sP_16 (h : VS16 κ a b n σ V) (z75 : n = 0 → σ.2.2.1 75 0 = 0) : (0 ≤ swQ σ 6 0 0 ∧ 0 ≤ swQ σ 7 0 0) ∧ ((n = 0 ∨ ∃ k, k < n ∧ uV16 σ V 6 0 k ≠ 0) ↔ swQ σ 6 0 0 ≠ 0) ∧ ((n = 0 ∨ ∃ k, k < n ∧ uV16 σ V 7 0 k ≠ 0) ↔ swQ σ 7 0 0 ≠ 0) := by
  rw [← sQ_16 h z75 (how := 6) (v := 0) (by decide), ← sQ_16 h z75 (how := 7) (v := 0) (by decide)]
  have key : ∀ kind : Int32, kind = 6 ∨ kind = 7 → (0 ≤ sK16 κ a σ V kind 0 n) ∧ ((n = 0 ∨ ∃ k, k < n ∧ uV16 σ V kind 0 k ≠ 0) ↔ sK16 κ a σ V kind 0 n ≠ 0) := fun kind hk => by
    by_cases c : n = 0 ∨ ∃ k, k < n ∧ uV16 σ V kind 0 k ≠ 0
    · have p := sK_p16 (v := 0) h.1 h.2.2.1 hk c
      exact ⟨Rat.le_of_lt p, fun _ => by grind, fun _ => c⟩
    · have n0 : ¬ n = 0 := fun z => c (Or.inl z)
      have z : sK16 κ a σ V kind 0 n = 0 := by
        unfold sK16
        rw [(al_n16 h n0 (how := 0) (c := 0)).1, Rat.zero_add]
        refine smQ_0 (fun k hk => ?_)
        have u : uV16 σ V kind 0 k = 0 := Decidable.byContradiction (fun y => c (Or.inr ⟨k, hk, y⟩))
        have i0 : ((0 : Int) : Rat) = 0 := rfl
        rw [u, i0, Rat.mul_zero]
      rw [z]
      exact ⟨Rat.le_refl, fun y => absurd y c, fun y => absurd rfl y⟩
  exact ⟨⟨(key 6 (Or.inl rfl)).1, (key 7 (Or.inr rfl)).1⟩, (key 6 (Or.inl rfl)).2, (key 7 (Or.inr rfl)).2⟩
end

end
section
set_option maxHeartbeats 1600000
/-! both sides show alike, and throw alike -/
section
variable {κ : zS} {a b n : Nat} {σ : rS} {V U : Nat → Rat}
theorem k2_16 {x : Int32} : (x < 2 ↔ ¬ 1 < x) ∧ (x < 11 ∧ 0 ≤ x → 0 ≤ x.toInt ∧ x.toInt < 11) := by
  have l1 : (1 : Int32).toInt = 1 := rfl
  have l2 : (2 : Int32).toInt = 2 := rfl
  have l11 : (11 : Int32).toInt = 11 := rfl
  rw [lti, lti, lti, lei, l1, l2, l11, t0i]
  omega
theorem r11_16 {x : Int32} (h : x ≤ 12) (n12 : ¬ x = 12) (n11 : ¬ x = 11) : x < 11 := by grind
theorem sB_e16 {kind9 : Int32} (w : 0 ≤ kind9 ∧ kind9 ≤ (12 : Int32)) (hm : zI κ chPlayMade a ≠ 0 ↔ σ.1 106 ≠ -1) (hp : zI κ soPlanned (zR κ chSolver a) ≠ 0 ↔ σ.1 114 ≠ 0) (hs : zI κ soSolved (zR κ chSolver a) ≠ 0 ↔ σ.1 94 ≠ 0) (hv : zI κ soSolved (zR κ chSolver a) ≠ 0 → VS16 κ (zR κ chSolver a) b n σ V ∧ (n = 0 → σ.2.2.1 75 0 = 0)) : sB16 κ a σ V n kind9 ↔ shC σ kind9 ∧ (kind9 < 2 → swQ σ 6 0 0 ≠ 0) ∧ (kind9 = 10 → swQ σ 7 0 0 ≠ 0) := by
  constructor
  · intro B
    rcases B with ⟨e, m⟩ | ⟨e, p⟩ | ⟨n12, n11, s, c6, c7⟩
    · subst e
      exact ⟨⟨fun _ => hm.mp m, fun z => absurd z (by decide), fun z => absurd z (by decide), by decide⟩, fun z => absurd z (by decide), fun z => absurd z (by decide)⟩
    · subst e
      exact ⟨⟨fun z => absurd z (by decide), fun _ => hp.mp p, fun z => absurd z (by decide), by decide⟩, fun z => absurd z (by decide), fun z => absurd z (by decide)⟩
    · have P := sP_16 (hv s).1 (hv s).2
      exact ⟨⟨fun z => absurd z n12, fun z => absurd z n11, fun _ => hs.mp s, w.2⟩, fun z => P.2.1.mp (c6 (k2_16.1.mp z)), fun z => P.2.2.mp (c7 z)⟩
  · rintro ⟨⟨c1, c2, c3, _⟩, c4, c5⟩
    by_cases e12 : kind9 = 12
    · exact Or.inl ⟨e12, hm.mpr (c1 e12)⟩
    · by_cases e11 : kind9 = 11
      · exact Or.inr (Or.inl ⟨e11, hp.mpr (c2 e11)⟩)
      · have s := hs.mpr (c3 (r11_16 w.2 e12 e11))
        have P := sP_16 (hv s).1 (hv s).2
        exact Or.inr (Or.inr ⟨e12, e11, s, fun z => P.2.1.mpr (c4 (k2_16.1.mpr z)), fun z => P.2.2.mpr (c5 z)⟩)
theorem cc_q16 {kind v : Int32} (hm : zI κ chPlayMade a ≠ 0 ↔ σ.1 106 ≠ -1) (hp : zI κ soPlanned (zR κ chSolver a) ≠ 0 ↔ σ.1 114 ≠ 0) (hs : zI κ soSolved (zR κ chSolver a) ≠ 0 ↔ σ.1 94 ≠ 0) (hv : zI κ soSolved (zR κ chSolver a) ≠ 0 → VS16 κ (zR κ chSolver a) b n σ V ∧ (n = 0 → σ.2.2.1 75 0 = 0)) (ht : sB16 κ a σ V n kind → ¬ kind = 12 → zI κ hoTotal (zR κ atStates (zR κ chAtlas a)) = σ.1 70 ∧ zI κ hoTotal (zR κ atEndings (zR κ chAtlas a)) = σ.1 71) : (¬ (0 ≤ kind.toInt ∧ kind.toInt ≤ 12) → cc16 σ kind v = 1) ∧ ((0 ≤ kind.toInt ∧ kind.toInt ≤ 12) ∧ ¬ sB16 κ a σ V n kind → cc16 σ kind v = 2) ∧ ((0 ≤ kind.toInt ∧ kind.toInt ≤ 12) ∧ sB16 κ a σ V n kind ∧ ¬ sD16 κ a kind v → cc16 σ kind v = 3) ∧ ((0 ≤ kind.toInt ∧ kind.toInt ≤ 12) ∧ sB16 κ a σ V n kind ∧ sD16 κ a kind v → cc16 σ kind v = 0) := by
  have l12 : (12 : Int32).toInt = 12 := rfl
  have A : (0 ≤ kind ∧ kind ≤ 12) ↔ (0 ≤ kind.toInt ∧ kind.toInt ≤ 12) := by rw [lei, lei, t0i, l12]
  have D : sB16 κ a σ V n kind → (sD16 κ a kind v ↔ (kind = 2 → 0 ≤ v ∧ v < σ.1 71) ∧ (kind = 8 ∨ kind = 11 → 0 ≤ v ∧ v < σ.1 70)) := fun B => by
    unfold sD16
    by_cases e12 : kind = 12
    · subst e12
      exact ⟨fun _ => ⟨fun z => absurd z (by decide), fun z => by rcases z with z | z <;> exact absurd z (by decide)⟩, fun _ => ⟨fun z => absurd z (by decide), fun z => by rcases z with z | z <;> exact absurd z (by decide)⟩⟩
    · obtain ⟨t1, t2⟩ := ht B e12
      rw [t1, t2, lei, lti, lti, t0i]
  refine ⟨fun h => ?_, fun h => ?_, fun h => ?_, fun h => ?_⟩
  · have e := ca_116 (σ := σ) (fun z => h (A.mp z))
    have ne : ¬ ca16 σ kind = 0 := by rw [e]; decide
    have e2 := cb_a16 ne
    rw [cc_b16 (by rw [e2]; exact ne), e2, e]
  · have w := A.mpr h.1
    have E := sB_e16 w hm hp hs hv
    have n2 : cb16 σ kind = 2 := by
      by_cases c : shC σ kind
      · exact cb_216 (ca_016 w c) (fun z => h.2 (E.mpr ⟨c, z⟩))
      · have e := ca_216 w c
        rw [cb_a16 (by rw [e]; decide), e]
    rw [cc_b16 (by rw [n2]; decide), n2]
  · have w := A.mpr h.1
    obtain ⟨c, c2⟩ := (sB_e16 w hm hp hs hv).mp h.2.1
    exact cc_316 (cb_016 (ca_016 w c) c2) (fun z => h.2.2 ((D h.2.1).mpr z))
  · have w := A.mpr h.1
    obtain ⟨c, c2⟩ := (sB_e16 w hm hp hs hv).mp h.2.1
    exact cc_016 (cb_016 (ca_016 w c) c2) ((D h.2.1).mp h.2.2)
theorem sq_e16 {kind v : Int32} (A : 0 ≤ kind.toInt ∧ kind.toInt ≤ 12) (B : sB16 κ a σ V n kind) (D : sD16 κ a kind v) (hv : zI κ soSolved (zR κ chSolver a) ≠ 0 → VS16 κ (zR κ chSolver a) b n σ V ∧ (n = 0 → σ.2.2.1 75 0 = 0) ∧ (∀ k, k < n → gg16 κ (zR κ chSolver a) k = σ.2.2.1 82 k) ∧ (zI κ hoTotal (zR κ atStates (zR κ chAtlas a))).toInt = (n : Int)) (hu : zI κ soPlanned (zR κ chSolver a) ≠ 0 → ∀ k : Nat, (k : Int) < (zI κ hoTotal (zR κ atStates (zR κ chAtlas a))).toInt → U k = wr16 σ k) (hd : zI κ chPlayMade a ≠ 0 → pd16 (dW16 κ a) (dT16 κ a) (dC16 κ a).toNat = fQ σ 17 18) : sq16 κ a σ V U n kind v = shR16 σ kind v := by
  have l7 : (7 : Int32).toInt = 7 := rfl
  have l9 : (9 : Int32).toInt = 9 := rfl
  unfold sq16
  by_cases e12 : kind = 12
  · rw [if_pos e12, hd (sB_m16 e12 B), e12, sR_1216]
  · rw [if_neg e12]
    by_cases e11 : kind = 11
    · have y := D.2 (Or.inr e11)
      have k := cnk y.1
      have p : zI κ soPlanned (zR κ chSolver a) ≠ 0 := by
        rcases B with ⟨z, _⟩ | ⟨_, p⟩ | ⟨_, z, _⟩
        · exact absurd z e12
        · exact p
        · exact absurd e11 z
      rw [if_pos e11, hu p v.toNatClampNeg (by omega), e11, sR_1116]
    · rw [if_neg e11]
      have s : zI κ soSolved (zR κ chSolver a) ≠ 0 := by
        rcases B with ⟨z, _⟩ | ⟨z, _⟩ | ⟨_, _, s, _⟩
        · exact absurd z e12
        · exact absurd z e11
        · exact s
      obtain ⟨h, z75, hg, hn⟩ := hv s
      by_cases c : kind < 7 ∨ 9 < kind
      · rw [if_pos c]
        refine sT_16 h z75 A.1 (c.imp id (fun z => ?_))
        rw [lti, l9] at z
        have n11 : kind.toInt ≠ 11 := fun y => e11 (ik_16 (k := 11) y)
        have n12 : kind.toInt ≠ 12 := fun y => e12 (ik_16 (k := 12) y)
        exact ik_16 (k := 10) (show kind.toInt = 10 by omega)
      · rw [if_neg c]
        have g : kind.toInt = 7 ∨ kind.toInt = 8 ∨ kind.toInt = 9 := by
          rw [lti, lti, l7, l9] at c
          omega
        rcases g with g | g | g
        · have e := ik_16 (k := 7) g
          subst e
          rw [if_neg (by decide)]
          exact (sV_16v h hg).1
        · have e := ik_16 (k := 8) g
          subst e
          have y := D.2 (Or.inl rfl)
          have k := cnk y.1
          rw [if_pos rfl, sR_816, fV_16 (h.2.2.2.1 v.toNatClampNeg (by omega))]
        · have e := ik_16 (k := 9) g
          subst e
          rw [if_neg (by decide)]
          exact (sV_16v h hg).2
end

end
section
set_option maxHeartbeats 1600000
/-! show: visits and worths stay -/
theorem Ch_show_q16 {C : zC} {n0 : Nat} {a0 : Nat} {a1 : Int32} {a2 : Int32} {κ : zS} {Q : Int32 → zS → Prop} {X : zXp} (W : zW C n0 κ) (Ta0 : zT κ a0 = 15) (ρ : Nat → Nat) (L9 : Int) (n9 P9 : Nat) (σ9 : rS) (V9 U9 : Nat → Rat) (hS9 : zI κ soSolved (zR κ chSolver a0) ≠ 0 → tbl15 κ (zR κ chAtlas a0) n9 σ9 ∧ lst16 κ (zR κ chAtlas a0) σ9 ∧ vV15 κ (zR κ chSolver a0) n9 V9 ∧ lz16 κ (zR κ chAtlas a0) n9) (hU9 : zI κ soPlanned (zR κ chSolver a0) ≠ 0 → ∀ k : Nat, (k : Int) < (zI κ hoTotal (zR κ atStates (zR κ chAtlas a0))).toInt → rqW8 κ (wU9 κ (zR κ chSolver a0) k) (U9 k)) (hD9 : zI κ chPlayMade a0 ≠ 0 → dO16 κ a0) (hp : chI9 ρ κ a0 L9 ∧ (zI κ soSolved (zR κ chSolver a0) ≠ 0 → odX9 ρ κ (zR κ chOdds a0) n9 P9 ∧ (0 < P9 ∧ P9 < pB9 1490) ∧ atW κ (zR κ chAtlas a0) n9 ∧ vsI9 ρ κ (zR κ chSolver a0) n9 P9 ∧ n9 ≤ (zN κ (zR κ soVisits (zR κ chSolver a0))))) (h : ∀ (v : Int32) (κ' : zS), ((chI9 ρ κ' a0 L9 ∧ (∃ F, zF F κ κ') ∧ zI κ' chTolds a0 = zI κ chTolds a0) ∧ ((v.toInt = (sq16 κ a0 σ9 V9 U9 n9 a1 a2).num.sign ∧ rqW8 κ' (zR κ chShown a0) (sq16 κ a0 σ9 V9 U9 n9 a1 a2)) ∧ (0 ≤ a1.toInt ∧ a1.toInt ≤ 12) ∧ sB16 κ a0 σ9 V9 n9 a1 ∧ sD16 κ a0 a1 a2 ∧ ∃ ca, zF (soF ρ shR9 ca) κ κ')) → Q v κ') (hx : ∀ (cls : String) (κ' : zS), (((cls = "java/lang/IllegalArgumentException" ∨ cls = "java/lang/IllegalStateException" ∨ cls = "java/lang/IndexOutOfBoundsException") ∧ κ' = ut κ) ∧ ((cls = "java/lang/IllegalArgumentException" ∧ ¬ (0 ≤ a1.toInt ∧ a1.toInt ≤ 12)) ∨ (cls = "java/lang/IllegalStateException" ∧ (0 ≤ a1.toInt ∧ a1.toInt ≤ 12) ∧ ¬ sB16 κ a0 σ9 V9 n9 a1) ∨ (cls = "java/lang/IndexOutOfBoundsException" ∧ (0 ≤ a1.toInt ∧ a1.toInt ≤ 12) ∧ sB16 κ a0 σ9 V9 n9 a1 ∧ ¬ sD16 κ a0 a1 a2))) → X cls κ') : zRun C 8 mCh_show [.ref a0, .int a1, .int a2] κ (oI Q X) := by
  refine Ch_show_run W Ta0 ?_
  replace W := W.lo (Nat.le_trans W.1.2.1 W.1.2.2) (Nat.le_refl (zn κ))
  unfold w_Ch_show_0
  obtain ⟨I, hX⟩ := hp
  have tS := ty_chSolver W Ta0
  have NS := I.2.2.1.1.1
  have h30 := I.2.2.1.2.2.2
  have J := ch_n9 I
  have D1 := I.2.2.2.2.1.1
  have hj156 : ∀ (l0 : Nat) (l1 : Int32) (l2 : Int32) (τ : zS), zW C (zn κ) τ → zT τ l0 = 15 → ((κ = τ ∧ a0 = l0 ∧ a1 = l1 ∧ a2 = l2 ∧ zI κ soSolved (zR κ chSolver a0) ≠ 0) ∧ (¬ a1 = 12 ∧ ¬ a1 = 11 ∧ (a1 < 7 ∨ 9 < a1)) ∧ (0 ≤ a1.toInt ∧ a1.toInt ≤ 12) ∧ sB16 κ a0 σ9 V9 n9 a1 ∧ sD16 κ a0 a1 a2) → w_Ch_show_156 C (zn κ) Q X  l0 l1 l2 τ := by
    rintro _ _ _ _ W156 T156_0 ⟨⟨rfl, rfl, rfl, rfl, j156⟩, hE⟩
    unfold w_Ch_show_156
    intro T1
    intro T2
    refine Od_showWeight_q6 W156 T1 T2 ρ n9 P9 σ9 V9 (by rw [D1.1]; exact (hS9 j156).1) (by rw [D1.1]; exact (hS9 j156).2.1) (by rw [D1.2.1]; exact (hS9 j156).2.2.1) (by rw [D1.1]; exact (hS9 j156).2.2.2) hE.2.1.1 (by rw [D1.2.1]; exact dK_p16 (hS9 j156).1 (hS9 j156).2.2.1 hE.2.1.1 (sB_t16 hE.1.1 hE.1.2.1 hE.2.2.1).1 (sB_t16 hE.1.1 hE.1.2.1 hE.2.2.1).2) ?_ (fun κ_3 q4 => ?_)
    · have X := hX j156
      rw [D1.2.1]
      exact ⟨NS, X.1, X.2.1, h30⟩
    obtain ⟨q4, z9⟩ := q4
    intro W5
    intro M6
    refine h _ _ ?_
    · refine and_5 ?_ (fun o9 => ?_)  -- q2
      · rw [D1.2.1] at q4
        exact chI_n9 W Ta0 q4.1.1 (fun r z => z) ⟨q4.1.2.1, q4.1.2.2⟩ q4.2 I
      · rw [D1.2.1] at z9
        have e : sq16 κ a0 σ9 V9 U9 n9 a1 a2 = tK16 κ (zR κ chSolver a0) σ9 V9 a1 a2 n9 * (dK16 κ (zR κ chSolver a0) σ9 V9 a1 a2 n9)⁻¹ := by
          unfold sq16
          rw [if_neg hE.1.1, if_neg hE.1.2.1, if_pos hE.1.2.2]
        rw [e]
        refine ⟨⟨?_, z9⟩, hE.2.1, hE.2.2.1, hE.2.2.2, _, q4.1.1⟩
        rw [(soF_r9 q4.1.1 (f := chShown) (by decide)).1]
        exact z9.1
  have hj90 : ∀ (l0 : Nat) (l1 : Int32) (l2 : Int32) (τ : zS), zW C (zn κ) τ → zT τ l0 = 15 → ((κ = τ ∧ a0 = l0 ∧ a1 = l1 ∧ a2 = l2 ∧ ((¬ a1 = 12 → ¬ a1 = 11 → zI κ soSolved (zR κ chSolver a0) ≠ 0) ∧ (a1 = 11 → zI κ soPlanned (zR κ chSolver a0) ≠ 0)) ∧ (a1 = 8 ∨ a1 = 11 → zI κ atExplored (zR κ chAtlas a0) ≠ 0 ∧ 0 ≤ a2.toInt ∧ a2.toInt < (zI κ hoTotal (zR κ atStates (zR κ chAtlas a0))).toInt)) ∧ (0 ≤ a1.toInt ∧ a1.toInt ≤ 12) ∧ sB16 κ a0 σ9 V9 n9 a1 ∧ sD16 κ a0 a1 a2) → w_Ch_show_90 C (zn κ) Q X  l0 l1 l2 τ := by
    rintro _ _ _ _ W90 T90_0 ⟨⟨rfl, rfl, rfl, rfl, j90⟩, hE⟩
    unfold w_Ch_show_90
    refine ⟨fun c7 => ?_, fun c7 => ?_⟩
    · skip
      refine ⟨fun c8 => ?_, fun c8 => ?_⟩
      · skip
        refine ⟨fun c9 => ?_, fun c9 => ?_⟩
        · skip
          refine hj156 _ _ _ _ W90 ?_ ?_
          · exact Ta0  -- t3
          · refine and_5 ?_ (fun o9 => ⟨⟨c7, c8, Or.inl c9⟩, hE⟩)  -- k4
            exact ⟨rfl, rfl, rfl, rfl, j90.1.1 c7 c8⟩
        · skip
          refine ⟨fun c10 => ?_, fun c10 => ?_⟩
          · skip
            refine hj156 _ _ _ _ W90 ?_ ?_
            · exact Ta0  -- t5
            · refine and_5 ?_ (fun o9 => ⟨⟨c7, c8, Or.inr c10⟩, hE⟩)  -- k6
              exact ⟨rfl, rfl, rfl, rfl, j90.1.1 c7 c8⟩
          · skip
            intro T11
            intro T12
            refine So_showVisits_q6 W90 T11 T12 ρ n9 P9 V9 (hS9 (j90.1.1 c7 c8)).2.2.1 ?_ (fun κ_13 q14 => ?_)
            · have X := hX (j90.1.1 c7 c8)
              refine ⟨NS, ⟨by rw [I.2.2.1.2.2.1.1]; exact X.2.2.1, X.2.2.2.2⟩, X.2.2.2.1, X.2.1, h30, fun z => ?_⟩
              have y := j90.2 (Or.inl z)
              have t := X.2.2.1.2.2.2.1
              exact ⟨y.2.1, by omega⟩
            obtain ⟨q14, z9⟩ := q14
            intro W15
            intro M16
            refine h _ _ ?_
            · refine and_5 ?_ (fun o9 => ?_)  -- q8
              · refine chI_n9 W Ta0 q14.1.1 (fun r z => z) ⟨q14.1.2.1, q14.1.2.2⟩ ?_ I
                rcases q14.2 with y | y
                · exact y
                · rw [y]; exact I.2.2.1.1.2.2.2.2.2.2
              · have e : sq16 κ a0 σ9 V9 U9 n9 a1 a2 = if a1 = 8 then V9 a2.toNatClampNeg else vs16 V9 (gg16 κ (zR κ chSolver a0)) a1 n9 := by
                  unfold sq16
                  rw [if_neg c7, if_neg c8, if_neg (fun z => z.elim c9 c10)]
                rw [e]
                refine ⟨⟨?_, z9⟩, hE.1, hE.2.1, hE.2.2, _, q14.1.1⟩
                rw [(soF_r9 q14.1.1 (f := chShown) (by decide)).1]
                exact z9.1
      · skip
        have H11 : zI κ soPlanned (zR κ chSolver a0) ≠ 0 → (zI κ atExplored (zR κ chAtlas a0) ≠ 0 ∧ 0 ≤ a2.toInt ∧ a2.toInt < (zI κ hoTotal (zR κ atStates (zR κ chAtlas a0))).toInt) → (a2.toInt < (zN κ (zR κ soWorths (zR κ chSolver a0))) ∧ a2.toNatClampNeg < 1000) ∧ ∃ u, zQ κ (zR κ soWorths (zR κ chSolver a0)) a2.toNatClampNeg = some u := fun y1 y2 => by
          obtain ⟨x1, x3⟩ := I.2.2.2.1.2 y1
          obtain ⟨⟨n, hn⟩, _⟩ := ch_x9 I x1
          have t := hn.2.2.2.1
          have t3 := hn.2.2.1
          have k := cnk y2.2.1
          have z := x3 n hn
          exact ⟨⟨by omega, by omega⟩, z.2 _ (by omega)⟩
        refine ⟨?_, ?_⟩
        · have y2 := j90.2 (Or.inr c8)
          have H := H11 (j90.1.2 c8) y2
          rw [inb_iff]
          exact ⟨y2.2.1, H.1.1⟩
        refine ex_some ?_ (fun u17 hu17 => ?_)
        · exact (H11 (j90.1.2 c8) (j90.2 (Or.inr c8))).2  -- e10
        intro T18
        intro T19
        have hw := I.2.2.1.1.2.2.2.2.1.1 _ u17 (H11 (j90.1.2 c8) (j90.2 (Or.inr c8))).1.2 hu17
        have hr : raR (104 + 8 * a2.toNatClampNeg) := Or.inr (Or.inr ⟨by omega, by have := (H11 (j90.1.2 c8) (j90.2 (Or.inr c8))).1.2; omega, by omega⟩)
        have q := NS.1.2 u17 (by rw [hw]; exact hr)
        rw [hw] at q
        have q30 := ra_t9 NS.1 h30 (Or.inr rfl)
        have g1 := nm_g NS.1 q.2.1 (raR_n hr).1 (by omega)
        have g2 := nm_g NS.1 q.2.2 (raR_n hr).2 (by omega)
        have c1 : capR (104 + 8 * a2.toNatClampNeg + 1) = 20 := by
          have := (H11 (j90.1.2 c8) (j90.2 (Or.inr c8))).1.2
          unfold capR
          rw [if_neg (by omega), if_pos (by omega)]
        have c2 : capR (104 + 8 * a2.toNatClampNeg + 2) = 20 := by
          have := (H11 (j90.1.2 c8) (j90.2 (Or.inr c8))).1.2
          unfold capR
          rw [if_neg (by omega), if_pos (by omega)]
        rw [c1] at g1
        rw [c2] at g2
        have k1 := nuK_c9 g1.1
        have k2 := nuK_c9 g2.1
        refine Ra_copy_c W90 T18 T19 6500 ?_ (fun κ_20 q21 => ?_)
        · refine ⟨q30.2.1, ⟨g1.2.1, g2.2.1, ro_n q.2.1 q.2.2 (by omega)⟩, ⟨ro_n q30.1.1 q.2.1 (by omega), ro_n q30.1.1 q.2.2 (by omega), ro_n q30.1.2 q.2.1 (by omega), ro_n q30.1.2 q.2.2 (by omega)⟩, ⟨by omega, by omega⟩, by decide⟩  -- p11
        intro W22
        intro M23
        refine h _ _ ?_
        · refine and_5 ?_ (fun o9 => ?_)  -- q12
          · have rt := raF_r q21.1 (f := raTop) (x := zR κ chShown a0) (by decide) (by decide) (by decide)
            have rb := raF_r q21.1 (f := raBottom) (x := zR κ chShown a0) (by decide) (by decide) (by decide)
            have y := q21.2.1
            unfold raJ at y
            rw [rt, rb] at y
            have M := nm_ra W tS NS.1 NS.2 h30 (Or.inr (Or.inl rfl)) q21.1 y.1 y.2.1
            have tl := ty_soLess W tS
            have l8 : ρ (zR κ soLess (zR κ chSolver a0)) = 8 := NS.2.1.2.2.2.2.2.1
            have nl := (soF_B (c := 0) W tl (M.2 0) (by rw [l8]; decide)).2.1
            exact chI_n9 W Ta0 (M.2 0) (fun r z => by rcases z with z | z | z <;> omega) M.1 (by rw [nl]; exact I.2.2.1.1.2.2.2.2.2.2) I
          · have FF : ∃ ca, zF (soF ρ shR9 ca) κ κ_20 := by
              have rt := raF_r q21.1 (f := raTop) (x := zR κ chShown a0) (by decide) (by decide) (by decide)
              have rb := raF_r q21.1 (f := raBottom) (x := zR κ chShown a0) (by decide) (by decide) (by decide)
              have y := q21.2.1
              unfold raJ at y
              rw [rt, rb] at y
              have M := nm_ra W tS NS.1 NS.2 h30 (Or.inr (Or.inl rfl)) q21.1 y.1 y.2.1
              exact ⟨0, soF_m (fun r z => by show r < 100; rcases z with z | z | z <;> omega) (M.2 0)⟩
            have y2 := hE.2.2.2 (Or.inr c8)
            have k2 := cnk y2.1
            have H := hU9 (j90.1.2 c8) a2.toNatClampNeg (by omega)
            have eu : wU9 κ (zR κ chSolver a0) a2.toNatClampNeg = u17 := by
              unfold wU9
              rw [hu17]
              rfl
            rw [eu] at H
            have e : sq16 κ a0 σ9 V9 U9 n9 a1 a2 = U9 a2.toNatClampNeg := by
              unfold sq16
              rw [if_neg c7, if_pos c8]
            have rs := raF_r q21.1 (f := chShown) (x := a0) (by decide) (by decide) (by decide)
            have Vc := q21.2.2
            rw [e, rs]
            exact ⟨⟨Vc.1.trans H.1, Vc.1.trans H.1, Vc.2.1.trans H.2.1, Vc.2.2.trans H.2.2⟩, hE.1, hE.2.1, hE.2.2, FF⟩
    · skip
      intro T24
      refine Ch_showPlay_q6 W90 T24 (hD9 (sB_m16 c7 hE.2.1)) ?_ (fun κ_25 q26 => ?_)
      · exact ⟨(ra_t9 NS.1 h30 (Or.inr rfl)).2.1, I.2.2.2.2.2.1.2.2.2.2, I.2.2.2.2.2.1.2.1.1⟩  -- p13
      obtain ⟨q26, z9⟩ := q26
      intro W27
      intro M28
      refine h _ _ ?_
      · refine and_5 ?_ (fun o9 => ?_)  -- q14
        · have rt := raF_r q26.1 (f := raTop) (x := zR κ chShown a0) (by decide) (by decide) (by decide)
          have rb := raF_r q26.1 (f := raBottom) (x := zR κ chShown a0) (by decide) (by decide) (by decide)
          have y := q26.2
          unfold raJ at y
          rw [rt, rb] at y
          have M := nm_ra W tS NS.1 NS.2 h30 (Or.inr (Or.inl rfl)) q26.1 y.1 y.2.1
          have tl := ty_soLess W tS
          have l8 : ρ (zR κ soLess (zR κ chSolver a0)) = 8 := NS.2.1.2.2.2.2.2.1
          have nl := (soF_B (c := 0) W tl (M.2 0) (by rw [l8]; decide)).2.1
          exact chI_n9 W Ta0 (M.2 0) (fun r z => by rcases z with z | z | z <;> omega) M.1 (by rw [nl]; exact I.2.2.1.1.2.2.2.2.2.2) I
        · have FF : ∃ ca, zF (soF ρ shR9 ca) κ κ_25 := by
            have rt := raF_r q26.1 (f := raTop) (x := zR κ chShown a0) (by decide) (by decide) (by decide)
            have rb := raF_r q26.1 (f := raBottom) (x := zR κ chShown a0) (by decide) (by decide) (by decide)
            have y := q26.2
            unfold raJ at y
            rw [rt, rb] at y
            have M := nm_ra W tS NS.1 NS.2 h30 (Or.inr (Or.inl rfl)) q26.1 y.1 y.2.1
            exact ⟨0, soF_m (fun r z => by show r < 100; rcases z with z | z | z <;> omega) (M.2 0)⟩
          have e : sq16 κ a0 σ9 V9 U9 n9 a1 a2 = pd16 (dW16 κ a0) (dT16 κ a0) (dC16 κ a0).toNat := by
            unfold sq16
            rw [if_pos c7]
          have rs := raF_r q26.1 (f := chShown) (x := a0) (by decide) (by decide) (by decide)
          rw [e, rs]
          exact ⟨⟨z9.1, z9⟩, hE.1, hE.2.1, hE.2.2, FF⟩
  have hj68 : ∀ (l0 : Nat) (l1 : Int32) (l2 : Int32) (τ : zS), zW C (zn κ) τ → zT τ l0 = 15 → ((κ = τ ∧ a0 = l0 ∧ a1 = l1 ∧ a2 = l2 ∧ ((¬ a1 = 12 → ¬ a1 = 11 → zI κ soSolved (zR κ chSolver a0) ≠ 0) ∧ (a1 = 11 → zI κ soPlanned (zR κ chSolver a0) ≠ 0))) ∧ (0 ≤ a1.toInt ∧ a1.toInt ≤ 12) ∧ sB16 κ a0 σ9 V9 n9 a1 ∧ (a1 = 2 → 0 ≤ a2.toInt ∧ a2.toInt < (zI κ hoTotal (zR κ atEndings (zR κ chAtlas a0))).toInt) ∧ (a1 = 8 ∨ a1 = 11)) → w_Ch_show_68 C (zn κ) Q X  l0 l1 l2 τ := by
    rintro _ _ _ _ W68 T68_0 ⟨⟨rfl, rfl, rfl, rfl, j68⟩, hE⟩
    unfold w_Ch_show_68
    intro T29
    refine At_holds_q6 W68 T29  (fun r30 q32 => ?_)
    obtain ⟨q32, z9⟩ := q32
    intro W33
    intro M34
    refine ⟨fun c35 => ?_, fun c35 => ?_⟩
    · skip
      refine hj90 _ _ _ _ W33 ?_ ?_
      · exact Ta0  -- t15
      · refine and_5 ?_ (fun o9 => ⟨hE.1, hE.2.1, hE.2.2.1, fun _ => (q32.2 c35).2⟩)  -- k16
        exact ⟨rfl, rfl, rfl, rfl, j68, fun _ => q32.2 c35⟩
    · skip
      intro κ_36 hκ_36
      refine hx _ _ ?_
      · refine and_5 ?_ (fun o9 => ?_)  -- x17
        · exact ⟨Or.inr (Or.inr rfl), hκ_36⟩
        · have n12 : ¬ a1 = 12 := fun z => by rcases hE.2.2.2 with y | y <;> rw [z] at y <;> exact absurd y (by decide)
          exact Or.inr (Or.inr ⟨rfl, hE.1, hE.2.1, fun z => z9.mpr ⟨exx_16 I n12 hE.2.1, z.2 hE.2.2.2⟩ c35⟩)
  have hj56 : ∀ (l0 : Nat) (l1 : Int32) (l2 : Int32) (τ : zS), zW C (zn κ) τ → zT τ l0 = 15 → ((κ = τ ∧ a0 = l0 ∧ a1 = l1 ∧ a2 = l2 ∧ ((¬ a1 = 12 → ¬ a1 = 11 → zI κ soSolved (zR κ chSolver a0) ≠ 0) ∧ (a1 = 11 → zI κ soPlanned (zR κ chSolver a0) ≠ 0))) ∧ (0 ≤ a1.toInt ∧ a1.toInt ≤ 12) ∧ sB16 κ a0 σ9 V9 n9 a1 ∧ (a1 = 2 → 0 ≤ a2.toInt ∧ a2.toInt < (zI κ hoTotal (zR κ atEndings (zR κ chAtlas a0))).toInt)) → w_Ch_show_56 C (zn κ) Q X  l0 l1 l2 τ := by
    rintro _ _ _ _ W56 T56_0 ⟨⟨rfl, rfl, rfl, rfl, j56⟩, hE⟩
    unfold w_Ch_show_56
    refine ⟨fun c37 => ?_, fun c37 => ?_⟩
    · skip
      refine hj68 _ _ _ _ W56 ?_ ?_
      · exact Ta0  -- t18
      · refine and_5 ?_ (fun o9 => ⟨hE.1, hE.2.1, hE.2.2, Or.inl c37⟩)  -- k19
        exact ⟨rfl, rfl, rfl, rfl, j56⟩
    · skip
      refine ⟨fun c38 => ?_, fun c38 => ?_⟩
      · skip
        refine hj90 _ _ _ _ W56 ?_ ?_
        · exact Ta0  -- t20
        · refine and_5 ?_ (fun o9 => ⟨hE.1, hE.2.1, hE.2.2, fun z => z.elim (fun y => absurd y c37) (fun y => absurd y c38)⟩)  -- k21
          exact ⟨rfl, rfl, rfl, rfl, j56, fun z => z.elim (fun y => absurd y c37) (fun y => absurd y c38)⟩
      · skip
        refine hj68 _ _ _ _ W56 ?_ ?_
        · exact Ta0  -- t22
        · refine and_5 ?_ (fun o9 => ⟨hE.1, hE.2.1, hE.2.2, Or.inr c38⟩)  -- k23
          exact ⟨rfl, rfl, rfl, rfl, j56⟩
  refine ⟨fun c39 => ?_, fun c39 => ?_⟩
  · skip
    intro κ_40 hκ_40
    refine hx _ _ ?_
    · refine and_5 ?_ (fun o9 => Or.inl ⟨rfl, fun z => by rw [lti, t0i] at c39; omega⟩)  -- x24
      exact ⟨Or.inl rfl, hκ_40⟩
  · skip
    refine ⟨fun c41 => ?_, fun c41 => ?_⟩
    · skip
      intro T42
      refine Ch_showsNow_q6 W T42 ρ n9 P9 σ9 V9 (fun z => by rw [D1.1, D1.2.1]; exact ⟨(hS9 z).1, (hS9 z).2.1, (hS9 z).2.2.1⟩) ?_ (fun r43 q45 => ?_)
      · exact fun z => (hX z).1  -- p25
      obtain ⟨q45, z9⟩ := q45
      have zs := z9
      intro W46
      intro M47
      refine ⟨fun c48 => ?_, fun c48 => ?_⟩
      · skip
        refine ⟨fun c49 => ?_, fun c49 => ?_⟩
        · skip
          refine hj56 _ _ _ _ W46 ?_ ?_
          · exact Ta0  -- t26
          · refine and_5 ?_ (fun o9 => ?_)  -- k27
            · exact ⟨rfl, rfl, rfl, rfl, q45.2 c48⟩
            · have A : 0 ≤ a1.toInt ∧ a1.toInt ≤ 12 := by
                have l12 : (12 : Int32).toInt = 12 := rfl
                rw [lti, t0i] at c39
                rw [lei, l12] at c41
                omega
              exact ⟨A, zs.mp c48, fun z => absurd z c49⟩
        · skip
          intro T50
          refine At_holdsEnding_q6 W46 T50  (fun r51 q53 => ?_)
          obtain ⟨q53, z9⟩ := q53
          intro W54
          intro M55
          refine ⟨fun c56 => ?_, fun c56 => ?_⟩
          · skip
            intro κ_57 hκ_57
            refine hx _ _ ?_
            · refine and_5 ?_ (fun o9 => ?_)  -- x28
              · exact ⟨Or.inr (Or.inr rfl), hκ_57⟩
              · have A : 0 ≤ a1.toInt ∧ a1.toInt ≤ 12 := by
                  have l12 : (12 : Int32).toInt = 12 := rfl
                  rw [lti, t0i] at c39
                  rw [lei, l12] at c41
                  omega
                have n12 : ¬ a1 = 12 := fun z => by rw [z] at c49; exact absurd c49 (by decide)
                exact Or.inr (Or.inr ⟨rfl, A, zs.mp c48, fun z => z9.mpr ⟨exx_16 I n12 (zs.mp c48), z.1 c49⟩ c56⟩)
          · skip
            refine hj56 _ _ _ _ W54 ?_ ?_
            · exact Ta0  -- t29
            · refine and_5 ?_ (fun o9 => ?_)  -- k30
              · exact ⟨rfl, rfl, rfl, rfl, q45.2 c48⟩
              · have A : 0 ≤ a1.toInt ∧ a1.toInt ≤ 12 := by
                  have l12 : (12 : Int32).toInt = 12 := rfl
                  rw [lti, t0i] at c39
                  rw [lei, l12] at c41
                  omega
                exact ⟨A, zs.mp c48, fun _ => (z9.mp c56).2⟩
      · skip
        intro κ_58 hκ_58
        refine hx _ _ ?_
        · refine and_5 ?_ (fun o9 => ?_)  -- x31
          · exact ⟨Or.inr (Or.inl rfl), hκ_58⟩
          · have A : 0 ≤ a1.toInt ∧ a1.toInt ≤ 12 := by
              have l12 : (12 : Int32).toInt = 12 := rfl
              rw [lti, t0i] at c39
              rw [lei, l12] at c41
              omega
            exact Or.inr (Or.inl ⟨rfl, A, fun z => zs.mpr z c48⟩)
    · skip
      intro κ_59 hκ_59
      refine hx _ _ ?_
      · refine and_5 ?_ (fun o9 => Or.inl ⟨rfl, fun z => c41 (by have l12 : (12 : Int32).toInt = 12 := rfl; rw [lei, l12]; exact z.2)⟩)  -- x32
        exact ⟨Or.inl rfl, hκ_59⟩

end
section
set_option maxHeartbeats 1600000
/-! the class: groups and their ranks -/
def gR24 (T : Int) (tag tb : Int32 → Int32) (lf rt rk : Nat → Int32) : Prop := (∀ x y : Int32, (0 ≤ x.toInt ∧ x.toInt < T) → (0 ≤ y.toInt ∧ y.toInt < T) → tag x = tag y → (tag x = 1 ∨ tag x = 2) → tb x = tb y → rk x.toNatClampNeg = rk y.toNatClampNeg → x = y) ∧ ∀ g : Int32, (0 ≤ g.toInt ∧ g.toInt < T) → tag g = 0 → (∀ r : Int32, 0 ≤ r.toInt → r.toInt < (lf g.toNatClampNeg).toInt → ∃ x : Int32, (0 ≤ x.toInt ∧ x.toInt < T) ∧ tag x = 1 ∧ tb x = g ∧ rk x.toNatClampNeg = r) ∧ (∀ r : Int32, 0 ≤ r.toInt → r.toInt < (rt g.toNatClampNeg).toInt → ∃ x : Int32, (0 ≤ x.toInt ∧ x.toInt < T) ∧ tag x = 2 ∧ tb x = g ∧ rk x.toNatClampNeg = r)
def gr24 (κ : zS) (a : Nat) : Prop := gR24 ((zI κ hoTotal (zR κ odGroups a)).toInt) (fun x => pV9 κ (zR κ odGroups a) x 0) (fun x => pV9 κ (zR κ odGroups a) x 1) (zA κ (zR κ odLefts a)) (zA κ (zR κ odRights a)) (zA κ (zR κ odRanks a))
section
variable {T : Int} {tag tb tag' tb' : Int32 → Int32} {lf rt rk : Nat → Int32}
theorem gR_e24 (h : gR24 T tag tb lf rt rk) (ht : ∀ x : Int32, x.toInt < T → tag' x = tag x) (hb : ∀ x : Int32, x.toInt < T → tb' x = tb x) : gR24 T tag' tb' lf rt rk := by
  refine ⟨fun x y hx hy e1 e2 e3 e4 => ?_, fun g hg z => ⟨fun r r0 r1 => ?_, fun r r0 r1 => ?_⟩⟩
  · rw [ht x hx.2, ht y hy.2] at e1
    rw [ht x hx.2] at e2
    rw [hb x hx.2, hb y hy.2] at e3
    exact h.1 x y hx hy e1 e2 e3 e4
  · rw [ht g hg.2] at z
    obtain ⟨x, x1, x2, x3, x4⟩ := (h.2 g hg z).1 r r0 r1
    exact ⟨x, x1, by rw [ht x x1.2]; exact x2, by rw [hb x x1.2]; exact x3, x4⟩
  · rw [ht g hg.2] at z
    obtain ⟨x, x1, x2, x3, x4⟩ := (h.2 g hg z).2 r r0 r1
    exact ⟨x, x1, by rw [ht x x1.2]; exact x2, by rw [hb x x1.2]; exact x3, x4⟩
theorem nt_24 {x v : Int32} (h0 : 0 ≤ x.toInt) (hv : 0 ≤ v.toInt) (n : ¬ x = v) : x.toNatClampNeg ≠ v.toNatClampNeg := fun z => n (Int32.toInt_inj.mp (by have a := cnk h0; have b := cnk hv; omega))
/-- a new table -/
theorem gR_t24 {v : Int32} (h : gR24 T tag tb lf rt rk) (hv : v.toInt = T) (T0 : 0 ≤ T) (ht : ∀ x : Int32, x.toInt < T → tag' x = tag x) (hb : ∀ x : Int32, x.toInt < T → tb' x = tb x) (tv : tag' v = 0) : gR24 (T + 1) tag' tb' (upd lf v.toNatClampNeg 0) (upd rt v.toNatClampNeg 0) rk := by
  have le : ∀ x : Int32, x.toInt < T + 1 → ¬ x = v → x.toInt < T := fun x hx n => by
    have : ¬ x.toInt = v.toInt := fun z => n (Int32.toInt_inj.mp z)
    omega
  have nv : ∀ x, tag' x = 1 ∨ tag' x = 2 → ¬ x = v := fun x z e => by
    rw [e, tv] at z
    exact absurd z (by decide)
  refine ⟨fun x y hx hy e1 e2 e3 e4 => ?_, fun g hg z => ?_⟩
  · have x1 := le x hx.2 (nv x e2)
    have y1 := le y hy.2 (nv y (by rw [← e1]; exact e2))
    rw [ht x x1, ht y y1] at e1
    rw [ht x x1] at e2
    rw [hb x x1, hb y y1] at e3
    exact h.1 x y ⟨hx.1, x1⟩ ⟨hy.1, y1⟩ e1 e2 e3 e4
  · by_cases c : g = v
    · rw [c, upd_eq, upd_eq]
      exact ⟨fun r r0 r1 => absurd r1 (by rw [t0i]; omega), fun r r0 r1 => absurd r1 (by rw [t0i]; omega)⟩
    · have g1 := le g hg.2 c
      have n := nt_24 hg.1 (by omega : 0 ≤ v.toInt) c
      rw [ht g g1] at z
      rw [upd_ne n, upd_ne n]
      refine ⟨fun r r0 r1 => ?_, fun r r0 r1 => ?_⟩
      · obtain ⟨x, x1, x2, x3, x4⟩ := (h.2 g ⟨hg.1, g1⟩ z).1 r r0 r1
        exact ⟨x, ⟨x1.1, by omega⟩, by rw [ht x x1.2]; exact x2, by rw [hb x x1.2]; exact x3, x4⟩
      · obtain ⟨x, x1, x2, x3, x4⟩ := (h.2 g ⟨hg.1, g1⟩ z).2 r r0 r1
        exact ⟨x, ⟨x1.1, by omega⟩, by rw [ht x x1.2]; exact x2, by rw [hb x x1.2]; exact x3, x4⟩
/-- a new value on the left -/
theorem gR_l24 {v t : Int32} {ml mr : Int} (h : gR24 T tag tb lf rt rk) (P : gP9 T tag tb lf rt rk ml mr) (hm : ml < 100000) (hv : v.toInt = T) (T0 : 0 ≤ T) (ht : ∀ x : Int32, x.toInt < T → tag' x = tag x) (hb : ∀ x : Int32, x.toInt < T → tb' x = tb x) (tv : tag' v = 1) (bv : tb' v = t) (t0 : 0 ≤ t.toInt) (t1 : t.toInt < T) (tt : tag t = 0) : gR24 (T + 1) tag' tb' (upd lf t.toNatClampNeg (lf t.toNatClampNeg + 1)) rt (upd rk v.toNatClampNeg (lf t.toNatClampNeg)) := by
  have le : ∀ x : Int32, x.toInt < T + 1 → ¬ x = v → x.toInt < T := fun x hx n => by
    have : ¬ x.toInt = v.toInt := fun z => n (Int32.toInt_inj.mp z)
    omega
  have v0 : 0 ≤ v.toInt := by omega
  have lb := ((P t t0 t1).1 tt).1
  have l1 : (lf t.toNatClampNeg + 1).toInt = (lf t.toNatClampNeg).toInt + 1 := by rw [add_i (by rw [t1i]; omega) (by rw [t1i]; omega), t1i]
  have rb : ∀ x : Int32, 0 ≤ x.toInt → x.toInt < T → tag x = 1 → tb x = t → ¬ rk x.toNatClampNeg = lf t.toNatClampNeg := fun x x0 x1 tx bx e => by
    have y := ((P x x0 x1).2.1 tx).2.2
    rw [bx, e] at y
    omega
  refine ⟨fun x y hx hy e1 e2 e3 e4 => ?_, fun g hg z => ?_⟩
  · by_cases cx : x = v <;> by_cases cy : y = v
    · rw [cx, cy]
    · exfalso
      have y1 := le y hy.2 cy
      rw [cx, upd_eq, upd_ne (nt_24 hy.1 v0 cy)] at e4
      rw [cx, tv, ht y y1] at e1
      rw [cx, bv, hb y y1] at e3
      exact rb y hy.1 y1 e1.symm e3.symm e4.symm
    · exfalso
      have x1 := le x hx.2 cx
      rw [cy, upd_eq, upd_ne (nt_24 hx.1 v0 cx)] at e4
      rw [cy, tv, ht x x1] at e1
      rw [cy, bv, hb x x1] at e3
      exact rb x hx.1 x1 e1 e3 e4
    · have x1 := le x hx.2 cx
      have y1 := le y hy.2 cy
      rw [upd_ne (nt_24 hx.1 v0 cx), upd_ne (nt_24 hy.1 v0 cy)] at e4
      rw [ht x x1, ht y y1] at e1
      rw [ht x x1] at e2
      rw [hb x x1, hb y y1] at e3
      exact h.1 x y ⟨hx.1, x1⟩ ⟨hy.1, y1⟩ e1 e2 e3 e4
  · have gv : ¬ g = v := fun e => by rw [e, tv] at z; exact absurd z (by decide)
    have g1 := le g hg.2 gv
    rw [ht g g1] at z
    have H := h.2 g ⟨hg.1, g1⟩ z
    have old : ∀ s r : Int32, (∃ x : Int32, (0 ≤ x.toInt ∧ x.toInt < T) ∧ tag x = s ∧ tb x = g ∧ rk x.toNatClampNeg = r) → ∃ x : Int32, (0 ≤ x.toInt ∧ x.toInt < T + 1) ∧ tag' x = s ∧ tb' x = g ∧ upd rk v.toNatClampNeg (lf t.toNatClampNeg) x.toNatClampNeg = r := fun s r ⟨x, x1, x2, x3, x4⟩ => ⟨x, ⟨x1.1, by omega⟩, by rw [ht x x1.2]; exact x2, by rw [hb x x1.2]; exact x3, by rw [upd_ne (nt_24 x1.1 v0 (fun e => by rw [e] at x1; omega))]; exact x4⟩
    refine ⟨fun r r0 r1 => ?_, fun r r0 r1 => old 2 r (H.2 r r0 r1)⟩
    by_cases c : g = t
    · rw [c, upd_eq, l1] at r1
      by_cases d : r = lf t.toNatClampNeg
      · exact ⟨v, ⟨v0, by omega⟩, tv, by rw [bv, c], by rw [upd_eq, d]⟩
      · refine old 1 r (H.1 r r0 ?_)
        have : ¬ r.toInt = (lf t.toNatClampNeg).toInt := fun z => d (Int32.toInt_inj.mp z)
        rw [c]
        omega
    · rw [upd_ne (nt_24 hg.1 t0 c)] at r1
      exact old 1 r (H.1 r r0 r1)
/-- a new value on the right -/
theorem gR_r24 {v t : Int32} {ml mr : Int} (h : gR24 T tag tb lf rt rk) (P : gP9 T tag tb lf rt rk ml mr) (hm : mr < 100000) (hv : v.toInt = T) (T0 : 0 ≤ T) (ht : ∀ x : Int32, x.toInt < T → tag' x = tag x) (hb : ∀ x : Int32, x.toInt < T → tb' x = tb x) (tv : tag' v = 2) (bv : tb' v = t) (t0 : 0 ≤ t.toInt) (t1 : t.toInt < T) (tt : tag t = 0) : gR24 (T + 1) tag' tb' lf (upd rt t.toNatClampNeg (rt t.toNatClampNeg + 1)) (upd rk v.toNatClampNeg (rt t.toNatClampNeg)) := by
  have le : ∀ x : Int32, x.toInt < T + 1 → ¬ x = v → x.toInt < T := fun x hx n => by
    have : ¬ x.toInt = v.toInt := fun z => n (Int32.toInt_inj.mp z)
    omega
  have v0 : 0 ≤ v.toInt := by omega
  have lb := ((P t t0 t1).1 tt).2
  have l1 : (rt t.toNatClampNeg + 1).toInt = (rt t.toNatClampNeg).toInt + 1 := by rw [add_i (by rw [t1i]; omega) (by rw [t1i]; omega), t1i]
  have rb : ∀ x : Int32, 0 ≤ x.toInt → x.toInt < T → tag x = 2 → tb x = t → ¬ rk x.toNatClampNeg = rt t.toNatClampNeg := fun x x0 x1 tx bx e => by
    have y := ((P x x0 x1).2.2 tx).2.2
    rw [bx, e] at y
    omega
  refine ⟨fun x y hx hy e1 e2 e3 e4 => ?_, fun g hg z => ?_⟩
  · by_cases cx : x = v <;> by_cases cy : y = v
    · rw [cx, cy]
    · exfalso
      have y1 := le y hy.2 cy
      rw [cx, upd_eq, upd_ne (nt_24 hy.1 v0 cy)] at e4
      rw [cx, tv, ht y y1] at e1
      rw [cx, bv, hb y y1] at e3
      exact rb y hy.1 y1 e1.symm e3.symm e4.symm
    · exfalso
      have x1 := le x hx.2 cx
      rw [cy, upd_eq, upd_ne (nt_24 hx.1 v0 cx)] at e4
      rw [cy, tv, ht x x1] at e1
      rw [cy, bv, hb x x1] at e3
      exact rb x hx.1 x1 e1 e3 e4
    · have x1 := le x hx.2 cx
      have y1 := le y hy.2 cy
      rw [upd_ne (nt_24 hx.1 v0 cx), upd_ne (nt_24 hy.1 v0 cy)] at e4
      rw [ht x x1, ht y y1] at e1
      rw [ht x x1] at e2
      rw [hb x x1, hb y y1] at e3
      exact h.1 x y ⟨hx.1, x1⟩ ⟨hy.1, y1⟩ e1 e2 e3 e4
  · have gv : ¬ g = v := fun e => by rw [e, tv] at z; exact absurd z (by decide)
    have g1 := le g hg.2 gv
    rw [ht g g1] at z
    have H := h.2 g ⟨hg.1, g1⟩ z
    have old : ∀ s r : Int32, (∃ x : Int32, (0 ≤ x.toInt ∧ x.toInt < T) ∧ tag x = s ∧ tb x = g ∧ rk x.toNatClampNeg = r) → ∃ x : Int32, (0 ≤ x.toInt ∧ x.toInt < T + 1) ∧ tag' x = s ∧ tb' x = g ∧ upd rk v.toNatClampNeg (rt t.toNatClampNeg) x.toNatClampNeg = r := fun s r ⟨x, x1, x2, x3, x4⟩ => ⟨x, ⟨x1.1, by omega⟩, by rw [ht x x1.2]; exact x2, by rw [hb x x1.2]; exact x3, by rw [upd_ne (nt_24 x1.1 v0 (fun e => by rw [e] at x1; omega))]; exact x4⟩
    refine ⟨fun r r0 r1 => old 1 r (H.1 r r0 r1), fun r r0 r1 => ?_⟩
    by_cases c : g = t
    · rw [c, upd_eq, l1] at r1
      by_cases d : r = rt t.toNatClampNeg
      · exact ⟨v, ⟨v0, by omega⟩, tv, by rw [bv, c], by rw [upd_eq, d]⟩
      · refine old 2 r (H.2 r r0 ?_)
        have : ¬ r.toInt = (rt t.toNatClampNeg).toInt := fun z => d (Int32.toInt_inj.mp z)
        rw [c]
        omega
    · rw [upd_ne (nt_24 hg.1 t0 c)] at r1
      exact old 2 r (H.2 r r0 r1)
end
/-- a row of groups has one number -/
theorem hkS_u24 {κ : zS} {h S x y : Nat} {K : Nat → Int32} {L : Int32} (h1 : hkS9 κ h S K L x) (h2 : hkS9 κ h S K L y) : x = y := by
  obtain ⟨a, j, hj, p, t⟩ := h1
  obtain ⟨a', j', hj', p', t'⟩ := h2
  rcases Nat.lt_trichotomy j j' with c | c | c
  · have z := (p' j c).2
    rw [t] at z
    exact absurd (by rw [show ((x : Int) + 1 - 1).toNat = x by omega]; exact a) z
  · subst c
    omega
  · have z := (p j' c).2
    rw [t'] at z
    exact absurd (by rw [show ((y : Int) + 1 - 1).toNat = y by omega]; exact a') z
/-- at most one group more, and then of this row -/
def nw24 (κ κ' : zS) (g : Nat) (K : Nat → Int32) : Prop := (zI κ' hoTotal g).toInt = (zI κ hoTotal g).toInt ∨ ((zI κ' hoTotal g).toInt = (zI κ hoTotal g).toInt + 1 ∧ hkS9 κ' g 8192 K 3 (zI κ hoTotal g).toInt.toNat)

end
section
set_option maxHeartbeats 1600000
/-! the class: groups keep their ranks -/
theorem Od_tableOf_q6 {C : zC} {n0 : Nat} {a0 : Nat} {a1 : Int32} {a2 : Int32} {κ : zS} {Q : Int32 → zS → Prop} (W : zW C n0 κ) (Ta0 : zT κ a0 = 9) (ml mr : Int) (R9 : gr24 κ a0) (hp : (grI9 κ a0 ∧ tbL9 κ a0 ∧ gI9 κ a0 ml mr) ∧ (0 ≤ ml ∧ 0 ≤ mr) ∧ hoI κ (zR κ atEndings (zR κ odAtlas a0)) 1000 35 2048 ∧ ((zI κ hoTotal (zR κ odGroups a0)).toInt < 3000 ∨ ∃ x, hkS9 κ (zR κ odGroups a0) 8192 (tK9 κ a0 a1 a2) 3 x)) (h : ∀ (v : Int32) (κ' : zS), ((tbS9 κ κ' a0 ∧ gI9 κ' a0 ml mr ∧ (0 ≤ v.toInt ∧ v.toInt < (zI κ' hoTotal (zR κ odGroups a0)).toInt) ∧ hkS9 κ' (zR κ odGroups a0) 8192 (tK9 κ a0 a1 a2) 3 v.toNatClampNeg ∧ ∀ x : Nat, hkS9 κ (zR κ odGroups a0) 8192 (tK9 κ a0 a1 a2) 3 x → tbN9 κ κ' a0 ∧ v.toInt = (x : Int)) ∧ (gr24 κ' a0 ∧ nw24 κ κ' (zR κ odGroups a0) (tK9 κ a0 a1 a2))) → Q v κ') : zRun C 4 mOd_tableOf [.ref a0, .int a1, .int a2] κ (oI Q noX) := by
  refine Od_tableOf_run W Ta0 ?_
  replace W := W.lo (Nat.le_trans W.1.2.1 W.1.2.2) (Nat.le_refl (zn κ))
  unfold w_Od_tableOf_0
  obtain ⟨⟨G0, L0, I0⟩, ⟨m1, m2⟩, E0, H5⟩ := hp
  have tg := ty_odGroups W Ta0
  have ag : a0 ≠ zR κ odGroups a0 := fun z => by rw [← z, Ta0] at tg; exact absurd tg (by decide)
  have tM := G0.1.1.2.1
  have hj31 : ∀ (l0 : Nat) (l3 : Int32) (s0 : Nat) (s1 : Int32) (s2 : Int32) (τ : zS), zW C (zn κ) τ → zT τ l0 = 9 → zT τ s0 = 9 → ((κ = τ ∧ a0 = l0 ∧ l3 = zI κ hoTotal (zR κ odGroups a0) ∧ s0 = a0 ∧ s1 = 0 ∧ k39 s1 s2 0 = tK9 κ a0 a1 a2) ∧ True) → w_Od_tableOf_31 C (zn κ) Q  l0 l3 s0 s1 s2 τ := by
    rintro _ y31_3 y31_s0 y31_s1 y31_s2 _ W31 T31_0 T31_1 ⟨⟨rfl, rfl, j31⟩, hE⟩
    unfold w_Od_tableOf_31
    intro T1
    obtain ⟨jt, rfl, j0, jk⟩ := j31
    refine Od_group_c W31 T1  ?_ (fun r2 κ_3 q4 => ?_)
    · rw [jk]
      exact ⟨G0, H5⟩
    intro W5
    intro M6
    rw [jk] at q4
    obtain ⟨S3, Z3, ⟨v0, v1⟩, hs, tt, dd⟩ := q4
    have wl := gr_w9 W Ta0 Z3 ag (f := odLefts) (by decide +kernel) (by decide) (by decide)
    have wr := gr_w9 W Ta0 Z3 ag (f := odRights) (by decide +kernel) (by decide) (by decide)
    have wk := gr_w9 W Ta0 Z3 ag (f := odRanks) (by decide +kernel) (by decide) (by decide)
    have eg := S3.2.1 odGroups (by decide)
    have T3 : zT κ_3 y31_s0 = 9 := Z3.t Ta0 (by decide)
    have tM3 := S3.2.2.1.1.1.2.1.2
    rw [eg] at tM3
    refine ⟨fun c7 => ?_, fun c7 => ?_⟩
    · skip
      refine h _ _ ?_
      · refine and_5 ?_ (fun o9 => ?_)  -- q2
        · have te : (zI κ_3 hoTotal (zR κ odGroups y31_s0)).toInt = (zI κ hoTotal (zR κ odGroups y31_s0)).toInt := by
            rcases tt with z | z
            · exact z
            · exact absurd (Int32.toInt_inj.mp (by rw [jt]; exact z.2)) c7
          refine ⟨S3, ?_, ⟨v0, v1⟩, hs, fun x H => ⟨⟨te, wl.2.1, wr.2.1, wk.2.1⟩, (dd x H).2⟩⟩
          unfold gI9
          rw [eg, te, wl.1, wr.1, wk.1, wl.2.1, wr.2.1, wk.2.1]
          exact gp_e9 I0 (fun x hx => S3.2.2.2.2.2 x 0 hx) (fun x hx => S3.2.2.2.2.2 x 1 hx)
        · have te : (zI κ_3 hoTotal (zR κ odGroups y31_s0)).toInt = (zI κ hoTotal (zR κ odGroups y31_s0)).toInt := by
            rcases tt with z | z
            · exact z
            · exact absurd (Int32.toInt_inj.mp (by rw [jt]; exact z.2)) c7
          refine ⟨?_, Or.inl te⟩
          unfold gr24
          rw [eg, te, wl.1, wr.1, wk.1, wl.2.1, wr.2.1, wk.2.1]
          exact gR_e24 R9 (fun x hx => S3.2.2.2.2.2 x 0 hx) (fun x hx => S3.2.2.2.2.2 x 1 hx)
    · skip
      refine ⟨?_, ?_⟩
      · rw [inb_iff, wl.1, wl.2.2, L0.1]; omega  -- b3
      intro κ_8 hκ_8
      intro W9
      have r8 : zR κ_8 = zR κ_3 := by rw [hκ_8]; rfl
      have n8 : zN κ_8 = zN κ_3 := by rw [hκ_8]; rfl
      have o8 : zO κ_8 = zO κ_3 := by rw [hκ_8]; rfl
      refine ⟨?_, ?_⟩
      · rw [inb_iff, r8, n8, wr.1, wr.2.2, L0.2.1]; omega  -- b4
      intro κ_10 hκ_10
      intro W11
      refine h _ _ ?_
      · refine and_5 ?_ (fun o9 => ?_)  -- q5
        · have r10 : zR κ_10 = zR κ_3 := by rw [hκ_10]; exact r8
          have n10 : zN κ_10 = zN κ_3 := by rw [hκ_10]; exact n8
          have rv : r2.toInt = (zI κ hoTotal (zR κ odGroups y31_s0)).toInt := by rw [c7, jt]
          have te : (zI κ_3 hoTotal (zR κ odGroups y31_s0)).toInt = (zI κ hoTotal (zR κ odGroups y31_s0)).toInt + 1 := by
            rcases tt with z | z
            · omega
            · exact z.1
          have ol := W5.o (show zr odLefts = some 20 by decide +kernel) (by decide) T3
          have or := W5.o (show zr odRights = some 20 by decide +kernel) (by decide) T3
          have Z10 : zF (fun f b => b = y31_s0 ∧ (f = odLefts ∨ f = odRights ∨ f = odRanks)) κ_3 κ_10 := by
            have a1 : zF (fun f b => b = y31_s0 ∧ (f = odLefts ∨ f = odRights ∨ f = odRanks)) κ_3 κ_8 := by rw [hκ_8]; exact zF_ua (by rw [ol]; exact ⟨rfl, Or.inl rfl⟩)
            have a2 : zF (fun f b => b = y31_s0 ∧ (f = odLefts ∨ f = odRights ∨ f = odRanks)) κ_8 κ_10 := by rw [hκ_10]; exact zF_ua (by rw [r8, o8, or]; exact ⟨rfl, Or.inr (Or.inl rfl)⟩)
            exact a1.tr a2
          have U := tb_u9 W5 T3 S3 Z10 r10 n10
          have nlr := od_ow9 W5 T3 (f := odLefts) (g := odRights) (by decide +kernel) (by decide +kernel) (by decide) (by decide) (by decide)
          have nkl := od_ow9 W5 T3 (f := odRanks) (g := odLefts) (by decide +kernel) (by decide +kernel) (by decide) (by decide) (by decide)
          have nkr := od_ow9 W5 T3 (f := odRanks) (g := odRights) (by decide +kernel) (by decide +kernel) (by decide) (by decide) (by decide)
          have xl : zA κ_10 (zR κ_3 odLefts y31_s0) = upd (zA κ (zR κ odLefts y31_s0)) r2.toNatClampNeg 0 := by
            rw [hκ_10, r8]
            refine (if_neg nlr).trans ?_
            rw [hκ_8]
            refine (if_pos rfl).trans ?_
            rw [wl.1]
            show upd (zA κ_3 (zR κ odLefts y31_s0)) _ _ = _
            rw [wl.2.1]
          have xr : zA κ_10 (zR κ_3 odRights y31_s0) = upd (zA κ (zR κ odRights y31_s0)) r2.toNatClampNeg 0 := by
            rw [hκ_10, r8]
            refine (if_pos rfl).trans ?_
            rw [hκ_8]
            show upd ((ua κ_3 (zR κ_3 odLefts y31_s0) r2.toNatClampNeg 0).2.2.2.2.1 (zR κ_3 odRights y31_s0)) _ _ = _
            have q : (ua κ_3 (zR κ_3 odLefts y31_s0) r2.toNatClampNeg 0).2.2.2.2.1 (zR κ_3 odRights y31_s0) = zA κ_3 (zR κ_3 odRights y31_s0) := if_neg (Ne.symm nlr)
            rw [q, wr.1, wr.2.1]
          have xk : zA κ_10 (zR κ_3 odRanks y31_s0) = zA κ (zR κ odRanks y31_s0) := by
            rw [hκ_10, r8]
            refine (if_neg nkr).trans ?_
            rw [hκ_8]
            refine (if_neg nkl).trans ?_
            show zA κ_3 (zR κ_3 odRanks y31_s0) = _
            rw [wk.1, wk.2.1]
          refine ⟨U.1, ?_, ⟨v0, by rw [U.2.2.2]; exact v1⟩, (U.2.1 _ _ _).mpr hs, fun x H => ?_⟩
          · unfold gI9
            rw [r10, xl, xr, xk, eg, U.2.2.2, U.2.2.1, te]
            refine gp_t9 I0 rv tM.1 (fun x hx => S3.2.2.2.2.2 x 0 hx) (fun x hx => S3.2.2.2.2.2 x 1 hx) ?_ m1 m2
            exact pV9_k (K := tK9 κ y31_s0 a1 a2) v0 hs.1 (by decide) (by decide)
          · have y := (dd x H).1
            omega
        · have r10 : zR κ_10 = zR κ_3 := by rw [hκ_10]; exact r8
          have n10 : zN κ_10 = zN κ_3 := by rw [hκ_10]; exact n8
          have rv : r2.toInt = (zI κ hoTotal (zR κ odGroups y31_s0)).toInt := by rw [c7, jt]
          have te : (zI κ_3 hoTotal (zR κ odGroups y31_s0)).toInt = (zI κ hoTotal (zR κ odGroups y31_s0)).toInt + 1 := by
            rcases tt with z | z
            · omega
            · exact z.1
          have ol := W5.o (show zr odLefts = some 20 by decide +kernel) (by decide) T3
          have or := W5.o (show zr odRights = some 20 by decide +kernel) (by decide) T3
          have Z10 : zF (fun f b => b = y31_s0 ∧ (f = odLefts ∨ f = odRights ∨ f = odRanks)) κ_3 κ_10 := by
            have a1 : zF (fun f b => b = y31_s0 ∧ (f = odLefts ∨ f = odRights ∨ f = odRanks)) κ_3 κ_8 := by rw [hκ_8]; exact zF_ua (by rw [ol]; exact ⟨rfl, Or.inl rfl⟩)
            have a2 : zF (fun f b => b = y31_s0 ∧ (f = odLefts ∨ f = odRights ∨ f = odRanks)) κ_8 κ_10 := by rw [hκ_10]; exact zF_ua (by rw [r8, o8, or]; exact ⟨rfl, Or.inr (Or.inl rfl)⟩)
            exact a1.tr a2
          have U := tb_u9 W5 T3 S3 Z10 r10 n10
          have nlr := od_ow9 W5 T3 (f := odLefts) (g := odRights) (by decide +kernel) (by decide +kernel) (by decide) (by decide) (by decide)
          have nkl := od_ow9 W5 T3 (f := odRanks) (g := odLefts) (by decide +kernel) (by decide +kernel) (by decide) (by decide) (by decide)
          have nkr := od_ow9 W5 T3 (f := odRanks) (g := odRights) (by decide +kernel) (by decide +kernel) (by decide) (by decide) (by decide)
          have xl : zA κ_10 (zR κ_3 odLefts y31_s0) = upd (zA κ (zR κ odLefts y31_s0)) r2.toNatClampNeg 0 := by
            rw [hκ_10, r8]
            refine (if_neg nlr).trans ?_
            rw [hκ_8]
            refine (if_pos rfl).trans ?_
            rw [wl.1]
            show upd (zA κ_3 (zR κ odLefts y31_s0)) _ _ = _
            rw [wl.2.1]
          have xr : zA κ_10 (zR κ_3 odRights y31_s0) = upd (zA κ (zR κ odRights y31_s0)) r2.toNatClampNeg 0 := by
            rw [hκ_10, r8]
            refine (if_pos rfl).trans ?_
            rw [hκ_8]
            show upd ((ua κ_3 (zR κ_3 odLefts y31_s0) r2.toNatClampNeg 0).2.2.2.2.1 (zR κ_3 odRights y31_s0)) _ _ = _
            have q : (ua κ_3 (zR κ_3 odLefts y31_s0) r2.toNatClampNeg 0).2.2.2.2.1 (zR κ_3 odRights y31_s0) = zA κ_3 (zR κ_3 odRights y31_s0) := if_neg (Ne.symm nlr)
            rw [q, wr.1, wr.2.1]
          have xk : zA κ_10 (zR κ_3 odRanks y31_s0) = zA κ (zR κ odRanks y31_s0) := by
            rw [hκ_10, r8]
            refine (if_neg nkr).trans ?_
            rw [hκ_8]
            refine (if_neg nkl).trans ?_
            show zA κ_3 (zR κ_3 odRanks y31_s0) = _
            rw [wk.1, wk.2.1]
          refine ⟨?_, by unfold nw24; rw [U.2.2.2]; exact Or.inr ⟨te, (U.2.1 _ _ _).mpr (by rw [← rv]; exact hs)⟩⟩
          unfold gr24
          rw [r10, xl, xr, xk, eg, U.2.2.2, U.2.2.1, te]
          exact gR_t24 R9 rv tM.1 (fun x hx => S3.2.2.2.2.2 x 0 hx) (fun x hx => S3.2.2.2.2.2 x 1 hx) (pV9_k (K := tK9 κ y31_s0 a1 a2) v0 hs.1 (by decide) (by decide))
  intro x12 hx12
  refine ⟨fun c13 => ?_, fun c13 => ?_⟩
  · skip
    intro T14
    refine Ho_part_c2 W T14 1000 35 2048 ?_ (fun r15 q17 => ?_)
    · exact ⟨E0, Or.inr (Or.inl ⟨rfl, rfl, rfl⟩)⟩  -- p6
    intro W18
    intro M19
    refine hj31 _ _ _ _ _ _ W18 ?_ ?_ ?_
    · exact Ta0  -- t7
    · exact Ta0  -- t8
    · refine and_5 ?_ (fun o9 => trivial)  -- k9
      refine ⟨rfl, rfl, hx12, rfl, rfl, ?_⟩
      unfold tK9
      rw [if_neg c13, q17]
  · skip
    refine hj31 _ _ _ _ _ _ W ?_ ?_ ?_
    · exact Ta0  -- t10
    · exact Ta0  -- t11
    · refine and_5 ?_ (fun o9 => trivial)  -- k12
      refine ⟨rfl, rfl, hx12, rfl, rfl, ?_⟩
      unfold tK9
      rw [if_pos c13]

theorem Od_rankOf1_q6 {C : zC} {n0 : Nat} {a0 : Nat} {a1 : Int32} {a2 : Int32} {a3 : Int32} {a4 : Nat} {κ : zS} {Q : Int32 → zS → Prop} (W : zW C n0 κ) (Ta0 : zT κ a0 = 9) (Ta4 : zT κ a4 = 20) (ml mr : Int) (R9 : gr24 κ a0) (hp : (grI9 κ a0 ∧ tbL9 κ a0 ∧ gI9 κ a0 ml mr) ∧ (ml < 100000 ∧ mr < 100000) ∧ (a1 = 1 ∧ a4 = zR κ odLefts a0) ∧ (0 ≤ a2.toInt ∧ a2.toInt < (zI κ hoTotal (zR κ odGroups a0)).toInt ∧ pV9 κ (zR κ odGroups a0) a2 0 = 0) ∧ ((zI κ hoTotal (zR κ odGroups a0)).toInt < 3000 ∨ ∃ x, hkS9 κ (zR κ odGroups a0) 8192 (k39 1 a2 a3) 3 x)) (h : ∀ (v : Int32) (κ' : zS), ((∃ x : Int32, (tbS9 κ κ' a0 ∧ gI9 κ' a0 (ml + 1) mr ∧ (0 ≤ x.toInt ∧ x.toInt < (zI κ' hoTotal (zR κ odGroups a0)).toInt) ∧ hkS9 κ' (zR κ odGroups a0) 8192 (k39 1 a2 a3) 3 x.toNatClampNeg ∧ ∀ y : Nat, hkS9 κ (zR κ odGroups a0) 8192 (k39 1 a2 a3) 3 y → tbN9 κ κ' a0 ∧ x.toInt = (y : Int)) ∧ v = zA κ' (zR κ' odRanks a0) x.toNatClampNeg) ∧ (gr24 κ' a0 ∧ nw24 κ κ' (zR κ odGroups a0) (k39 1 a2 a3))) → Q v κ') : zRun C 4 mOd_rankOf [.ref a0, .int a1, .int a2, .int a3, .ref a4] κ (oI Q noX) := by
  refine Od_rankOf_run W Ta0 Ta4 ?_
  replace W := W.lo (Nat.le_trans W.1.2.1 W.1.2.2) (Nat.le_refl (zn κ))
  unfold w_Od_rankOf_0
  obtain ⟨⟨G0, L0, I0⟩, ⟨m1, m2⟩, ⟨ea1, ea4⟩, ⟨t0, t1, tg0⟩, H5⟩ := hp
  subst ea1
  have tg := ty_odGroups W Ta0
  have ag : a0 ≠ zR κ odGroups a0 := fun z => by rw [← z, Ta0] at tg; exact absurd tg (by decide)
  have tM := G0.1.1.2.1
  have k2 := cnk t0
  have hj44 : ∀ (l0 : Nat) (l6 : Int32) (τ : zS), zW C (zn κ) τ → zT τ l0 = 9 → ((a0 = l0 ∧ tbS9 κ τ a0 ∧ gI9 τ a0 (ml + 1) mr ∧ (0 ≤ l6.toInt ∧ l6.toInt < (zI τ hoTotal (zR κ odGroups a0)).toInt) ∧ hkS9 τ (zR κ odGroups a0) 8192 (k39 1 a2 a3) 3 l6.toNatClampNeg ∧ ∀ y : Nat, hkS9 κ (zR κ odGroups a0) 8192 (k39 1 a2 a3) 3 y → tbN9 κ τ a0 ∧ l6.toInt = (y : Int)) ∧ gr24 τ a0 ∧ nw24 κ τ (zR κ odGroups a0) (k39 1 a2 a3)) → w_Od_rankOf_44 C (zn κ) Q  l0 l6 τ := by
    rintro _ y44_6 τ44 W44 T44_0 ⟨⟨rfl, j44⟩, hE⟩
    unfold w_Od_rankOf_44
    refine ⟨?_, ?_⟩
    · have q := j44.1.2.2.1.1.1.2.1.2
      rw [j44.1.2.1 odGroups (by decide)] at q
      rw [inb_iff, (tb_l9 W Ta0 j44.1 L0).2.2.2.1]
      exact ⟨j44.2.2.1.1, Int.lt_of_lt_of_le j44.2.2.1.2 q⟩
    refine h _ _ ?_
    · refine and_5 ?_ (fun o9 => hE)  -- q2
      exact ⟨y44_6, j44, rfl⟩
  intro x1 hx1
  intro T2
  refine Od_group_c W T2  ?_ (fun r3 κ_4 q5 => ?_)
  · exact ⟨G0, H5⟩  -- p3
  intro W6
  intro M7
  obtain ⟨S3, Z3, ⟨v0, v1⟩, hs, tt, dd⟩ := q5
  have wl := gr_w9 W Ta0 Z3 ag (f := odLefts) (by decide +kernel) (by decide) (by decide)
  have wr := gr_w9 W Ta0 Z3 ag (f := odRights) (by decide +kernel) (by decide) (by decide)
  have wk := gr_w9 W Ta0 Z3 ag (f := odRanks) (by decide +kernel) (by decide) (by decide)
  have eg := S3.2.1 odGroups (by decide)
  have T3 : zT κ_4 a0 = 9 := Z3.t Ta0 (by decide)
  have tM3 := S3.2.2.1.1.1.2.1.2
  rw [eg] at tM3
  refine ⟨fun c8 => ?_, fun c8 => ?_⟩
  · skip
    refine hj44 _ _ _ W6 ?_ ?_
    · exact T3  -- t4
    · refine and_5 ?_ (fun o9 => ?_)  -- k5
      · have te : (zI κ_4 hoTotal (zR κ odGroups a0)).toInt = (zI κ hoTotal (zR κ odGroups a0)).toInt := by
          rcases tt with z | z
          · exact z
          · exact absurd (Int32.toInt_inj.mp (by rw [hx1]; exact z.2)) c8
        refine ⟨rfl, S3, ?_, ⟨v0, v1⟩, hs, fun x H => ⟨⟨te, wl.2.1, wr.2.1, wk.2.1⟩, (dd x H).2⟩⟩
        unfold gI9
        rw [eg, te, wl.1, wr.1, wk.1, wl.2.1, wr.2.1, wk.2.1]
        exact gp_m9 (gp_e9 I0 (fun x hx => S3.2.2.2.2.2 x 0 hx) (fun x hx => S3.2.2.2.2.2 x 1 hx)) (by omega) (Int.le_refl _)
      · have te : (zI κ_4 hoTotal (zR κ odGroups a0)).toInt = (zI κ hoTotal (zR κ odGroups a0)).toInt := by
          rcases tt with z | z
          · exact z
          · exact absurd (Int32.toInt_inj.mp (by rw [hx1]; exact z.2)) c8
        refine ⟨?_, Or.inl te⟩
        unfold gr24
        rw [eg, te, wl.1, wr.1, wk.1, wl.2.1, wr.2.1, wk.2.1]
        exact gR_e24 R9 (fun x hx => S3.2.2.2.2.2 x 0 hx) (fun x hx => S3.2.2.2.2.2 x 1 hx)
  · skip
    refine ⟨?_, ?_⟩
    · rw [inb_iff, ea4, wl.2.2, L0.1]; omega  -- b6
    refine ⟨?_, ?_⟩
    · rw [inb_iff, wk.1, wk.2.2, L0.2.2.2.1]; omega  -- b7
    intro κ_9 hκ_9
    intro W10
    have r8 : zR κ_9 = zR κ_4 := by rw [hκ_9]; rfl
    have n8 : zN κ_9 = zN κ_4 := by rw [hκ_9]; rfl
    have o8 : zO κ_9 = zO κ_4 := by rw [hκ_9]; rfl
    refine ⟨?_, ?_⟩
    · rw [inb_iff, n8, ea4, wl.2.2, L0.1]; omega  -- b8
    refine ⟨?_, ?_⟩
    · rw [inb_iff, n8, ea4, wl.2.2, L0.1]; omega  -- b9
    intro κ_11 hκ_11
    intro W12
    have r10 : zR κ_11 = zR κ_4 := by rw [hκ_11]; exact r8
    have n10 : zN κ_11 = zN κ_4 := by rw [hκ_11]; exact n8
    have rv : r3.toInt = (zI κ hoTotal (zR κ odGroups a0)).toInt := by rw [c8, hx1]
    have te : (zI κ_4 hoTotal (zR κ odGroups a0)).toInt = (zI κ hoTotal (zR κ odGroups a0)).toInt + 1 := by
      rcases tt with z | z
      · omega
      · exact z.1
    have ol := W6.o (show zr odLefts = some 20 by decide +kernel) (by decide) T3
    have ok := W6.o (show zr odRanks = some 20 by decide +kernel) (by decide) T3
    rw [wl.1] at ol
    rw [ea4] at hκ_11 hκ_9
    have Z10 : zF (fun f b => b = a0 ∧ (f = odLefts ∨ f = odRights ∨ f = odRanks)) κ_4 κ_11 := by
      have a1 : zF (fun f b => b = a0 ∧ (f = odLefts ∨ f = odRights ∨ f = odRanks)) κ_4 κ_9 := by rw [hκ_9]; exact zF_ua (by rw [ok]; exact ⟨rfl, Or.inr (Or.inr rfl)⟩)
      have a2 : zF (fun f b => b = a0 ∧ (f = odLefts ∨ f = odRights ∨ f = odRanks)) κ_9 κ_11 := by rw [hκ_11]; exact zF_ua (by rw [o8, ol]; exact ⟨rfl, Or.inl rfl⟩)
      exact a1.tr a2
    have U := tb_u9 W6 T3 S3 Z10 r10 n10
    have nrl := od_ow9 W6 T3 (f := odRights) (g := odLefts) (by decide +kernel) (by decide +kernel) (by decide) (by decide) (by decide)
    have nkl := od_ow9 W6 T3 (f := odRanks) (g := odLefts) (by decide +kernel) (by decide +kernel) (by decide) (by decide) (by decide)
    have nkr := od_ow9 W6 T3 (f := odRanks) (g := odRights) (by decide +kernel) (by decide +kernel) (by decide) (by decide) (by decide)
    rw [wr.1, wl.1] at nrl
    rw [wk.1, wl.1] at nkl
    rw [wk.1, wr.1] at nkr
    rw [wk.1] at hκ_9
    have x9 : zA κ_9 (zR κ odLefts a0) = zA κ (zR κ odLefts a0) := by
      rw [hκ_9]
      exact (if_neg (Ne.symm nkl)).trans wl.2.1
    have xl : zA κ_11 (zR κ odLefts a0) = upd (zA κ (zR κ odLefts a0)) a2.toNatClampNeg (zA κ (zR κ odLefts a0) a2.toNatClampNeg + 1) := by
      rw [hκ_11]
      refine (if_pos rfl).trans ?_
      show upd (zA κ_9 (zR κ odLefts a0)) _ (zA κ_9 (zR κ odLefts a0) _ + 1) = _
      rw [x9]
    have xr : zA κ_11 (zR κ odRights a0) = zA κ (zR κ odRights a0) := by
      rw [hκ_11]
      refine (if_neg nrl).trans ?_
      rw [hκ_9]
      exact (if_neg (Ne.symm nkr)).trans wr.2.1
    have xk : zA κ_11 (zR κ odRanks a0) = upd (zA κ (zR κ odRanks a0)) r3.toNatClampNeg (zA κ (zR κ odLefts a0) a2.toNatClampNeg) := by
      rw [hκ_11]
      refine (if_neg nkl).trans ?_
      rw [hκ_9]
      refine (if_pos rfl).trans ?_
      show upd (zA κ_4 (zR κ odRanks a0)) _ (zA κ_4 (zR κ odLefts a0) _) = _
      rw [wk.2.1, wl.2.1]
    refine hj44 _ _ _ W12 ?_ ?_
    · exact Z10.t T3 (by decide)  -- t10
    · refine and_5 ?_ (fun o9 => ?_)  -- k11
      · refine ⟨rfl, U.1, ?_, ⟨v0, by rw [U.2.2.2]; exact v1⟩, (U.2.1 _ _ _).mpr hs, fun x H => ?_⟩
        · unfold gI9
          rw [r10, wl.1, wr.1, wk.1, xl, xr, xk, eg, U.2.2.2, U.2.2.1, te]
          refine gp_l9 I0 rv tM.1 (fun x hx => S3.2.2.2.2.2 x 0 hx) (fun x hx => S3.2.2.2.2.2 x 1 hx) ?_ ?_ t0 t1 tg0 m1
          · exact pV9_k (K := k39 1 a2 a3) v0 hs.1 (by decide) (by decide)
          · exact pV9_k (K := k39 1 a2 a3) v0 hs.1 (by decide) (by decide)
        · have y := (dd x H).1
          omega
      · refine ⟨?_, by unfold nw24; rw [U.2.2.2]; exact Or.inr ⟨te, (U.2.1 _ _ _).mpr (by rw [← rv]; exact hs)⟩⟩
        unfold gr24
        rw [r10, wl.1, wr.1, wk.1, xl, xr, xk, eg, U.2.2.2, U.2.2.1, te]
        refine gR_l24 R9 I0 m1 rv tM.1 (fun x hx => S3.2.2.2.2.2 x 0 hx) (fun x hx => S3.2.2.2.2.2 x 1 hx) ?_ ?_ t0 t1 tg0
        · exact pV9_k (K := k39 1 a2 a3) v0 hs.1 (by decide) (by decide)
        · exact pV9_k (K := k39 1 a2 a3) v0 hs.1 (by decide) (by decide)

end
