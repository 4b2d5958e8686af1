set_option maxHeartbeats 1600000
/-! the class: ChanceWorks' independent, given -/
/-- behind arrange -/
theorem chI_a9 {C : zC} {n0 a : Nat} {L : Int} {ρ : Nat → Nat} {κ τ : zS} (W : zW C n0 κ) (T : zT κ a = 15) (Z : zF (arO9 (zR κ chOdds a) (zR κ odGroups (zR κ chOdds a))) κ τ) (hG : hoI τ (zR κ odGroups (zR κ chOdds a)) 3000 3 8192 ∧ (zN τ (zR τ odKey (zR κ chOdds a))) = 3) (hT : tbL9 τ (zR κ chOdds a) ∧ (zN τ (zR τ odLinks (zR κ chOdds a))) ≤ 20000) (hE : eO9 κ τ (zR κ chOdds a)) (I : chI9 ρ κ a L) : (chI9 ρ τ a L ∧ (∃ F, zF F κ τ) ∧ oC9 τ a = oC9 κ a) ∧ (∀ n, atW τ (zR κ chAtlas a) n ↔ atW κ (zR κ chAtlas a) n) ∧ zI τ soSolved (zR κ chSolver a) = zI κ soSolved (zR κ chSolver a) ∧ (∀ f, f / 100 = 15 → zR τ f a = zR κ f a) := by
  obtain ⟨⟨A1, ⟨⟨A2, A3⟩, A4⟩, A5, A6⟩, B, ⟨C1, C2, C3, C4⟩, ⟨S1, S2⟩, ⟨D1, D2, D3, ⟨D4, D5⟩, D6, D7⟩, E0, L0, K0⟩ := I
  have tA := ty_chAtlas W T
  have tS := ty_chSolver W T
  have tO := ty_chOdds W T
  have tm := ty_chMachine W T
  have tG := ty_odGroups W tO
  have n6 : ∀ x K, zT κ x = K → K ≠ 9 → x ≠ zR κ odGroups (zR κ chOdds a) → ∀ f, ¬ arO9 (zR κ chOdds a) (zR κ odGroups (zR κ chOdds a)) f x := fun x K h1 h2 h3 f z => by
    rcases z with z | z
    · rw [z.1, tO] at h1; exact h2 h1.symm
    · exact h3 z.1
  have no : ∀ x K, zT κ x = K → K ≠ 9 ∧ K ≠ 6 → ∀ f, ¬ arO9 (zR κ chOdds a) (zR κ odGroups (zR κ chOdds a)) f x := fun x K h1 h2 => n6 x K h1 h2.1 (fun e => by rw [e, tG] at h1; exact h2.2 h1.symm)
  have nO : ∀ f, f < 905 → ¬ arO9 (zR κ chOdds a) (zR κ odGroups (zR κ chOdds a)) f (zR κ chOdds a) := fun f hf z => by
    rcases z with z | z
    · have y := z.2.1
      omega
    · have y := z.1
      rw [← y, tO] at tG; exact absurd tG (by decide)
  have E := chE_u9 W T Z (fun f _ => no a 15 T (by decide) f) E0
  have o := E.2.1
  have ma : maL κ (zR κ chMachine a) := by
    have y := B.1.2.1
    rw [B.2.1] at y
    exact y
  have hB := chB_u9 W T Z (fun f hf _ _ => o f hf) (fun f _ => no _ 3 tA (by decide) f) (fun f _ => n6 _ 6 (ty_atStates W tA) (by decide) D7.1 f) (fun f _ => n6 _ 6 (ty_atEndings W tA) (by decide) D7.2 f) (fun f _ => no _ 14 (ty_atWeb W tA) (by decide) f) (fun _ f _ => no _ 5 (ty_atCode W tA) (by decide) f) (ma_u9 Z W tm (fun f _ => no _ 7 tm (by decide) f) ma) B
  have nS : ∀ f, ¬ arO9 (zR κ chOdds a) (zR κ odGroups (zR κ chOdds a)) f (zR κ chSolver a) := no _ 12 tS (by decide)
  have hS := rs_h9 W tS C1 Z (fun f w y => no w 8 y (by decide) f) (fun f w y => no w 11 y (by decide) f) (fun f w y => no w 4 y (by decide) f) (fun f _ _ => nS f)
  have P := pa_u9 Z W (ty_chParser W T) (fun f _ => no _ 10 (ty_chParser W T) (by decide) f) A5
  have K1 := co_u9 Z W (ty_chCode W T) (fun f _ => no _ 5 (ty_chCode W T) (by decide) f)
  have K2 := co_u9 Z W (ty_chSpare W T) (fun f _ => no _ 5 (ty_chSpare W T) (by decide) f)
  have A := ta_u9 Z W (ty_chTape W T) (fun f _ => no _ 13 (ty_chTape W T) (by decide) f) A1
  have rS : ∀ f, zR τ f (zR κ chSolver a) = zR κ f (zR κ chSolver a) := fun f => Z.r (nS f)
  have iS : ∀ f, zI τ f (zR κ chSolver a) = zI κ f (zR κ chSolver a) := fun f => Z.i (nS f)
  have nv : zN τ (zR κ soVisits (zR κ chSolver a)) = zN κ (zR κ soVisits (zR κ chSolver a)) := Z.l (ty_soVisits W tS)
  have qw := (Z.row W (show zr soWorths = some 25 by decide +kernel) (by decide) (tS.trans (by decide)) (nS _)).2.2
  rw [rS] at qw
  have nw : zN τ (zR κ soWorths (zR κ chSolver a)) = zN κ (zR κ soWorths (zR κ chSolver a)) := Z.l (ty_soWorths W tS)
  refine ⟨⟨⟨⟨?_, ?_, ?_⟩, hB.1, ?_, ?_, ?_, E.1, ?_, ?_⟩, ⟨_, Z⟩, oC_v9 W T Z (fun f _ => no a 15 T (by decide) f) (fun f _ => no _ 13 (ty_chTape W T) (by decide) f)⟩, hB.2.1, iS _, o⟩
  · rw [o chTape (by decide)]; exact A.1
  · rw [o chCode (by decide), o chSpare (by decide)]
    exact ⟨⟨K1.1 A2, K2.1 A3⟩, A4⟩
  · rw [o chParser (by decide), o chTape (by decide)]
    exact ⟨P.1, P.2.trans A6⟩
  · unfold chC9
    rw [o chSolver (by decide), o chAtlas (by decide), o chShown (by decide), rS, rS, rS, Z.l (ty_soTaken W tS), hB.2.2.2 atWeb (by decide)]
    exact ⟨hS.1, C2, C3, C4⟩
  · unfold chS9
    rw [o chSolver (by decide), o chAtlas (by decide), iS, iS, rS, rS, nv, nw, qw, hB.2.2.1]
    refine ⟨fun z => ?_, fun z => ?_⟩
    · obtain ⟨x1, P9, x2, x3⟩ := S1 z
      refine ⟨x1, P9, x2, fun n hn => ?_⟩
      have y := x3 n ((hB.2.1 n).mp hn)
      exact ⟨vs_h9 W tS Z (fun f w y => no w 8 y (by decide) f) (fun f w y => no w 11 y (by decide) f) (fun f w y => no w 3 y (by decide) f) nS y.1, y.2⟩
    · obtain ⟨x1, x3⟩ := S2 z
      exact ⟨x1, fun n hn => x3 n ((hB.2.1 n).mp hn)⟩
  · unfold chD9
    rw [o chSolver (by decide), o chAtlas (by decide), o chOdds (by decide), Z.r (nO odAtlas (by decide)), Z.r (nO odSolver (by decide)), Z.r (nO odCalc (by decide)), Z.r (nO odHeld (by decide)), Z.r (nO odGroups (by decide)), rS, hB.2.2.2 atStates (by decide), hB.2.2.2 atEndings (by decide)]
    exact ⟨D1, D2, ⟨Or.inr hT.1, hT.2⟩, hG, fun j u hj hu => D6 j u hj (hE.1 j u hu), D7⟩
  · rw [o chTape (by decide), A.2]; exact L0
  · exact cK_z9 W T Z (o chSolver (by decide)) (o chOdds (by decide)) (fun b hb => no b 0 (zT_o9 W hb) (by decide) 0) (fun f _ => nS f) hE.2 K0
/-- a Solver at rest, whose rows are not touched, with roles that grew -/
theorem soR_r9 {C : zC} {n0 s : Nat} {ρ ρ' : Nat → Nat} {F : Nat → Nat → Prop} {κ τ : zS} (W : zW C n0 κ) (Ts : zT κ s = 12) (Z : zF F κ τ) (n : un9 F s 12) (hρ : ∀ b, b < zn κ → ρ' b = ρ b) (N : nmI ρ' τ ∧ soI ρ' τ s) (hl : nuN τ (zR τ soLess s) < pB9 4000) (S : soR9 ρ κ s) : soR9 ρ' τ s := by
  obtain ⟨_, K, L, ⟨v1, v2⟩, ⟨w1, w2⟩, r, _⟩ := S
  have lt : ∀ x, zT κ x ≠ 0 → x < zn κ := fun x h => (W.2.1 x h).2
  have row : ∀ f t, zr f = some t → 20 ≤ t → f / 100 = 12 → zQ τ (zR τ f s) = zQ κ (zR κ f s) ∧ zN τ (zR τ f s) = zN κ (zR κ f s) := fun f t h1 h2 h3 => by
    have T9 : zT κ s = f / 100 := by rw [h3]; exact Ts
    refine ⟨(Z.row W h1 h2 T9 (n f h3)).2.2, ?_⟩
    have q := W.r h1 T9
    obtain ⟨c, hc⟩ : ∃ c, t = c + 1 := ⟨t - 1, by omega⟩
    rw [Z.r (n f h3)]
    exact Z.l (c := c) (q.trans hc)
  have rv := row soVisits 25 (by decide +kernel) (by decide) (by decide)
  have rw9 := row soWorths 25 (by decide +kernel) (by decide) (by decide)
  have rc := row soCells 24 (by decide +kernel) (by decide) (by decide)
  have rr := row soRows 20 (by decide +kernel) (by decide) (by decide)
  refine ⟨N, fun i u hi hu => ?_, by rw [rc.2]; exact L, ⟨fun j u hj hu => ?_, by rw [rv.2]; exact v2⟩, ⟨fun j u hj hu => ?_, by rw [rw9.2]; exact w2⟩, by rw [rr.2]; exact r, hl⟩
  · rw [rc.1] at hu
    have t := W.2.2.2.1 _ _ _ (ty_soCells W Ts) hu
    rw [hρ u (lt u (by rw [t]; decide))]
    exact K i u hi hu
  · rw [rv.1] at hu
    have t := W.2.2.2.2.1 _ _ _ (ty_soVisits W Ts) hu
    rw [hρ u (lt u (by rw [t]; decide))]
    exact v1 j u hj hu
  · rw [rw9.1] at hu
    have t := W.2.2.2.2.1 _ _ _ (ty_soWorths W Ts) hu
    rw [hρ u (lt u (by rw [t]; decide))]
    exact w1 j u hj hu
/-- behind tablesAgree -/
theorem ch_g9 {C : zC} {n0 a n P : Nat} {L : Int} {ρ ρ' : Nat → Nat} {κ τ : zS} (W : zW C n0 κ) (T : zT κ a = 15) (I : chI9 ρ κ a L) (hP : 0 < P ∧ P < pB9 1490) (G : roH9 ρ κ τ (zR κ chOdds a) n P ρ') (sol : zI κ soSolved (zR κ chSolver a) ≠ 0) : chI9 ρ' τ a L ∧ (∃ F, zF F κ τ) ∧ oC9 τ a = oC9 κ a := by
  obtain ⟨hρ, A, Z, e9, ke⟩ := G
  have tA := ty_chAtlas W T
  have tS := ty_chSolver W T
  have tO := ty_chOdds W T
  have tm := ty_chMachine W T
  have B := I.2.1
  obtain ⟨⟨d1, d2, d3⟩, D2, D3, ⟨D4, D5⟩, D6, D7⟩ := I.2.2.2.2.1
  have un : ∀ x K, zT κ x = K → (K ≠ 8 ∧ K ≠ 11 ∧ K ≠ 4) ∧ K ≠ 9 ∧ K ≠ 0 → un9 (roF9 ρ κ (zR κ chOdds a)) x K := fun x K h1 h2 f hf => ro_n9 (c := K - 1) W (by omega) (by rw [hf]; exact h2.1) (fun e => by
    have y : odEdges / 100 = 9 := rfl
    rw [e, y] at hf
    omega)
  have hO : ∀ f, f / 100 = 15 → zR τ f a = zR κ f a := fun f hf => Z.r (un a 15 T (by decide) f hf)
  have ma : maL κ (zR κ chMachine a) := by
    have y := B.1.2.1
    rw [B.2.1] at y
    exact y
  have hB := chB_u9 W T Z (fun f hf _ _ => hO f hf) (un _ 3 tA (by decide)) (un _ 6 (ty_atStates W tA) (by decide)) (un _ 6 (ty_atEndings W tA) (by decide)) (un _ 14 (ty_atWeb W tA) (by decide)) (fun _ => un _ 5 (ty_atCode W tA) (by decide)) (ma_u9 Z W tm (un _ 7 tm (by decide)) ma) B
  have rO : ∀ f, f / 100 = 9 → zR τ f (zR κ chOdds a) = zR κ f (zR κ chOdds a) := fun f hf => e9 f (Or.inl hf) _ 8 tO
  have rS : ∀ f, f / 100 = 12 → zR τ f (zR κ chSolver a) = zR κ f (zR κ chSolver a) := fun f hf => e9 f (Or.inr hf) _ 11 tS
  have nS := un _ 12 tS (by decide)
  have iS : ∀ f, f / 100 = 12 → zI τ f (zR κ chSolver a) = zI κ f (zR κ chSolver a) := fun f hf => Z.i (nS f hf)
  obtain ⟨N, X, ⟨l1, _, _⟩, ⟨_, lL⟩, Eg, _⟩ := A
  rw [rO odSolver (by decide), d2] at N lL
  obtain ⟨_, _, ⟨x4, x5⟩, x6, _, _⟩ := X
  rw [rO odSolver (by decide), d2] at x5 x6
  rw [rO odAtlas (by decide), d1] at x4
  have qw := (Z.row W (show zr soWorths = some 25 by decide +kernel) (by decide) (tS.trans (by decide)) (nS _ (by decide))).2.2
  rw [rS soWorths (by decide)] at qw
  refine chI_b9 W T Z (fun x K h1 h2 => un x K h1 (by omega)) hB.1 ⟨hB.2.2.2 _ (by decide), hB.2.2.2 _ (by decide), hB.2.2.2 _ (by decide)⟩ hρ ⟨soR_r9 W tS Z nS hρ N lL I.2.2.1.1, ?_, rS _ (by decide), rS _ (by decide), rS _ (by decide)⟩ ?_ ⟨rO, ⟨Or.inr l1, ?_, ?_⟩, fun j u hj hu => Eg j u hj (by rw [rO odEdges (by decide)]; exact hu)⟩ (cK_e9 W T Z (hO chSolver (by decide)) (hO chOdds (by decide)) (fun f hf => nS f (by rcases hf with y | y | y <;> rw [y] <;> rfl)) ke I.2.2.2.2.2.2.2) I
  · rw [rS soTaken (by decide), Z.l (ty_soTaken W tS)]
    exact I.2.2.1.2.1
  · unfold chS9
    rw [hO chSolver (by decide), hO chAtlas (by decide), hB.2.2.1, iS soPlanned (by decide), rS soWorths (by decide), qw, Z.l (ty_soWorths W tS)]
    refine ⟨fun z => ⟨(I.2.2.2.1.1 sol).1, P, hP, fun m hm => ?_⟩, fun z => ?_⟩
    · have e : m = n := by
        have y1 := hm.2.2.2.1
        have y2 := x4.2.2.2.1
        omega
      rw [e]
      exact ⟨x6, x5⟩
    · obtain ⟨y1, y3⟩ := I.2.2.2.1.2 z
      exact ⟨y1, fun m hm => y3 m ((hB.2.1 m).mp hm)⟩
  · rw [rO odLinks (by decide), Z.l (ty_odLinks W tO)]
    exact D3.2
  · rw [rO odKey (by decide), Z.l (ty_odKey W tO)]
    exact D5
/-- what arrange needs -/
theorem ar_p9 {a n P : Nat} {L : Int} {ρ : Nat → Nat} {κ : zS} (I : chI9 ρ κ a L) (sol : zI κ soSolved (zR κ chSolver a) ≠ 0) (X : odX9 ρ κ (zR κ chOdds a) n P) : odX9 ρ κ (zR κ chOdds a) n P ∧ ((odU9 κ (zR κ chOdds a) ∨ tbL9 κ (zR κ chOdds a)) ∧ (zN κ (zR κ odLinks (zR κ chOdds a))) ≤ 20000 ∧ 0 ≤ (zI κ atNexts (zR κ odAtlas (zR κ chOdds a))).toInt) ∧ (hoI κ (zR κ odGroups (zR κ chOdds a)) 3000 3 8192 ∧ (zN κ (zR κ odKey (zR κ chOdds a))) = 3) ∧ (zR κ atStates (zR κ odAtlas (zR κ chOdds a)) ≠ zR κ odGroups (zR κ chOdds a) ∧ zR κ atEndings (zR κ odAtlas (zR κ chOdds a)) ≠ zR κ odGroups (zR κ chOdds a)) := by
  obtain ⟨⟨d1, d2, d3⟩, D2, D3, D4, D6, D7⟩ := I.2.2.2.2.1
  have ex := (I.2.2.2.1.1 sol).1
  rw [d1]
  exact ⟨X, ⟨D3.1, D3.2, (I.2.1.2.2 ex).1.2⟩, D4, D7⟩
/-- what tablesAgree needs -/
theorem ta_p9 {C : zC} {n0 a n m P : Nat} {L : Int} {ρ : Nat → Nat} {κ : zS} (W : zW C n0 κ) (T : zT κ a = 15) (I : chI9 ρ κ a L) (X : odX9 ρ κ (zR κ chOdds a) n P ∧ (0 < P ∧ P < pB9 1490)) (G : agP9 κ (zR κ chOdds a) m) (e : m = n) : agD9 ρ κ (zR κ chOdds a) n P ∧ (0 < P ∧ P < pB9 1490) ∧ (grI9 κ (zR κ chOdds a) ∧ gI9 κ (zR κ chOdds a) 1000 1000) ∧ (∃ c : Int, c ≤ 1000 ∧ plC9 κ κ (zR κ chOdds a) ((zI κ hoTotal (zR κ odGroups (zR κ chOdds a))).toInt) c) := by
  subst e
  obtain ⟨⟨d1, d2, d3⟩, D2, D3, D4, D6, D7⟩ := I.2.2.2.2.1
  obtain ⟨⟨g1, g2, g3⟩, g4, g5, g6⟩ := G
  have S := I.2.2.1.1
  refine ⟨⟨?_, X.1, ⟨g2, g4, g5⟩, ⟨trivial, ?_⟩, D6, ?_⟩, X.2, ⟨g1, g3⟩, g6⟩
  · rw [d2]; exact S.1
  · rw [d2]; exact S.2.2.2.2.2.2
  · rw [d1]; exact D7
theorem Ch_independent_c {C : zC} {n0 : Nat} {a0 : Nat} {a1 : Int32} {a2 : Int32} {κ : zS} {Q : Int32 → zS → Prop} {X : zXp} (W : zW C n0 κ) (Ta0 : zT κ a0 = 15) (ρ : Nat → Nat) (L9 : Int) (hp : chI9 ρ κ a0 L9) (h : ∀ (v : Int32) (κ' : zS), (∃ ρ', chI9 ρ' κ' a0 L9 ∧ (∃ F, zF F κ κ') ∧ oC9 κ' a0 = oC9 κ a0) → Q v κ') (hx : ∀ (cls : String) (κ' : zS), ((cls = "java/lang/IllegalStateException" ∨ cls = "java/lang/IndexOutOfBoundsException") ∧ κ' = ut κ) → X cls κ') : zRun C 9 mCh_independent [.ref a0, .int a1, .int a2] κ (oI Q X) := by
  refine Ch_independent_run W Ta0 ?_
  replace W := W.lo (Nat.le_trans W.1.2.1 W.1.2.2) (Nat.le_refl (zn κ))
  unfold w_Ch_independent_0
  obtain ⟨n9, P9, hX⟩ := ch_o9 hp
  refine ⟨fun c1 => ?_, fun c1 => ?_⟩
  · skip
    intro T2
    refine Co_isShared_c W T2  ?_ (fun r3 q5 => ?_)
    · exact hp.1.2.1.1.1  -- p1
    intro W6
    intro M7
    refine ⟨fun c8 => ?_, fun c8 => ?_⟩
    · skip
      intro κ_9 hκ_9
      refine hx _ _ ?_
      · exact ⟨Or.inr rfl, hκ_9⟩  -- x2
    · skip
      intro T10
      refine Co_isShared_c W6 T10  ?_ (fun r11 q13 => ?_)
      · exact hp.1.2.1.1.1  -- p3
      intro W14
      intro M15
      refine ⟨fun c16 => ?_, fun c16 => ?_⟩
      · skip
        intro T17
        refine Od_arrange_c W14 T17 ρ n9 P9 ?_ (fun r18 κ_19 q20 => ?_)
        · exact ar_p9 hp c1 (hX c1).1  -- p4
        intro W21
        intro M22
        refine ⟨fun c23 => ?_, fun c23 => ?_⟩
        · skip
          refine h _ _ ?_
          · exact ⟨ρ, (chI_a9 W Ta0 q20.2.1 q20.2.2.1 q20.2.2.2.1 q20.2.2.2.2.1 hp).1⟩  -- q5
        · skip
          intro T24
          have R := chI_a9 W Ta0 q20.2.1 q20.2.2.1 q20.2.2.2.1 q20.2.2.2.2.1 hp
          have ro : zR κ_19 chOdds a0 = zR κ chOdds a0 := R.2.2.2 chOdds (by decide)
          have rs : zR κ_19 chSolver a0 = zR κ chSolver a0 := R.2.2.2 chSolver (by decide)
          have ra : zR κ_19 chAtlas a0 = zR κ chAtlas a0 := R.2.2.2 chAtlas (by decide)
          have I9 := R.1.1
          have T19 := q20.2.1.t Ta0 (by decide)
          obtain ⟨n8, P8, hX8⟩ := ch_o9 I9
          have sol9 : zI κ_19 soSolved (zR κ_19 chSolver a0) ≠ 0 := by rw [rs, R.2.2.1]; exact c1
          have Y := hX8 sol9
          have en : n9 = n8 := by
            have y1 := (hX c1).2.2.1.2.2.2.1
            have y2 := ((R.2.1 n8).mp (by rw [← ra]; exact Y.2.2.1)).2.2.2.1
            omega
          refine Od_tablesAgree_c W21 T24 ρ n8 P8 ?_ (fun r25 κ_26 q27 => ?_)
          · exact ta_p9 W21 T19 I9 ⟨Y.1, Y.2.1⟩ (by rw [ro]; exact q20.2.2.2.2.2 c23) en  -- p6
          intro W28
          intro M29
          refine ⟨fun c30 => ?_, fun c30 => ?_⟩
          · skip
            refine h _ _ ?_
            · obtain ⟨_, ρ2, G⟩ := q27
              have K := ch_g9 W21 T19 I9 Y.2.1 G sol9
              obtain ⟨F1, Z1⟩ := R.1.2.1
              obtain ⟨F2, Z2⟩ := K.2.1
              exact ⟨ρ2, K.1, ⟨fun _ _ => True, (Z1.mono (fun _ _ _ => trivial)).tr (Z2.mono (fun _ _ _ => trivial))⟩, K.2.2.trans R.1.2.2⟩
          · skip
            refine h _ _ ?_
            · obtain ⟨_, ρ2, G⟩ := q27
              have K := ch_g9 W21 T19 I9 Y.2.1 G sol9
              obtain ⟨F1, Z1⟩ := R.1.2.1
              obtain ⟨F2, Z2⟩ := K.2.1
              exact ⟨ρ2, K.1, ⟨fun _ _ => True, (Z1.mono (fun _ _ _ => trivial)).tr (Z2.mono (fun _ _ _ => trivial))⟩, K.2.2.trans R.1.2.2⟩
      · skip
        intro κ_31 hκ_31
        refine hx _ _ ?_
        · exact ⟨Or.inr rfl, hκ_31⟩  -- x9
  · skip
    intro κ_32 hκ_32
    refine hx _ _ ?_
    · exact ⟨Or.inl rfl, hκ_32⟩  -- x10

theorem Ch_given_c {C : zC} {n0 : Nat} {a0 : Nat} {a1 : Int32} {a2 : Int32} {a3 : Int32} {κ : zS} {Q : Int32 → zS → Prop} {X : zXp} (W : zW C n0 κ) (Ta0 : zT κ a0 = 15) (ρ : Nat → Nat) (L9 : Int) (hp : chI9 ρ κ a0 L9) (h : ∀ (v : Int32) (κ' : zS), (∃ ρ', chI9 ρ' κ' a0 L9 ∧ (∃ F, zF F κ κ') ∧ oC9 κ' a0 = oC9 κ a0) → Q v κ') (hx : ∀ (cls : String) (κ' : zS), ((cls = "java/lang/IllegalStateException" ∨ cls = "java/lang/IndexOutOfBoundsException") ∧ κ' = ut κ) → X cls κ') : zRun C 9 mCh_given [.ref a0, .int a1, .int a2, .int a3] κ (oI Q X) := by
  refine Ch_given_run W Ta0 ?_
  replace W := W.lo (Nat.le_trans W.1.2.1 W.1.2.2) (Nat.le_refl (zn κ))
  unfold w_Ch_given_0
  obtain ⟨n9, P9, hX⟩ := ch_o9 hp
  refine ⟨fun c1 => ?_, fun c1 => ?_⟩
  · skip
    intro T2
    refine Co_isShared_c W T2  ?_ (fun r3 q5 => ?_)
    · exact hp.1.2.1.1.1  -- p1
    intro W6
    intro M7
    refine ⟨fun c8 => ?_, fun c8 => ?_⟩
    · skip
      intro κ_9 hκ_9
      refine hx _ _ ?_
      · exact ⟨Or.inr rfl, hκ_9⟩  -- x2
    · skip
      intro T10
      refine Co_isShared_c W6 T10  ?_ (fun r11 q13 => ?_)
      · exact hp.1.2.1.1.1  -- p3
      intro W14
      intro M15
      refine ⟨fun c16 => ?_, fun c16 => ?_⟩
      · skip
        intro κ_17 hκ_17
        refine hx _ _ ?_
        · exact ⟨Or.inr rfl, hκ_17⟩  -- x4
      · skip
        intro T18
        refine Co_isShared_c W14 T18  ?_ (fun r19 q21 => ?_)
        · exact hp.1.2.1.1.1  -- p5
        intro W22
        intro M23
        refine ⟨fun c24 => ?_, fun c24 => ?_⟩
        · skip
          intro T25
          refine Od_arrange_c W22 T25 ρ n9 P9 ?_ (fun r26 κ_27 q28 => ?_)
          · exact ar_p9 hp c1 (hX c1).1  -- p6
          intro W29
          intro M30
          refine ⟨fun c31 => ?_, fun c31 => ?_⟩
          · skip
            refine h _ _ ?_
            · exact ⟨ρ, (chI_a9 W Ta0 q28.2.1 q28.2.2.1 q28.2.2.2.1 q28.2.2.2.2.1 hp).1⟩  -- q7
          · skip
            intro T32
            have R := chI_a9 W Ta0 q28.2.1 q28.2.2.1 q28.2.2.2.1 q28.2.2.2.2.1 hp
            have ro : zR κ_27 chOdds a0 = zR κ chOdds a0 := R.2.2.2 chOdds (by decide)
            have rs : zR κ_27 chSolver a0 = zR κ chSolver a0 := R.2.2.2 chSolver (by decide)
            have ra : zR κ_27 chAtlas a0 = zR κ chAtlas a0 := R.2.2.2 chAtlas (by decide)
            have I9 := R.1.1
            have T19 := q28.2.1.t Ta0 (by decide)
            obtain ⟨n8, P8, hX8⟩ := ch_o9 I9
            have sol9 : zI κ_27 soSolved (zR κ_27 chSolver a0) ≠ 0 := by rw [rs, R.2.2.1]; exact c1
            have Y := hX8 sol9
            have en : n9 = n8 := by
              have y1 := (hX c1).2.2.1.2.2.2.1
              have y2 := ((R.2.1 n8).mp (by rw [← ra]; exact Y.2.2.1)).2.2.2.1
              omega
            refine Od_tablesAgree_c W29 T32 ρ n8 P8 ?_ (fun r33 κ_34 q35 => ?_)
            · exact ta_p9 W29 T19 I9 ⟨Y.1, Y.2.1⟩ (by rw [ro]; exact q28.2.2.2.2.2 c31) en  -- p8
            intro W36
            intro M37
            refine ⟨fun c38 => ?_, fun c38 => ?_⟩
            · skip
              refine h _ _ ?_
              · obtain ⟨_, ρ2, G⟩ := q35
                have K := ch_g9 W29 T19 I9 Y.2.1 G sol9
                obtain ⟨F1, Z1⟩ := R.1.2.1
                obtain ⟨F2, Z2⟩ := K.2.1
                exact ⟨ρ2, K.1, ⟨fun _ _ => True, (Z1.mono (fun _ _ _ => trivial)).tr (Z2.mono (fun _ _ _ => trivial))⟩, K.2.2.trans R.1.2.2⟩
            · skip
              refine h _ _ ?_
              · obtain ⟨_, ρ2, G⟩ := q35
                have K := ch_g9 W29 T19 I9 Y.2.1 G sol9
                obtain ⟨F1, Z1⟩ := R.1.2.1
                obtain ⟨F2, Z2⟩ := K.2.1
                exact ⟨ρ2, K.1, ⟨fun _ _ => True, (Z1.mono (fun _ _ _ => trivial)).tr (Z2.mono (fun _ _ _ => trivial))⟩, K.2.2.trans R.1.2.2⟩
        · skip
          intro κ_39 hκ_39
          refine hx _ _ ?_
          · exact ⟨Or.inr rfl, hκ_39⟩  -- x11
  · skip
    intro κ_40 hκ_40
    refine hx _ _ ?_
    · exact ⟨Or.inl rfl, hκ_40⟩  -- x12
