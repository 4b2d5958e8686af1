set_option maxHeartbeats 1600000
/-! the class: ChanceWorks' solve, best -/
/-- a call that works with numbers of all roles, and may make some -/
theorem chI_b9 {C : zC} {n0 a : Nat} {L : Int} {ρ ρ' : Nat → Nat} {F : Nat → Nat → Prop} {κ τ : zS} (W : zW C n0 κ) (T : zT κ a = 15) (Z : zF F κ τ) (hu : ∀ x K, zT κ x = K → (K = 13 ∨ K = 5 ∨ K = 10 ∨ K = 7 ∨ K = 6 ∨ K = 15) → un9 F x K) (hB : chB9 τ a) (hr : zR τ atStates (zR κ chAtlas a) = zR κ atStates (zR κ chAtlas a) ∧ zR τ atEndings (zR κ chAtlas a) = zR κ atEndings (zR κ chAtlas a) ∧ zR τ atWeb (zR κ chAtlas a) = zR κ atWeb (zR κ chAtlas a)) (hρ : ∀ b, b < zn κ → ρ' b = ρ b) (hC : soR9 ρ' τ (zR κ chSolver a) ∧ ((zN τ (zR τ soTaken (zR κ chSolver a))) = 0 ∨ (zN τ (zR τ soTaken (zR κ chSolver a))) = 1000) ∧ (zR τ soAtlas (zR κ chSolver a) = zR κ soAtlas (zR κ chSolver a) ∧ zR τ soWeb (zR κ chSolver a) = zR κ soWeb (zR κ chSolver a) ∧ zR τ soCalc (zR κ chSolver a) = zR κ soCalc (zR κ chSolver a))) (hS9 : chS9 ρ' τ a) (hD : (∀ f, f / 100 = 9 → zR τ f (zR κ chOdds a) = zR κ f (zR κ chOdds a)) ∧ ((odU9 τ (zR κ chOdds a) ∨ tbL9 τ (zR κ chOdds a)) ∧ (zN τ (zR τ odLinks (zR κ chOdds a))) ≤ 20000 ∧ (zN τ (zR τ odKey (zR κ chOdds a))) = 3) ∧ (∀ j u, j < 31 → zQ τ (zR κ odEdges (zR κ chOdds a)) j = some u → ρ' u = 2000000 + j)) (hK : cK9 τ a) (I : chI9 ρ κ a L) : chI9 ρ' τ a L ∧ (∃ F, zF F κ τ) ∧ oC9 τ a = oC9 κ a := by
  obtain ⟨⟨A1, ⟨⟨A2, A3⟩, A4⟩, A5, A6⟩, B, ⟨C1, C2, C3, C4⟩, _, ⟨D1, D2, D3, ⟨D4, D5⟩, D6, D7⟩, E0, L0, _⟩ := I
  have tO := ty_chOdds W T
  have tG := ty_odGroups W tO
  have lt : ∀ x, zT κ x ≠ 0 → x < zn κ := fun x h => (W.2.1 x h).2
  have E := chE_u9 W T Z (hu a 15 T (by decide)) E0
  have o := E.2.1
  have P := pa_u9 Z W (ty_chParser W T) (hu _ 10 (ty_chParser W T) (by decide)) A5
  have K1 := co_u9 Z W (ty_chCode W T) (hu _ 5 (ty_chCode W T) (by decide))
  have K2 := co_u9 Z W (ty_chSpare W T) (hu _ 5 (ty_chSpare W T) (by decide))
  have H := ho_u9 (M := 3000) (D := 3) (S := 8192) Z W tG (hu _ 6 tG (by decide))
  have A := ta_u9 Z W (ty_chTape W T) (hu _ 13 (ty_chTape W T) (by decide)) A1
  have G := hD.1
  refine ⟨⟨⟨?_, ?_, ?_⟩, hB, ?_, hS9, ?_, E.1, ?_, hK⟩, ⟨_, Z⟩, oC_v9 W T Z (hu a 15 T (by decide)) (hu _ 13 (ty_chTape W T) (by decide))⟩
  · rw [o chTape (by decide)]; exact A.1
  · rw [o chCode (by decide), o chSpare (by decide)]
    exact ⟨⟨K1.1 A2, K2.1 A3⟩, A4⟩
  · rw [o chParser (by decide), o chTape (by decide)]
    exact ⟨P.1, P.2.trans A6⟩
  · unfold chC9
    rw [o chSolver (by decide), o chAtlas (by decide), o chShown (by decide), hr.2.2, hC.2.2.1, hC.2.2.2.1]
    refine ⟨hC.1, hC.2.1, C3, ?_⟩
    rw [hρ _ (lt _ (by rw [ty_chShown W T]; decide))]
    exact C4
  · unfold chD9
    rw [o chSolver (by decide), o chAtlas (by decide), o chOdds (by decide), G odAtlas (by decide), G odSolver (by decide), G odCalc (by decide), G odHeld (by decide), G odGroups (by decide), G odEdges (by decide), hC.2.2.2.2, hr.1, hr.2.1]
    refine ⟨D1, ?_, ⟨hD.2.1.1, hD.2.1.2.1⟩, ⟨H.1 D4, hD.2.1.2.2⟩, hD.2.2, D7⟩
    rw [hρ _ (lt _ (by rw [ty_odHeld W tO]; decide))]
    exact D2
  · rw [o chTape (by decide), A.2]; exact L0
/-- odds that are not touched, with roles that grew -/
theorem odd_r9 {C : zC} {n0 a : Nat} {L : Int} {ρ ρ' : Nat → Nat} {F : Nat → Nat → Prop} {κ τ : zS} (W : zW C n0 κ) (T : zT κ a = 15) (Z : zF F κ τ) (n : un9 F (zR κ chOdds a) 9) (hρ : ∀ b, b < zn κ → ρ' b = ρ b) (I : chI9 ρ κ a L) : (∀ f, f / 100 = 9 → zR τ f (zR κ chOdds a) = zR κ f (zR κ chOdds a)) ∧ ((odU9 τ (zR κ chOdds a) ∨ tbL9 τ (zR κ chOdds a)) ∧ (zN τ (zR τ odLinks (zR κ chOdds a))) ≤ 20000 ∧ (zN τ (zR τ odKey (zR κ chOdds a))) = 3) ∧ (∀ j u, j < 31 → zQ τ (zR κ odEdges (zR κ chOdds a)) j = some u → ρ' u = 2000000 + j) := by
  have tO := ty_chOdds W T
  obtain ⟨D1, D2, D3, ⟨D4, D5⟩, D6, D7⟩ := I.2.2.2.2.1
  have G := odd_u9 Z W tO n
  have g := G.2.2.2.2
  rw [G.1 odEdges (by decide)] at g
  refine ⟨G.1, ⟨G.2.1 D3.1, by rw [G.2.2.1]; exact D3.2, by rw [G.2.2.2.1]; exact D5⟩, fun j u hj hu => ?_⟩
  rw [g] at hu
  have tu := W.2.2.2.1 _ _ _ (ty_odEdges W tO) hu
  rw [hρ u (W.2.1 u (by rw [tu]; decide)).2]
  exact D6 j u hj hu
theorem zt_09 {C : zC} {n0 x : Nat} {κ : zS} (W : zW C n0 κ) (h : x = 0 ∨ zn κ ≤ x) : zT κ x = 0 := by
  by_cases z : zT κ x = 0
  · exact z
  · have y := W.2.1 x z
    have p := W.1.1.1
    omega
theorem fv_un9 {C : zC} {n0 s x K : Nat} {ρ : Nat → Nat} {κ : zS} (W : zW C n0 κ) (Ts : zT κ s = 12) (T : zT κ x = K) (hK : (K ≠ 8 ∧ K ≠ 11 ∧ K ≠ 4) ∧ K ≠ 14 ∧ K ≠ 12 ∧ K ≠ 0) : un9 (fvF9 ρ κ s) x K := fun f hf z => by
  rcases z with z | z | z | z | z | z
  · exact so_un9 hK.1 f hf z
  · rw [z, ty_soWeb W Ts] at T; exact hK.2.1 T.symm
  · rw [z.1, Ts] at T; exact hK.2.2.1 T.symm
  · rw [z] at hf; exact hK.2.2.2 hf.symm
  · rw [zt_09 W (Or.inl z)] at T; exact hK.2.2.2 T.symm
  · rw [zt_09 W (Or.inr z)] at T; exact hK.2.2.2 T.symm
theorem mp_un9 {C : zC} {n0 s x K : Nat} {ρ : Nat → Nat} {κ : zS} (W : zW C n0 κ) (Ts : zT κ s = 12) (T : zT κ x = K) (hK : (K ≠ 8 ∧ K ≠ 11 ∧ K ≠ 4) ∧ K ≠ 14 ∧ K ≠ 12 ∧ K ≠ 0) : ∀ f, f / 100 = K → f ≠ atPlan → ¬ mpF9 ρ κ s f x := fun f hf hp z => by
  rcases z with z | z | z | z | z | z | z
  · exact so_un9 hK.1 f hf z
  · rw [z, ty_soWeb W Ts] at T; exact hK.2.1 T.symm
  · rw [z.1, Ts] at T; exact hK.2.2.1 T.symm
  · exact hp z.2
  · rw [z] at hf; exact hK.2.2.2 hf.symm
  · rw [zt_09 W (Or.inl z)] at T; exact hK.2.2.2 T.symm
  · rw [zt_09 W (Or.inr z)] at T; exact hK.2.2.2 T.symm
/-- behind findVisits -/
theorem ch_v9 {C : zC} {n0 a n : Nat} {L : Int} {ρ : Nat → Nat} {κ τ : zS} (W : zW C n0 κ) (T : zT κ a = 15) (I : chI9 ρ κ a L) (ex : zI κ atExplored (zR κ chAtlas a) ≠ 0) (A : atW κ (zR κ chAtlas a) n) (q : fvP9 ρ κ τ (zR κ chSolver a) n) : ∃ ρ', chI9 ρ' τ a L ∧ (∃ F, zF F κ τ) ∧ oC9 τ a = oC9 κ a := by
  obtain ⟨ρ', hρ, Z, S, A', ⟨w1, w2⟩, ⟨l1, l2, l3⟩, V, kz⟩ := q
  have tA := ty_chAtlas W T
  have tS := ty_chSolver W T
  have tm := ty_chMachine W T
  have B := I.2.1
  have lk := I.2.2.1.2.2.1
  rw [lk.1] at A'
  rw [lk.2] at w1 w2
  have hu : ∀ x K, zT κ x = K → (K = 13 ∨ K = 5 ∨ K = 10 ∨ K = 7 ∨ K = 6 ∨ K = 15) → un9 (fvF9 ρ κ (zR κ chSolver a)) x K := fun x K h1 h2 => fv_un9 W tS h1 (by omega)
  have n3 : un9 (fvF9 ρ κ (zR κ chSolver a)) (zR κ chAtlas a) 3 := fv_un9 W tS tA (by decide)
  have ma : maL κ (zR κ chMachine a) := by
    have y := B.1.2.1
    rw [B.2.1] at y
    exact y
  have hO : ∀ f, f / 100 = 15 → zR τ f a = zR κ f a := fun f hf => Z.r (hu a 15 T (by decide) f hf)
  have hB := chB_w9 W T Z (fun f hf _ _ => hO f hf) (fun f hf _ => n3 f hf) (hu _ 6 (ty_atStates W tA) (by decide)) (hu _ 6 (ty_atEndings W tA) (by decide)) (hu _ 5 (ty_atCode W tA) (by decide)) (ma_u9 Z W tm (hu _ 7 tm (by decide)) ma) ⟨Or.inr w1, w2⟩ ⟨Or.inr A'.1, A'.2.1⟩ (fun _ => ⟨n, A'⟩) B
  have ns : ∀ f, f = soTaken ∨ f = soWorths ∨ f = soPlanned → ¬ fvF9 ρ κ (zR κ chSolver a) f (zR κ chSolver a) := fun f hf z => by
    rcases z with z | z | z | z | z | z
    · exact so_un9 (K := 12) (by decide) f (by rcases hf with y | y | y <;> rw [y] <;> rfl) z
    · have y := ty_soWeb W tS
      rw [← z, tS] at y; exact absurd y (by decide)
    · rcases hf with y | y | y <;> rw [y] at z <;> exact absurd z.2 (by decide)
    · rcases hf with y | y | y <;> rw [y] at z <;> exact absurd z (by decide)
    · have y := zt_09 W (Or.inl z)
      rw [tS] at y; exact absurd y (by decide)
    · have y := zt_09 W (Or.inr z)
      rw [tS] at y; exact absurd y (by decide)
  have uq : ∀ m, atW τ (zR κ chAtlas a) m → m = n := fun m hm => by
    have y1 := hm.2.2.2.1
    have y2 := A'.2.2.2.1
    omega
  refine ⟨ρ', chI_b9 W T Z hu hB.1 ⟨hB.2.2.1 _ (by decide) (by decide), hB.2.2.1 _ (by decide) (by decide), hB.2.2.1 _ (by decide) (by decide)⟩ hρ ⟨S, ?_, l1, l2, l3⟩ ?_ (odd_r9 W T Z (fv_un9 W tS (ty_chOdds W T) (by decide)) hρ I) (cK_k9 W T Z (hO chSolver (by decide)) (hO chOdds (by decide)) (fv_un9 W tS (ty_chOdds W T) (by decide) odEdges rfl) kz I.2.2.2.2.2.2.2) I⟩
  · rw [Z.r (ns _ (Or.inl rfl)), Z.l (ty_soTaken W tS)]
    exact I.2.2.1.2.1
  · unfold chS9
    rw [hO chSolver (by decide), hO chAtlas (by decide), hB.2.1]
    refine ⟨fun z => ?_, fun z => ?_⟩
    · obtain ⟨P, v1, v2, v3⟩ := V z
      refine ⟨ex, P, v2, fun m hm => ?_⟩
      rw [uq m hm]
      exact ⟨v1, v3⟩
    · rw [Z.i (ns _ (Or.inr (Or.inr rfl)))] at z
      obtain ⟨x1, x3⟩ := I.2.2.2.1.2 z
      refine ⟨x1, fun m hm => ?_⟩
      rw [uq m hm]
      have q := (Z.row W (show zr soWorths = some 25 by decide +kernel) (by decide) (tS.trans (by decide)) (ns _ (Or.inr (Or.inl rfl)))).2.2
      rw [q, Z.r (ns _ (Or.inr (Or.inl rfl))), Z.l (ty_soWorths W tS)]
      exact x3 n A
/-- behind makePlan -/
theorem ch_p9 {C : zC} {n0 a n : Nat} {L : Int} {ρ : Nat → Nat} {κ τ : zS} {v : Int32} (W : zW C n0 κ) (T : zT κ a = 15) (I : chI9 ρ κ a L) (ex : zI κ atExplored (zR κ chAtlas a) ≠ 0) (A : atW κ (zR κ chAtlas a) n) (q : mpP9 ρ κ τ (zR κ chSolver a) n v) : ∃ ρ', chI9 ρ' τ a L ∧ (∃ F, zF F κ τ) ∧ oC9 τ a = oC9 κ a := by
  obtain ⟨ρ', ⟨hρ, Z⟩, S, ⟨⟨w1, w2⟩, A'⟩, tk, V, wo, sp, ⟨l1, l2, l3⟩, kz⟩ := q
  have tA := ty_chAtlas W T
  have tS := ty_chSolver W T
  have tm := ty_chMachine W T
  have B := I.2.1
  have lk := I.2.2.1.2.2.1
  rw [lk.1] at A'
  rw [lk.2] at w1 w2
  have hu : ∀ x K, zT κ x = K → (K = 13 ∨ K = 5 ∨ K = 10 ∨ K = 7 ∨ K = 6 ∨ K = 15) → un9 (mpF9 ρ κ (zR κ chSolver a)) x K := fun x K h1 h2 f hf => mp_un9 W tS h1 (by omega) f hf (fun e => by
    have y : atPlan / 100 = 3 := rfl
    rw [e, y] at hf
    omega)
  have ma : maL κ (zR κ chMachine a) := by
    have y := B.1.2.1
    rw [B.2.1] at y
    exact y
  have hO : ∀ f, f / 100 = 15 → zR τ f a = zR κ f a := fun f hf => Z.r (hu a 15 T (by decide) f hf)
  have hB := chB_w9 W T Z (fun f hf _ _ => hO f hf) (mp_un9 W tS tA (by decide)) (hu _ 6 (ty_atStates W tA) (by decide)) (hu _ 6 (ty_atEndings W tA) (by decide)) (hu _ 5 (ty_atCode W tA) (by decide)) (ma_u9 Z W tm (hu _ 7 tm (by decide)) ma) ⟨w1, w2⟩ ⟨Or.inr A'.1, A'.2.1⟩ (fun _ => ⟨n, A'⟩) B
  have ns : ¬ mpF9 ρ κ (zR κ chSolver a) soVisits (zR κ chSolver a) := fun z => by
    rcases z with z | z | z | z | z | z | z
    · exact so_un9 (K := 12) (by decide) soVisits (by decide) z
    · have y := ty_soWeb W tS
      rw [← z, tS] at y; exact absurd y (by decide)
    · exact absurd z.2 (by decide)
    · exact absurd z.2 (by decide)
    · exact absurd z (by decide)
    · have y := zt_09 W (Or.inl z)
      rw [tS] at y; exact absurd y (by decide)
    · have y := zt_09 W (Or.inr z)
      rw [tS] at y; exact absurd y (by decide)
  have uq : ∀ m, atW τ (zR κ chAtlas a) m → m = n := fun m hm => by
    have y1 := hm.2.2.2.1
    have y2 := A'.2.2.2.1
    omega
  refine ⟨ρ', chI_b9 W T Z hu hB.1 ⟨hB.2.2.1 _ (by decide) (by decide), hB.2.2.1 _ (by decide) (by decide), hB.2.2.1 _ (by decide) (by decide)⟩ hρ ⟨S, tk, l1, l2, l3⟩ ?_ (odd_r9 W T Z (fun f hf => mp_un9 W tS (ty_chOdds W T) (by decide) f hf (fun e => by
    have y : atPlan / 100 = 3 := rfl
    rw [e, y] at hf
    omega)) hρ I) (cK_k9 W T Z (hO chSolver (by decide)) (hO chOdds (by decide)) (mp_un9 W tS (ty_chOdds W T) (by decide) odEdges rfl (by decide)) kz I.2.2.2.2.2.2.2) I⟩
  unfold chS9
  rw [hO chSolver (by decide), hO chAtlas (by decide), hB.2.1]
  refine ⟨fun z => ?_, fun z => ?_⟩
  · rcases sp with sp | sp
    · rw [sp.1] at z
      obtain ⟨x1, P, x2, x3⟩ := I.2.2.2.1.1 z
      refine ⟨x1, P, x2, fun m hm => ?_⟩
      rw [uq m hm]
      have y := x3 n A
      rcases V with V | V
      · refine ⟨V n P A.2.2.1 y.1, ?_⟩
        rw [Z.r ns, Z.l (ty_soVisits W tS)]
        exact y.2
      · rw [sp.1] at V
        exact absurd V z
    · exact absurd sp z
  · refine ⟨ex, fun m hm => ?_⟩
    rw [uq m hm]
    rcases wo with wo | wo
    · exact wo
    · rw [wo] at z ⊢
      exact (I.2.2.2.1.2 z).2 n A
theorem Ch_solve_c {C : zC} {n0 : Nat} {a0 : Nat} {κ : zS} {Q : Int32 → zS → Prop} {X : zXp} (W : zW C n0 κ) (Ta0 : zT κ a0 = 15) (ρ : Nat → Nat) (L9 : Int) (n9 : Nat) (hp : chI9 ρ κ a0 L9 ∧ (zI κ atExplored (zR κ chAtlas a0) ≠ 0 → atW κ (zR κ chAtlas a0) n9)) (h : ∀ (v : Int32) (κ' : zS), (∃ ρ', chI9 ρ' κ' a0 L9 ∧ (∃ F, zF F κ κ') ∧ oC9 κ' a0 = oC9 κ a0) → Q v κ') (hx : ∀ (cls : String) (κ' : zS), (cls = "java/lang/IllegalStateException" ∧ κ' = ut κ) → X cls κ') : zRun C 9 mCh_solve [.ref a0] κ (oI Q X) := by
  refine Ch_solve_run W Ta0 ?_
  replace W := W.lo (Nat.le_trans W.1.2.1 W.1.2.2) (Nat.le_refl (zn κ))
  unfold w_Ch_solve_0
  refine ⟨fun c1 => ?_, fun c1 => ?_⟩
  · skip
    intro T2
    refine So_findVisitz_c W T2 ρ n9 ?_ (fun r3 κ_4 q5 => ?_)
    · have lk := hp.1.2.2.1.2.2.1
      refine ⟨hp.1.2.2.1.1, ?_, by rw [lk.1]; exact hp.2 c1⟩
      rw [lk.2]
      exact hp.1.2.1.1.2.2.1
    intro W6
    intro M7
    refine h _ _ ?_
    · exact ch_v9 W Ta0 hp.1 c1 (hp.2 c1) q5  -- q2
  · skip
    intro κ_8 hκ_8
    refine hx _ _ ?_
    · exact ⟨rfl, hκ_8⟩  -- x3

theorem Ch_best_c {C : zC} {n0 : Nat} {a0 : Nat} {κ : zS} {Q : Int32 → zS → Prop} {X : zXp} (W : zW C n0 κ) (Ta0 : zT κ a0 = 15) (ρ : Nat → Nat) (L9 : Int) (n9 : Nat) (hp : chI9 ρ κ a0 L9 ∧ (zI κ atExplored (zR κ chAtlas a0) ≠ 0 → atW κ (zR κ chAtlas a0) n9)) (h : ∀ (v : Int32) (κ' : zS), (∃ ρ', chI9 ρ' κ' a0 L9 ∧ (∃ F, zF F κ κ') ∧ oC9 κ' a0 = oC9 κ a0) → Q v κ') (hx : ∀ (cls : String) (κ' : zS), (cls = "java/lang/IllegalStateException" ∧ κ' = ut κ) → X cls κ') : zRun C 9 mCh_best [.ref a0] κ (oI Q X) := by
  refine Ch_best_run W Ta0 ?_
  replace W := W.lo (Nat.le_trans W.1.2.1 W.1.2.2) (Nat.le_refl (zn κ))
  unfold w_Ch_best_0
  refine ⟨fun c1 => ?_, fun c1 => ?_⟩
  · skip
    intro T2
    refine So_makePlanz_c W T2 ρ n9 ?_ (fun r3 κ_4 q5 => ?_)
    · have lk := hp.1.2.2.1.2.2.1
      refine ⟨hp.1.2.2.1.1, ?_, by rw [lk.1]; exact hp.2 c1, hp.1.2.2.1.2.1⟩
      rw [lk.2]
      exact hp.1.2.1.1.2.2.1
    intro W6
    intro M7
    refine h _ _ ?_
    · exact ch_p9 W Ta0 hp.1 c1 (hp.2 c1) q5  -- q2
  · skip
    intro κ_8 hκ_8
    refine hx _ _ ?_
    · exact ⟨rfl, hκ_8⟩  -- x3
