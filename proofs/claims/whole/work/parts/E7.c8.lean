section
set_option maxHeartbeats 1600000
/-! the class: ChanceWorks' solve, best -/
/-- a call that works with numbers of all roles, and may make some -/
theorem chI_b9 {C : zC} {n0 a : Nat} {L : Int} {ρ ρ' : Nat → Nat} {F : Nat → Nat → Prop} {κ τ : zS} (W : zW C n0 κ) (T : zT κ a = 15) (Z : zF F κ τ) (hu : ∀ x K, zT κ x = K → (K = 13 ∨ K = 5 ∨ K = 10 ∨ K = 7 ∨ K = 6 ∨ K = 15) → un9 F x K) (h3 : ∀ f, f / 100 = 3 → f ≠ atPlan → ¬ F f (zR κ chAtlas a)) (hB : chB9 τ a) (hr : zR τ atStates (zR κ chAtlas a) = zR κ atStates (zR κ chAtlas a) ∧ zR τ atEndings (zR κ chAtlas a) = zR κ atEndings (zR κ chAtlas a) ∧ zR τ atWeb (zR κ chAtlas a) = zR κ atWeb (zR κ chAtlas a)) (hρ : ∀ b, b < zn κ → ρ' b = ρ b) (hC : soR9 ρ' τ (zR κ chSolver a) ∧ ((zN τ (zR τ soTaken (zR κ chSolver a))) = 0 ∨ (zN τ (zR τ soTaken (zR κ chSolver a))) = 1000) ∧ (zR τ soAtlas (zR κ chSolver a) = zR κ soAtlas (zR κ chSolver a) ∧ zR τ soWeb (zR κ chSolver a) = zR κ soWeb (zR κ chSolver a) ∧ zR τ soCalc (zR κ chSolver a) = zR κ soCalc (zR κ chSolver a))) (hS9 : chS9 ρ' τ a) (hD : (∀ f, f / 100 = 9 → zR τ f (zR κ chOdds a) = zR κ f (zR κ chOdds a)) ∧ ((odU9 τ (zR κ chOdds a) ∨ tbL9 τ (zR κ chOdds a)) ∧ (zN τ (zR τ odLinks (zR κ chOdds a))) ≤ 20000 ∧ (zN τ (zR τ odKey (zR κ chOdds a))) = 3) ∧ (∀ j u, j < 31 → zQ τ (zR κ odEdges (zR κ chOdds a)) j = some u → ρ' u = 2000000 + j)) (hK : cK9 τ a) (I : chI9 ρ κ a L) : chI9 ρ' τ a L ∧ (∃ F, zF F κ τ) ∧ pB8 κ τ a := by
  obtain ⟨⟨A1, ⟨⟨A2, A3⟩, A4⟩, A5, A6⟩, B, ⟨C1, C2, C3, C4⟩, _, ⟨D1, D2, D3, ⟨D4, D5⟩, D6, D7⟩, E0, L0, _⟩ := I
  have tO := ty_chOdds W T
  have tG := ty_odGroups W tO
  have lt : ∀ x, zT κ x ≠ 0 → x < zn κ := fun x h => (W.2.1 x h).2
  have E := chE_u9 W T Z (hu a 15 T (by decide)) E0
  have o := E.2.1
  have P := pa_u9 Z W (ty_chParser W T) (hu _ 10 (ty_chParser W T) (by decide)) A5
  have K1 := co_u9 Z W (ty_chCode W T) (hu _ 5 (ty_chCode W T) (by decide))
  have K2 := co_u9 Z W (ty_chSpare W T) (hu _ 5 (ty_chSpare W T) (by decide))
  have H := ho_u9 (M := 3000) (D := 3) (S := 8192) Z W tG (hu _ 6 tG (by decide))
  have A := ta_u9 Z W (ty_chTape W T) (hu _ 13 (ty_chTape W T) (by decide)) A1
  have G := hD.1
  refine ⟨⟨⟨?_, ?_, ?_⟩, hB, ?_, hS9, ?_, E.1, ?_, hK⟩, ⟨_, Z⟩, ⟨pC_v7 W T Z (hu a 15 T (by decide)) (hu _ 13 (ty_chTape W T) (by decide)) (hu _ 5 (ty_chCode W T) (by decide)), kB_z8 W T Z (hu a 15 T (by decide) _ (by decide)) h3 (hu _ 6 (ty_atStates W (ty_chAtlas W T)) (by decide)) (hu _ 6 (ty_atEndings W (ty_chAtlas W T)) (by decide))⟩⟩
  · rw [o chTape (by decide)]; exact A.1
  · rw [o chCode (by decide), o chSpare (by decide)]
    exact ⟨⟨K1.1 A2, K2.1 A3⟩, A4⟩
  · rw [o chParser (by decide), o chTape (by decide)]
    exact ⟨P.1, P.2.trans A6⟩
  · unfold chC9
    rw [o chSolver (by decide), o chAtlas (by decide), o chShown (by decide), hr.2.2, hC.2.2.1, hC.2.2.2.1]
    refine ⟨hC.1, hC.2.1, C3, ?_⟩
    rw [hρ _ (lt _ (by rw [ty_chShown W T]; decide))]
    exact C4
  · unfold chD9
    rw [o chSolver (by decide), o chAtlas (by decide), o chOdds (by decide), G odAtlas (by decide), G odSolver (by decide), G odCalc (by decide), G odHeld (by decide), G odGroups (by decide), G odEdges (by decide), hC.2.2.2.2, hr.1, hr.2.1]
    refine ⟨D1, ?_, ⟨hD.2.1.1, hD.2.1.2.1⟩, ⟨H.1 D4, hD.2.1.2.2⟩, hD.2.2, D7⟩
    rw [hρ _ (lt _ (by rw [ty_odHeld W tO]; decide))]
    exact D2
  · rw [o chTape (by decide), A.2]; exact L0
/-- odds that are not touched, with roles that grew -/
theorem odd_r9 {C : zC} {n0 a : Nat} {L : Int} {ρ ρ' : Nat → Nat} {F : Nat → Nat → Prop} {κ τ : zS} (W : zW C n0 κ) (T : zT κ a = 15) (Z : zF F κ τ) (n : un9 F (zR κ chOdds a) 9) (hρ : ∀ b, b < zn κ → ρ' b = ρ b) (I : chI9 ρ κ a L) : (∀ f, f / 100 = 9 → zR τ f (zR κ chOdds a) = zR κ f (zR κ chOdds a)) ∧ ((odU9 τ (zR κ chOdds a) ∨ tbL9 τ (zR κ chOdds a)) ∧ (zN τ (zR τ odLinks (zR κ chOdds a))) ≤ 20000 ∧ (zN τ (zR τ odKey (zR κ chOdds a))) = 3) ∧ (∀ j u, j < 31 → zQ τ (zR κ odEdges (zR κ chOdds a)) j = some u → ρ' u = 2000000 + j) := by
  have tO := ty_chOdds W T
  obtain ⟨D1, D2, D3, ⟨D4, D5⟩, D6, D7⟩ := I.2.2.2.2.1
  have G := odd_u9 Z W tO n
  have g := G.2.2.2.2
  rw [G.1 odEdges (by decide)] at g
  refine ⟨G.1, ⟨G.2.1 D3.1, by rw [G.2.2.1]; exact D3.2, by rw [G.2.2.2.1]; exact D5⟩, fun j u hj hu => ?_⟩
  rw [g] at hu
  have tu := W.2.2.2.1 _ _ _ (ty_odEdges W tO) hu
  rw [hρ u (W.2.1 u (by rw [tu]; decide)).2]
  exact D6 j u hj hu
theorem zt_09 {C : zC} {n0 x : Nat} {κ : zS} (W : zW C n0 κ) (h : x = 0 ∨ zn κ ≤ x) : zT κ x = 0 := by
  by_cases z : zT κ x = 0
  · exact z
  · have y := W.2.1 x z
    have p := W.1.1.1
    omega
theorem fv_un9 {C : zC} {n0 s x K : Nat} {ρ : Nat → Nat} {κ : zS} (W : zW C n0 κ) (Ts : zT κ s = 12) (T : zT κ x = K) (hK : (K ≠ 8 ∧ K ≠ 11 ∧ K ≠ 4) ∧ K ≠ 14 ∧ K ≠ 12 ∧ K ≠ 0) : un9 (fvF9 ρ κ s) x K := fun f hf z => by
  rcases z with z | z | z | z | z | z
  · exact so_un9 hK.1 f hf z
  · rw [z, ty_soWeb W Ts] at T; exact hK.2.1 T.symm
  · rw [z.1, Ts] at T; exact hK.2.2.1 T.symm
  · rw [z] at hf; exact hK.2.2.2 hf.symm
  · rw [zt_09 W (Or.inl z)] at T; exact hK.2.2.2 T.symm
  · rw [zt_09 W (Or.inr z)] at T; exact hK.2.2.2 T.symm
theorem mp_un9 {C : zC} {n0 s x K : Nat} {ρ : Nat → Nat} {κ : zS} (W : zW C n0 κ) (Ts : zT κ s = 12) (T : zT κ x = K) (hK : (K ≠ 8 ∧ K ≠ 11 ∧ K ≠ 4) ∧ K ≠ 14 ∧ K ≠ 12 ∧ K ≠ 0) : ∀ f, f / 100 = K → f ≠ atPlan → ¬ mpF9 ρ κ s f x := fun f hf hp z => by
  rcases z with z | z | z | z | z | z | z
  · exact so_un9 hK.1 f hf z
  · rw [z, ty_soWeb W Ts] at T; exact hK.2.1 T.symm
  · rw [z.1, Ts] at T; exact hK.2.2.1 T.symm
  · exact hp z.2
  · rw [z] at hf; exact hK.2.2.2 hf.symm
  · rw [zt_09 W (Or.inl z)] at T; exact hK.2.2.2 T.symm
  · rw [zt_09 W (Or.inr z)] at T; exact hK.2.2.2 T.symm
/-- behind findVisits -/
theorem ch_v9 {C : zC} {n0 a n : Nat} {L : Int} {ρ : Nat → Nat} {κ τ : zS} (W : zW C n0 κ) (T : zT κ a = 15) (I : chI9 ρ κ a L) (ex : zI κ atExplored (zR κ chAtlas a) ≠ 0) (A : atW κ (zR κ chAtlas a) n) (q : fvP9 ρ κ τ (zR κ chSolver a) n) : ∃ ρ', chI9 ρ' τ a L ∧ (∃ F, zF F κ τ) ∧ pA8 κ τ a := by
  obtain ⟨ρ', hρ, Z, S, A', ⟨w1, w2⟩, ⟨l1, l2, l3⟩, V, kz⟩ := q
  have tA := ty_chAtlas W T
  have tS := ty_chSolver W T
  have tm := ty_chMachine W T
  have B := I.2.1
  have lk := I.2.2.1.2.2.1
  rw [lk.1] at A'
  rw [lk.2] at w1 w2
  have hu : ∀ x K, zT κ x = K → (K = 13 ∨ K = 5 ∨ K = 10 ∨ K = 7 ∨ K = 6 ∨ K = 15) → un9 (fvF9 ρ κ (zR κ chSolver a)) x K := fun x K h1 h2 => fv_un9 W tS h1 (by omega)
  have n3 : un9 (fvF9 ρ κ (zR κ chSolver a)) (zR κ chAtlas a) 3 := fv_un9 W tS tA (by decide)
  have ma : maL κ (zR κ chMachine a) := by
    have y := B.1.2.1
    rw [B.2.1] at y
    exact y
  have hO : ∀ f, f / 100 = 15 → zR τ f a = zR κ f a := fun f hf => Z.r (hu a 15 T (by decide) f hf)
  have hB := chB_w9 W T Z (fun f hf _ _ => hO f hf) (fun f hf _ => n3 f hf) (hu _ 6 (ty_atStates W tA) (by decide)) (hu _ 6 (ty_atEndings W tA) (by decide)) (hu _ 5 (ty_atCode W tA) (by decide)) (ma_u9 Z W tm (hu _ 7 tm (by decide)) ma) ⟨Or.inr w1, w2⟩ ⟨Or.inr A'.1, A'.2.1⟩ (fun _ => ⟨n, A'⟩) B
  have ns : ∀ f, f = soTaken ∨ f = soWorths ∨ f = soPlanned → ¬ fvF9 ρ κ (zR κ chSolver a) f (zR κ chSolver a) := fun f hf z => by
    rcases z with z | z | z | z | z | z
    · exact so_un9 (K := 12) (by decide) f (by rcases hf with y | y | y <;> rw [y] <;> rfl) z
    · have y := ty_soWeb W tS
      rw [← z, tS] at y; exact absurd y (by decide)
    · rcases hf with y | y | y <;> rw [y] at z <;> exact absurd z.2 (by decide)
    · rcases hf with y | y | y <;> rw [y] at z <;> exact absurd z (by decide)
    · have y := zt_09 W (Or.inl z)
      rw [tS] at y; exact absurd y (by decide)
    · have y := zt_09 W (Or.inr z)
      rw [tS] at y; exact absurd y (by decide)
  have uq : ∀ m, atW τ (zR κ chAtlas a) m → m = n := fun m hm => by
    have y1 := hm.2.2.2.1
    have y2 := A'.2.2.2.1
    omega
  refine ⟨ρ', pA_b8 (kA_z7 W T Z (hu a 15 T (by decide) _ (by decide)) (fun f hf _ => n3 f hf) (hu _ 6 (ty_atStates W (ty_chAtlas W T)) (by decide)) (hu _ 6 (ty_atEndings W (ty_chAtlas W T)) (by decide))) (chI_b9 W T Z hu (fun f hf _ => n3 f hf) hB.1 ⟨hB.2.2.1 _ (by decide) (by decide), hB.2.2.1 _ (by decide) (by decide), hB.2.2.1 _ (by decide) (by decide)⟩ hρ ⟨S, ?_, l1, l2, l3⟩ ?_ (odd_r9 W T Z (fv_un9 W tS (ty_chOdds W T) (by decide)) hρ I) (cK_k9 W T Z (hO chSolver (by decide)) (hO chOdds (by decide)) (fv_un9 W tS (ty_chOdds W T) (by decide) odEdges rfl) kz I.2.2.2.2.2.2.2) I)⟩
  · rw [Z.r (ns _ (Or.inl rfl)), Z.l (ty_soTaken W tS)]
    exact I.2.2.1.2.1
  · unfold chS9
    rw [hO chSolver (by decide), hO chAtlas (by decide), hB.2.1]
    refine ⟨fun z => ?_, fun z => ?_⟩
    · obtain ⟨P, v1, v2, v3⟩ := V z
      refine ⟨ex, P, v2, fun m hm => ?_⟩
      rw [uq m hm]
      exact ⟨v1, v3⟩
    · rw [Z.i (ns _ (Or.inr (Or.inr rfl)))] at z
      obtain ⟨x1, x3⟩ := I.2.2.2.1.2 z
      refine ⟨x1, fun m hm => ?_⟩
      rw [uq m hm]
      have q := (Z.row W (show zr soWorths = some 25 by decide +kernel) (by decide) (tS.trans (by decide)) (ns _ (Or.inr (Or.inl rfl)))).2.2
      rw [q, Z.r (ns _ (Or.inr (Or.inl rfl))), Z.l (ty_soWorths W tS)]
      exact x3 n A
/-- behind makePlan -/
theorem ch_p9 {C : zC} {n0 a n : Nat} {L : Int} {ρ : Nat → Nat} {κ τ : zS} {v : Int32} (W : zW C n0 κ) (T : zT κ a = 15) (I : chI9 ρ κ a L) (ex : zI κ atExplored (zR κ chAtlas a) ≠ 0) (A : atW κ (zR κ chAtlas a) n) (q : mpP9 ρ κ τ (zR κ chSolver a) n v) : ∃ ρ', chI9 ρ' τ a L ∧ (∃ F, zF F κ τ) ∧ pB8 κ τ a := by
  obtain ⟨ρ', ⟨hρ, Z⟩, S, ⟨⟨w1, w2⟩, A'⟩, tk, V, wo, sp, ⟨l1, l2, l3⟩, kz⟩ := q
  have tA := ty_chAtlas W T
  have tS := ty_chSolver W T
  have tm := ty_chMachine W T
  have B := I.2.1
  have lk := I.2.2.1.2.2.1
  rw [lk.1] at A'
  rw [lk.2] at w1 w2
  have hu : ∀ x K, zT κ x = K → (K = 13 ∨ K = 5 ∨ K = 10 ∨ K = 7 ∨ K = 6 ∨ K = 15) → un9 (mpF9 ρ κ (zR κ chSolver a)) x K := fun x K h1 h2 f hf => mp_un9 W tS h1 (by omega) f hf (fun e => by
    have y : atPlan / 100 = 3 := rfl
    rw [e, y] at hf
    omega)
  have ma : maL κ (zR κ chMachine a) := by
    have y := B.1.2.1
    rw [B.2.1] at y
    exact y
  have hO : ∀ f, f / 100 = 15 → zR τ f a = zR κ f a := fun f hf => Z.r (hu a 15 T (by decide) f hf)
  have hB := chB_w9 W T Z (fun f hf _ _ => hO f hf) (mp_un9 W tS tA (by decide)) (hu _ 6 (ty_atStates W tA) (by decide)) (hu _ 6 (ty_atEndings W tA) (by decide)) (hu _ 5 (ty_atCode W tA) (by decide)) (ma_u9 Z W tm (hu _ 7 tm (by decide)) ma) ⟨w1, w2⟩ ⟨Or.inr A'.1, A'.2.1⟩ (fun _ => ⟨n, A'⟩) B
  have ns : ¬ mpF9 ρ κ (zR κ chSolver a) soVisits (zR κ chSolver a) := fun z => by
    rcases z with z | z | z | z | z | z | z
    · exact so_un9 (K := 12) (by decide) soVisits (by decide) z
    · have y := ty_soWeb W tS
      rw [← z, tS] at y; exact absurd y (by decide)
    · exact absurd z.2 (by decide)
    · exact absurd z.2 (by decide)
    · exact absurd z (by decide)
    · have y := zt_09 W (Or.inl z)
      rw [tS] at y; exact absurd y (by decide)
    · have y := zt_09 W (Or.inr z)
      rw [tS] at y; exact absurd y (by decide)
  have uq : ∀ m, atW τ (zR κ chAtlas a) m → m = n := fun m hm => by
    have y1 := hm.2.2.2.1
    have y2 := A'.2.2.2.1
    omega
  refine ⟨ρ', chI_b9 W T Z hu (mp_un9 W tS tA (by decide)) hB.1 ⟨hB.2.2.1 _ (by decide) (by decide), hB.2.2.1 _ (by decide) (by decide), hB.2.2.1 _ (by decide) (by decide)⟩ hρ ⟨S, tk, l1, l2, l3⟩ ?_ (odd_r9 W T Z (fun f hf => mp_un9 W tS (ty_chOdds W T) (by decide) f hf (fun e => by
    have y : atPlan / 100 = 3 := rfl
    rw [e, y] at hf
    omega)) hρ I) (cK_k9 W T Z (hO chSolver (by decide)) (hO chOdds (by decide)) (mp_un9 W tS (ty_chOdds W T) (by decide) odEdges rfl (by decide)) kz I.2.2.2.2.2.2.2) I⟩
  unfold chS9
  rw [hO chSolver (by decide), hO chAtlas (by decide), hB.2.1]
  refine ⟨fun z => ?_, fun z => ?_⟩
  · rcases sp with sp | sp
    · rw [sp.1] at z
      obtain ⟨x1, P, x2, x3⟩ := I.2.2.2.1.1 z
      refine ⟨x1, P, x2, fun m hm => ?_⟩
      rw [uq m hm]
      have y := x3 n A
      rcases V with V | V
      · refine ⟨V n P A.2.2.1 y.1, ?_⟩
        rw [Z.r ns, Z.l (ty_soVisits W tS)]
        exact y.2
      · rw [sp.1] at V
        exact absurd V z
    · exact absurd sp z
  · refine ⟨ex, fun m hm => ?_⟩
    rw [uq m hm]
    rcases wo with wo | wo
    · exact wo
    · rw [wo] at z ⊢
      exact (I.2.2.2.1.2 z).2 n A
theorem Ch_solve_c {C : zC} {n0 : Nat} {a0 : Nat} {κ : zS} {Q : Int32 → zS → Prop} {X : zXp} (W : zW C n0 κ) (Ta0 : zT κ a0 = 15) (ρ : Nat → Nat) (L9 : Int) (n9 : Nat) (hp : chI9 ρ κ a0 L9 ∧ (zI κ atExplored (zR κ chAtlas a0) ≠ 0 → atW κ (zR κ chAtlas a0) n9)) (h : ∀ (v : Int32) (κ' : zS), (∃ ρ', chI9 ρ' κ' a0 L9 ∧ (∃ F, zF F κ κ') ∧ pA8 κ κ' a0) → Q v κ') (hx : ∀ (cls : String) (κ' : zS), (cls = "java/lang/IllegalStateException" ∧ κ' = ut κ) → X cls κ') : zRun C 9 mCh_solve [.ref a0] κ (oI Q X) := by
  refine Ch_solve_run W Ta0 ?_
  replace W := W.lo (Nat.le_trans W.1.2.1 W.1.2.2) (Nat.le_refl (zn κ))
  unfold w_Ch_solve_0
  refine ⟨fun c1 => ?_, fun c1 => ?_⟩
  · skip
    intro T2
    refine So_findVisitz_c W T2 ρ n9 ?_ (fun r3 κ_4 q5 => ?_)
    · have lk := hp.1.2.2.1.2.2.1
      refine ⟨hp.1.2.2.1.1, ?_, by rw [lk.1]; exact hp.2 c1⟩
      rw [lk.2]
      exact hp.1.2.1.1.2.2.1
    intro W6
    intro M7
    refine h _ _ ?_
    · exact ch_v9 W Ta0 hp.1 c1 (hp.2 c1) q5  -- q2
  · skip
    intro κ_8 hκ_8
    refine hx _ _ ?_
    · exact ⟨rfl, hκ_8⟩  -- x3

theorem Ch_best_c {C : zC} {n0 : Nat} {a0 : Nat} {κ : zS} {Q : Int32 → zS → Prop} {X : zXp} (W : zW C n0 κ) (Ta0 : zT κ a0 = 15) (ρ : Nat → Nat) (L9 : Int) (n9 : Nat) (hp : chI9 ρ κ a0 L9 ∧ (zI κ atExplored (zR κ chAtlas a0) ≠ 0 → atW κ (zR κ chAtlas a0) n9)) (h : ∀ (v : Int32) (κ' : zS), (∃ ρ', chI9 ρ' κ' a0 L9 ∧ (∃ F, zF F κ κ') ∧ pB8 κ κ' a0) → Q v κ') (hx : ∀ (cls : String) (κ' : zS), (cls = "java/lang/IllegalStateException" ∧ κ' = ut κ) → X cls κ') : zRun C 9 mCh_best [.ref a0] κ (oI Q X) := by
  refine Ch_best_run W Ta0 ?_
  replace W := W.lo (Nat.le_trans W.1.2.1 W.1.2.2) (Nat.le_refl (zn κ))
  unfold w_Ch_best_0
  refine ⟨fun c1 => ?_, fun c1 => ?_⟩
  · skip
    intro T2
    refine So_makePlanz_c W T2 ρ n9 ?_ (fun r3 κ_4 q5 => ?_)
    · have lk := hp.1.2.2.1.2.2.1
      refine ⟨hp.1.2.2.1.1, ?_, by rw [lk.1]; exact hp.2 c1, hp.1.2.2.1.2.1⟩
      rw [lk.2]
      exact hp.1.2.1.1.2.2.1
    intro W6
    intro M7
    refine h _ _ ?_
    · exact ch_p9 W Ta0 hp.1 c1 (hp.2 c1) q5  -- q2
  · skip
    intro κ_8 hκ_8
    refine hx _ _ ?_
    · exact ⟨rfl, hκ_8⟩  -- x3

end
section
set_option maxHeartbeats 1600000
/-! the class: ChanceWorks' independent, given -/
/-- behind arrange -/
theorem chI_a9 {C : zC} {n0 a : Nat} {L : Int} {ρ : Nat → Nat} {κ τ : zS} (W : zW C n0 κ) (T : zT κ a = 15) (Z : zF (arO9 (zR κ chOdds a) (zR κ odGroups (zR κ chOdds a))) κ τ) (hG : hoI τ (zR κ odGroups (zR κ chOdds a)) 3000 3 8192 ∧ (zN τ (zR τ odKey (zR κ chOdds a))) = 3) (hT : tbL9 τ (zR κ chOdds a) ∧ (zN τ (zR τ odLinks (zR κ chOdds a))) ≤ 20000) (hE : eO9 κ τ (zR κ chOdds a)) (I : chI9 ρ κ a L) : (chI9 ρ τ a L ∧ (∃ F, zF F κ τ) ∧ pC8 κ τ a) ∧ (∀ n, atW τ (zR κ chAtlas a) n ↔ atW κ (zR κ chAtlas a) n) ∧ zI τ soSolved (zR κ chSolver a) = zI κ soSolved (zR κ chSolver a) ∧ (∀ f, f / 100 = 15 → zR τ f a = zR κ f a) := by
  obtain ⟨⟨A1, ⟨⟨A2, A3⟩, A4⟩, A5, A6⟩, B, ⟨C1, C2, C3, C4⟩, ⟨S1, S2⟩, ⟨D1, D2, D3, ⟨D4, D5⟩, D6, D7⟩, E0, L0, K0⟩ := I
  have tA := ty_chAtlas W T
  have tS := ty_chSolver W T
  have tO := ty_chOdds W T
  have tm := ty_chMachine W T
  have tG := ty_odGroups W tO
  have n6 : ∀ x K, zT κ x = K → K ≠ 9 → x ≠ zR κ odGroups (zR κ chOdds a) → ∀ f, ¬ arO9 (zR κ chOdds a) (zR κ odGroups (zR κ chOdds a)) f x := fun x K h1 h2 h3 f z => by
    rcases z with z | z
    · rw [z.1, tO] at h1; exact h2 h1.symm
    · exact h3 z.1
  have no : ∀ x K, zT κ x = K → K ≠ 9 ∧ K ≠ 6 → ∀ f, ¬ arO9 (zR κ chOdds a) (zR κ odGroups (zR κ chOdds a)) f x := fun x K h1 h2 => n6 x K h1 h2.1 (fun e => by rw [e, tG] at h1; exact h2.2 h1.symm)
  have nO : ∀ f, f < 905 → ¬ arO9 (zR κ chOdds a) (zR κ odGroups (zR κ chOdds a)) f (zR κ chOdds a) := fun f hf z => by
    rcases z with z | z
    · have y := z.2.1
      omega
    · have y := z.1
      rw [← y, tO] at tG; exact absurd tG (by decide)
  have E := chE_u9 W T Z (fun f _ => no a 15 T (by decide) f) E0
  have o := E.2.1
  have ma : maL κ (zR κ chMachine a) := by
    have y := B.1.2.1
    rw [B.2.1] at y
    exact y
  have hB := chB_u9 W T Z (fun f hf _ _ => o f hf) (fun f _ => no _ 3 tA (by decide) f) (fun f _ => n6 _ 6 (ty_atStates W tA) (by decide) D7.1 f) (fun f _ => n6 _ 6 (ty_atEndings W tA) (by decide) D7.2 f) (fun f _ => no _ 14 (ty_atWeb W tA) (by decide) f) (fun _ f _ => no _ 5 (ty_atCode W tA) (by decide) f) (ma_u9 Z W tm (fun f _ => no _ 7 tm (by decide) f) ma) B
  have nS : ∀ f, ¬ arO9 (zR κ chOdds a) (zR κ odGroups (zR κ chOdds a)) f (zR κ chSolver a) := no _ 12 tS (by decide)
  have hS := rs_h9 W tS C1 Z (fun f w y => no w 8 y (by decide) f) (fun f w y => no w 11 y (by decide) f) (fun f w y => no w 4 y (by decide) f) (fun f _ _ => nS f)
  have P := pa_u9 Z W (ty_chParser W T) (fun f _ => no _ 10 (ty_chParser W T) (by decide) f) A5
  have K1 := co_u9 Z W (ty_chCode W T) (fun f _ => no _ 5 (ty_chCode W T) (by decide) f)
  have K2 := co_u9 Z W (ty_chSpare W T) (fun f _ => no _ 5 (ty_chSpare W T) (by decide) f)
  have A := ta_u9 Z W (ty_chTape W T) (fun f _ => no _ 13 (ty_chTape W T) (by decide) f) A1
  have rS : ∀ f, zR τ f (zR κ chSolver a) = zR κ f (zR κ chSolver a) := fun f => Z.r (nS f)
  have iS : ∀ f, zI τ f (zR κ chSolver a) = zI κ f (zR κ chSolver a) := fun f => Z.i (nS f)
  have nv : zN τ (zR κ soVisits (zR κ chSolver a)) = zN κ (zR κ soVisits (zR κ chSolver a)) := Z.l (ty_soVisits W tS)
  have qw := (Z.row W (show zr soWorths = some 25 by decide +kernel) (by decide) (tS.trans (by decide)) (nS _)).2.2
  rw [rS] at qw
  have nw : zN τ (zR κ soWorths (zR κ chSolver a)) = zN κ (zR κ soWorths (zR κ chSolver a)) := Z.l (ty_soWorths W tS)
  refine ⟨⟨⟨⟨?_, ?_, ?_⟩, hB.1, ?_, ?_, ?_, E.1, ?_, ?_⟩, ⟨_, Z⟩, ⟨pC_v7 W T Z (fun f _ => no a 15 T (by decide) f) (fun f _ => no _ 13 (ty_chTape W T) (by decide) f) (fun f _ => no _ 5 (ty_chCode W T) (by decide) f), kA_z7 W T Z (no a 15 T (by decide) _) (fun f _ _ => no _ 3 tA (by decide) f) (fun f _ => n6 _ 6 (ty_atStates W tA) (by decide) D7.1 f) (fun f _ => n6 _ 6 (ty_atEndings W tA) (by decide) D7.2 f), kA_u16 W T Z (fun f x z => by
    rcases z with z | z
    · rw [z.1, tO]; decide
    · rw [z.1, tG]; decide) (fun f _ => no a 15 T (by decide) f)⟩⟩, hB.2.1, iS _, o⟩
  · rw [o chTape (by decide)]; exact A.1
  · rw [o chCode (by decide), o chSpare (by decide)]
    exact ⟨⟨K1.1 A2, K2.1 A3⟩, A4⟩
  · rw [o chParser (by decide), o chTape (by decide)]
    exact ⟨P.1, P.2.trans A6⟩
  · unfold chC9
    rw [o chSolver (by decide), o chAtlas (by decide), o chShown (by decide), rS, rS, rS, Z.l (ty_soTaken W tS), hB.2.2.2 atWeb (by decide)]
    exact ⟨hS.1, C2, C3, C4⟩
  · unfold chS9
    rw [o chSolver (by decide), o chAtlas (by decide), iS, iS, rS, rS, nv, nw, qw, hB.2.2.1]
    refine ⟨fun z => ?_, fun z => ?_⟩
    · obtain ⟨x1, P9, x2, x3⟩ := S1 z
      refine ⟨x1, P9, x2, fun n hn => ?_⟩
      have y := x3 n ((hB.2.1 n).mp hn)
      exact ⟨vs_h9 W tS Z (fun f w y => no w 8 y (by decide) f) (fun f w y => no w 11 y (by decide) f) (fun f w y => no w 3 y (by decide) f) nS y.1, y.2⟩
    · obtain ⟨x1, x3⟩ := S2 z
      exact ⟨x1, fun n hn => x3 n ((hB.2.1 n).mp hn)⟩
  · unfold chD9
    rw [o chSolver (by decide), o chAtlas (by decide), o chOdds (by decide), Z.r (nO odAtlas (by decide)), Z.r (nO odSolver (by decide)), Z.r (nO odCalc (by decide)), Z.r (nO odHeld (by decide)), Z.r (nO odGroups (by decide)), rS, hB.2.2.2 atStates (by decide), hB.2.2.2 atEndings (by decide)]
    exact ⟨D1, D2, ⟨Or.inr hT.1, hT.2⟩, hG, fun j u hj hu => D6 j u hj (hE.1 j u hu), D7⟩
  · rw [o chTape (by decide), A.2]; exact L0
  · exact cK_z9 W T Z (o chSolver (by decide)) (o chOdds (by decide)) (fun b hb => no b 0 (zT_o9 W hb) (by decide) 0) (fun f _ => nS f) hE.2 K0
/-- a Solver at rest, whose rows are not touched, with roles that grew -/
theorem soR_r9 {C : zC} {n0 s : Nat} {ρ ρ' : Nat → Nat} {F : Nat → Nat → Prop} {κ τ : zS} (W : zW C n0 κ) (Ts : zT κ s = 12) (Z : zF F κ τ) (n : un9 F s 12) (hρ : ∀ b, b < zn κ → ρ' b = ρ b) (N : nmI ρ' τ ∧ soI ρ' τ s) (hl : nuN τ (zR τ soLess s) < pB9 4000) (S : soR9 ρ κ s) : soR9 ρ' τ s := by
  obtain ⟨_, K, L, ⟨v1, v2⟩, ⟨w1, w2⟩, r, _⟩ := S
  have lt : ∀ x, zT κ x ≠ 0 → x < zn κ := fun x h => (W.2.1 x h).2
  have row : ∀ f t, zr f = some t → 20 ≤ t → f / 100 = 12 → zQ τ (zR τ f s) = zQ κ (zR κ f s) ∧ zN τ (zR τ f s) = zN κ (zR κ f s) := fun f t h1 h2 h3 => by
    have T9 : zT κ s = f / 100 := by rw [h3]; exact Ts
    refine ⟨(Z.row W h1 h2 T9 (n f h3)).2.2, ?_⟩
    have q := W.r h1 T9
    obtain ⟨c, hc⟩ : ∃ c, t = c + 1 := ⟨t - 1, by omega⟩
    rw [Z.r (n f h3)]
    exact Z.l (c := c) (q.trans hc)
  have rv := row soVisits 25 (by decide +kernel) (by decide) (by decide)
  have rw9 := row soWorths 25 (by decide +kernel) (by decide) (by decide)
  have rc := row soCells 24 (by decide +kernel) (by decide) (by decide)
  have rr := row soRows 20 (by decide +kernel) (by decide) (by decide)
  refine ⟨N, fun i u hi hu => ?_, by rw [rc.2]; exact L, ⟨fun j u hj hu => ?_, by rw [rv.2]; exact v2⟩, ⟨fun j u hj hu => ?_, by rw [rw9.2]; exact w2⟩, by rw [rr.2]; exact r, hl⟩
  · rw [rc.1] at hu
    have t := W.2.2.2.1 _ _ _ (ty_soCells W Ts) hu
    rw [hρ u (lt u (by rw [t]; decide))]
    exact K i u hi hu
  · rw [rv.1] at hu
    have t := W.2.2.2.2.1 _ _ _ (ty_soVisits W Ts) hu
    rw [hρ u (lt u (by rw [t]; decide))]
    exact v1 j u hj hu
  · rw [rw9.1] at hu
    have t := W.2.2.2.2.1 _ _ _ (ty_soWorths W Ts) hu
    rw [hρ u (lt u (by rw [t]; decide))]
    exact w1 j u hj hu
/-- behind tablesAgree -/
theorem ch_g9 {C : zC} {n0 a n P : Nat} {L : Int} {ρ ρ' : Nat → Nat} {κ τ : zS} (W : zW C n0 κ) (T : zT κ a = 15) (I : chI9 ρ κ a L) (hP : 0 < P ∧ P < pB9 1490) (G : roH9 ρ κ τ (zR κ chOdds a) n P ρ') (sol : zI κ soSolved (zR κ chSolver a) ≠ 0) : chI9 ρ' τ a L ∧ (∃ F, zF F κ τ) ∧ pC8 κ τ a := by
  obtain ⟨hρ, A, Z, e9, ke⟩ := G
  have tA := ty_chAtlas W T
  have tS := ty_chSolver W T
  have tO := ty_chOdds W T
  have tm := ty_chMachine W T
  have B := I.2.1
  obtain ⟨⟨d1, d2, d3⟩, D2, D3, ⟨D4, D5⟩, D6, D7⟩ := I.2.2.2.2.1
  have un : ∀ x K, zT κ x = K → (K ≠ 8 ∧ K ≠ 11 ∧ K ≠ 4) ∧ K ≠ 9 ∧ K ≠ 0 → un9 (roF9 ρ κ (zR κ chOdds a)) x K := fun x K h1 h2 f hf => ro_n9 (c := K - 1) W (by omega) (by rw [hf]; exact h2.1) (fun e => by
    have y : odEdges / 100 = 9 := rfl
    rw [e, y] at hf
    omega)
  have hO : ∀ f, f / 100 = 15 → zR τ f a = zR κ f a := fun f hf => Z.r (un a 15 T (by decide) f hf)
  have ma : maL κ (zR κ chMachine a) := by
    have y := B.1.2.1
    rw [B.2.1] at y
    exact y
  have hB := chB_u9 W T Z (fun f hf _ _ => hO f hf) (un _ 3 tA (by decide)) (un _ 6 (ty_atStates W tA) (by decide)) (un _ 6 (ty_atEndings W tA) (by decide)) (un _ 14 (ty_atWeb W tA) (by decide)) (fun _ => un _ 5 (ty_atCode W tA) (by decide)) (ma_u9 Z W tm (un _ 7 tm (by decide)) ma) B
  have rO : ∀ f, f / 100 = 9 → zR τ f (zR κ chOdds a) = zR κ f (zR κ chOdds a) := fun f hf => e9 f (Or.inl hf) _ 8 tO
  have rS : ∀ f, f / 100 = 12 → zR τ f (zR κ chSolver a) = zR κ f (zR κ chSolver a) := fun f hf => e9 f (Or.inr hf) _ 11 tS
  have nS := un _ 12 tS (by decide)
  have iS : ∀ f, f / 100 = 12 → zI τ f (zR κ chSolver a) = zI κ f (zR κ chSolver a) := fun f hf => Z.i (nS f hf)
  have NM := I.2.2.1.1.1.1
  have nr : ∀ f u, zT κ u = 11 → 30 ≤ ρ u → ρ u < 2000000 → ¬ roF9 ρ κ (zR κ chOdds a) f u := fun f u tu r0 r1 z => by
    rcases z with (z | z) | z | z
    · have := z.1; omega
    · have y := ty_odCalc W tO
      rw [← z.1, tu] at y
      exact absurd y (by decide)
    · rw [z.2, tO] at tu; exact absurd tu (by decide)
    · have := (W.2.1 u (by rw [tu]; decide)).2; omega
  have n8 : ∀ f b, zT κ b = 8 → 30 ≤ ρ b → ρ b < 2000000 → ¬ roF9 ρ κ (zR κ chOdds a) f b := fun f b tu r0 r1 z => by
    rcases z with (z | z) | z | z
    · have := z.1; omega
    · have y := ty_odCalc W tO
      rw [← z.1, tu] at y
      exact absurd y (by decide)
    · rw [z.2, tO] at tu; exact absurd tu (by decide)
    · have := (W.2.1 b (by rw [tu]; decide)).2; omega
  have fk : ∀ u q, raR (ρ u) → 30 ≤ ρ u → ρ u < 900000 → fr16 κ u q → fr16 τ u q := fun u q hr r0 r1 z => rq_o16 W NM Z hr (fun f => nr f u z.1 r0 (by omega)) (fun f b tb hb => n8 f b tb (by omega) (by omega)) z
  have kg9 : kA16 κ τ a := by
    have rs9 := hO chSolver (by decide)
    have sS := I.2.2.1.1
    refine ⟨⟨by rw [rs9, iS soSolved (by decide)], fun k q hk z => ?_⟩, ⟨by rw [rs9, iS soPlanned (by decide)], fun k q hk z => ?_⟩, fun q z => ?_, dr_o16 W T Z (un a 15 T (by decide) _ (by decide)) (un a 15 T (by decide) _ (by decide))⟩
    · rw [rs9, vw_z16 W tS Z (nS _ (by decide)) k]
      have e := vu_p16 W sS hk z
      exact fk _ _ (by rw [e]; unfold raR; omega) (by omega) (by omega) z
    · rw [rs9, ww_z16 W tS Z (nS _ (by decide)) k]
      have e := wu_p16 W sS hk z
      exact fk _ _ (by rw [e]; unfold raR; omega) (by omega) (by omega) z
    · rw [hO chShown (by decide)]
      have e := I.2.2.1.2.2.2
      exact fk _ _ (by rw [e]; unfold raR; omega) (by omega) (by omega) z
  obtain ⟨N, X, ⟨l1, _, _⟩, ⟨_, lL⟩, Eg, _⟩ := A
  rw [rO odSolver (by decide), d2] at N lL
  obtain ⟨_, _, ⟨x4, x5⟩, x6, _, _⟩ := X
  rw [rO odSolver (by decide), d2] at x5 x6
  rw [rO odAtlas (by decide), d1] at x4
  have qw := (Z.row W (show zr soWorths = some 25 by decide +kernel) (by decide) (tS.trans (by decide)) (nS _ (by decide))).2.2
  rw [rS soWorths (by decide)] at qw
  refine pC_b8 ⟨kA_z7 W T Z (un a 15 T (by decide) _ (by decide)) (fun f hf _ => un _ 3 tA (by decide) f hf) (un _ 6 (ty_atStates W tA) (by decide)) (un _ 6 (ty_atEndings W tA) (by decide)), kg9⟩ (chI_b9 W T Z (fun x K h1 h2 => un x K h1 (by omega)) (fun f hf _ => un _ 3 tA (by decide) f hf) hB.1 ⟨hB.2.2.2 _ (by decide), hB.2.2.2 _ (by decide), hB.2.2.2 _ (by decide)⟩ hρ ⟨soR_r9 W tS Z nS hρ N lL I.2.2.1.1, ?_, rS _ (by decide), rS _ (by decide), rS _ (by decide)⟩ ?_ ⟨rO, ⟨Or.inr l1, ?_, ?_⟩, fun j u hj hu => Eg j u hj (by rw [rO odEdges (by decide)]; exact hu)⟩ (cK_e9 W T Z (hO chSolver (by decide)) (hO chOdds (by decide)) (fun f hf => nS f (by rcases hf with y | y | y <;> rw [y] <;> rfl)) ke I.2.2.2.2.2.2.2) I)
  · rw [rS soTaken (by decide), Z.l (ty_soTaken W tS)]
    exact I.2.2.1.2.1
  · unfold chS9
    rw [hO chSolver (by decide), hO chAtlas (by decide), hB.2.2.1, iS soPlanned (by decide), rS soWorths (by decide), qw, Z.l (ty_soWorths W tS)]
    refine ⟨fun z => ⟨(I.2.2.2.1.1 sol).1, P, hP, fun m hm => ?_⟩, fun z => ?_⟩
    · have e : m = n := by
        have y1 := hm.2.2.2.1
        have y2 := x4.2.2.2.1
        omega
      rw [e]
      exact ⟨x6, x5⟩
    · obtain ⟨y1, y3⟩ := I.2.2.2.1.2 z
      exact ⟨y1, fun m hm => y3 m ((hB.2.1 m).mp hm)⟩
  · rw [rO odLinks (by decide), Z.l (ty_odLinks W tO)]
    exact D3.2
  · rw [rO odKey (by decide), Z.l (ty_odKey W tO)]
    exact D5
/-- what arrange needs -/
theorem ar_p9 {a n P : Nat} {L : Int} {ρ : Nat → Nat} {κ : zS} (I : chI9 ρ κ a L) (sol : zI κ soSolved (zR κ chSolver a) ≠ 0) (X : odX9 ρ κ (zR κ chOdds a) n P) : odX9 ρ κ (zR κ chOdds a) n P ∧ ((odU9 κ (zR κ chOdds a) ∨ tbL9 κ (zR κ chOdds a)) ∧ (zN κ (zR κ odLinks (zR κ chOdds a))) ≤ 20000 ∧ 0 ≤ (zI κ atNexts (zR κ odAtlas (zR κ chOdds a))).toInt) ∧ (hoI κ (zR κ odGroups (zR κ chOdds a)) 3000 3 8192 ∧ (zN κ (zR κ odKey (zR κ chOdds a))) = 3) ∧ (zR κ atStates (zR κ odAtlas (zR κ chOdds a)) ≠ zR κ odGroups (zR κ chOdds a) ∧ zR κ atEndings (zR κ odAtlas (zR κ chOdds a)) ≠ zR κ odGroups (zR κ chOdds a)) := by
  obtain ⟨⟨d1, d2, d3⟩, D2, D3, D4, D6, D7⟩ := I.2.2.2.2.1
  have ex := (I.2.2.2.1.1 sol).1
  rw [d1]
  exact ⟨X, ⟨D3.1, D3.2, (I.2.1.2.2 ex).1.2⟩, D4, D7⟩
/-- what tablesAgree needs -/
theorem ta_p9 {C : zC} {n0 a n m P : Nat} {L : Int} {ρ : Nat → Nat} {κ : zS} (W : zW C n0 κ) (T : zT κ a = 15) (I : chI9 ρ κ a L) (X : odX9 ρ κ (zR κ chOdds a) n P ∧ (0 < P ∧ P < pB9 1490)) (G : agP9 κ (zR κ chOdds a) m) (e : m = n) : agD9 ρ κ (zR κ chOdds a) n P ∧ (0 < P ∧ P < pB9 1490) ∧ (grI9 κ (zR κ chOdds a) ∧ gI9 κ (zR κ chOdds a) 1000 1000) ∧ (∃ c : Int, c ≤ 1000 ∧ plC9 κ κ (zR κ chOdds a) ((zI κ hoTotal (zR κ odGroups (zR κ chOdds a))).toInt) c) := by
  subst e
  obtain ⟨⟨d1, d2, d3⟩, D2, D3, D4, D6, D7⟩ := I.2.2.2.2.1
  obtain ⟨⟨g1, g2, g3⟩, g4, g5, g6⟩ := G
  have S := I.2.2.1.1
  refine ⟨⟨?_, X.1, ⟨g2, g4, g5⟩, ⟨trivial, ?_⟩, D6, ?_⟩, X.2, ⟨g1, g3⟩, g6⟩
  · rw [d2]; exact S.1
  · rw [d2]; exact S.2.2.2.2.2.2
  · rw [d1]; exact D7
theorem Ch_independent_c {C : zC} {n0 : Nat} {a0 : Nat} {a1 : Int32} {a2 : Int32} {κ : zS} {Q : Int32 → zS → Prop} {X : zXp} (W : zW C n0 κ) (Ta0 : zT κ a0 = 15) (ρ : Nat → Nat) (L9 : Int) (hp : chI9 ρ κ a0 L9) (h : ∀ (v : Int32) (κ' : zS), (∃ ρ', chI9 ρ' κ' a0 L9 ∧ (∃ F, zF F κ κ') ∧ pC8 κ κ' a0) → Q v κ') (hx : ∀ (cls : String) (κ' : zS), ((cls = "java/lang/IllegalStateException" ∨ cls = "java/lang/IndexOutOfBoundsException") ∧ κ' = ut κ) → X cls κ') : zRun C 9 mCh_independent [.ref a0, .int a1, .int a2] κ (oI Q X) := by
  refine Ch_independent_run W Ta0 ?_
  replace W := W.lo (Nat.le_trans W.1.2.1 W.1.2.2) (Nat.le_refl (zn κ))
  unfold w_Ch_independent_0
  obtain ⟨n9, P9, hX⟩ := ch_o9 hp
  refine ⟨fun c1 => ?_, fun c1 => ?_⟩
  · skip
    intro T2
    refine Co_isShared_c W T2  ?_ (fun r3 q5 => ?_)
    · exact hp.1.2.1.1.1  -- p1
    intro W6
    intro M7
    refine ⟨fun c8 => ?_, fun c8 => ?_⟩
    · skip
      intro κ_9 hκ_9
      refine hx _ _ ?_
      · exact ⟨Or.inr rfl, hκ_9⟩  -- x2
    · skip
      intro T10
      refine Co_isShared_c W6 T10  ?_ (fun r11 q13 => ?_)
      · exact hp.1.2.1.1.1  -- p3
      intro W14
      intro M15
      refine ⟨fun c16 => ?_, fun c16 => ?_⟩
      · skip
        intro T17
        refine Od_arrange_c W14 T17 ρ n9 P9 ?_ (fun r18 κ_19 q20 => ?_)
        · exact ar_p9 hp c1 (hX c1).1  -- p4
        intro W21
        intro M22
        refine ⟨fun c23 => ?_, fun c23 => ?_⟩
        · skip
          refine h _ _ ?_
          · exact ⟨ρ, (chI_a9 W Ta0 q20.2.1 q20.2.2.1 q20.2.2.2.1 q20.2.2.2.2.1 hp).1⟩  -- q5
        · skip
          intro T24
          have R := chI_a9 W Ta0 q20.2.1 q20.2.2.1 q20.2.2.2.1 q20.2.2.2.2.1 hp
          have ro : zR κ_19 chOdds a0 = zR κ chOdds a0 := R.2.2.2 chOdds (by decide)
          have rs : zR κ_19 chSolver a0 = zR κ chSolver a0 := R.2.2.2 chSolver (by decide)
          have ra : zR κ_19 chAtlas a0 = zR κ chAtlas a0 := R.2.2.2 chAtlas (by decide)
          have I9 := R.1.1
          have T19 := q20.2.1.t Ta0 (by decide)
          obtain ⟨n8, P8, hX8⟩ := ch_o9 I9
          have sol9 : zI κ_19 soSolved (zR κ_19 chSolver a0) ≠ 0 := by rw [rs, R.2.2.1]; exact c1
          have Y := hX8 sol9
          have en : n9 = n8 := by
            have y1 := (hX c1).2.2.1.2.2.2.1
            have y2 := ((R.2.1 n8).mp (by rw [← ra]; exact Y.2.2.1)).2.2.2.1
            omega
          refine Od_tablesAgree_c W21 T24 ρ n8 P8 ?_ (fun r25 κ_26 q27 => ?_)
          · exact ta_p9 W21 T19 I9 ⟨Y.1, Y.2.1⟩ (by rw [ro]; exact q20.2.2.2.2.2 c23) en  -- p6
          intro W28
          intro M29
          refine ⟨fun c30 => ?_, fun c30 => ?_⟩
          · skip
            refine h _ _ ?_
            · obtain ⟨_, ρ2, G⟩ := q27
              have K := ch_g9 W21 T19 I9 Y.2.1 G sol9
              obtain ⟨F1, Z1⟩ := R.1.2.1
              obtain ⟨F2, Z2⟩ := K.2.1
              exact ⟨ρ2, K.1, ⟨fun _ _ => True, (Z1.mono (fun _ _ _ => trivial)).tr (Z2.mono (fun _ _ _ => trivial))⟩, pC_t8 R.1.2.2 K.2.2⟩
          · skip
            refine h _ _ ?_
            · obtain ⟨_, ρ2, G⟩ := q27
              have K := ch_g9 W21 T19 I9 Y.2.1 G sol9
              obtain ⟨F1, Z1⟩ := R.1.2.1
              obtain ⟨F2, Z2⟩ := K.2.1
              exact ⟨ρ2, K.1, ⟨fun _ _ => True, (Z1.mono (fun _ _ _ => trivial)).tr (Z2.mono (fun _ _ _ => trivial))⟩, pC_t8 R.1.2.2 K.2.2⟩
      · skip
        intro κ_31 hκ_31
        refine hx _ _ ?_
        · exact ⟨Or.inr rfl, hκ_31⟩  -- x9
  · skip
    intro κ_32 hκ_32
    refine hx _ _ ?_
    · exact ⟨Or.inl rfl, hκ_32⟩  -- x10

theorem Ch_given_c {C : zC} {n0 : Nat} {a0 : Nat} {a1 : Int32} {a2 : Int32} {a3 : Int32} {κ : zS} {Q : Int32 → zS → Prop} {X : zXp} (W : zW C n0 κ) (Ta0 : zT κ a0 = 15) (ρ : Nat → Nat) (L9 : Int) (hp : chI9 ρ κ a0 L9) (h : ∀ (v : Int32) (κ' : zS), (∃ ρ', chI9 ρ' κ' a0 L9 ∧ (∃ F, zF F κ κ') ∧ pC8 κ κ' a0) → Q v κ') (hx : ∀ (cls : String) (κ' : zS), ((cls = "java/lang/IllegalStateException" ∨ cls = "java/lang/IndexOutOfBoundsException") ∧ κ' = ut κ) → X cls κ') : zRun C 9 mCh_given [.ref a0, .int a1, .int a2, .int a3] κ (oI Q X) := by
  refine Ch_given_run W Ta0 ?_
  replace W := W.lo (Nat.le_trans W.1.2.1 W.1.2.2) (Nat.le_refl (zn κ))
  unfold w_Ch_given_0
  obtain ⟨n9, P9, hX⟩ := ch_o9 hp
  refine ⟨fun c1 => ?_, fun c1 => ?_⟩
  · skip
    intro T2
    refine Co_isShared_c W T2  ?_ (fun r3 q5 => ?_)
    · exact hp.1.2.1.1.1  -- p1
    intro W6
    intro M7
    refine ⟨fun c8 => ?_, fun c8 => ?_⟩
    · skip
      intro κ_9 hκ_9
      refine hx _ _ ?_
      · exact ⟨Or.inr rfl, hκ_9⟩  -- x2
    · skip
      intro T10
      refine Co_isShared_c W6 T10  ?_ (fun r11 q13 => ?_)
      · exact hp.1.2.1.1.1  -- p3
      intro W14
      intro M15
      refine ⟨fun c16 => ?_, fun c16 => ?_⟩
      · skip
        intro κ_17 hκ_17
        refine hx _ _ ?_
        · exact ⟨Or.inr rfl, hκ_17⟩  -- x4
      · skip
        intro T18
        refine Co_isShared_c W14 T18  ?_ (fun r19 q21 => ?_)
        · exact hp.1.2.1.1.1  -- p5
        intro W22
        intro M23
        refine ⟨fun c24 => ?_, fun c24 => ?_⟩
        · skip
          intro T25
          refine Od_arrange_c W22 T25 ρ n9 P9 ?_ (fun r26 κ_27 q28 => ?_)
          · exact ar_p9 hp c1 (hX c1).1  -- p6
          intro W29
          intro M30
          refine ⟨fun c31 => ?_, fun c31 => ?_⟩
          · skip
            refine h _ _ ?_
            · exact ⟨ρ, (chI_a9 W Ta0 q28.2.1 q28.2.2.1 q28.2.2.2.1 q28.2.2.2.2.1 hp).1⟩  -- q7
          · skip
            intro T32
            have R := chI_a9 W Ta0 q28.2.1 q28.2.2.1 q28.2.2.2.1 q28.2.2.2.2.1 hp
            have ro : zR κ_27 chOdds a0 = zR κ chOdds a0 := R.2.2.2 chOdds (by decide)
            have rs : zR κ_27 chSolver a0 = zR κ chSolver a0 := R.2.2.2 chSolver (by decide)
            have ra : zR κ_27 chAtlas a0 = zR κ chAtlas a0 := R.2.2.2 chAtlas (by decide)
            have I9 := R.1.1
            have T19 := q28.2.1.t Ta0 (by decide)
            obtain ⟨n8, P8, hX8⟩ := ch_o9 I9
            have sol9 : zI κ_27 soSolved (zR κ_27 chSolver a0) ≠ 0 := by rw [rs, R.2.2.1]; exact c1
            have Y := hX8 sol9
            have en : n9 = n8 := by
              have y1 := (hX c1).2.2.1.2.2.2.1
              have y2 := ((R.2.1 n8).mp (by rw [← ra]; exact Y.2.2.1)).2.2.2.1
              omega
            refine Od_tablesAgree_c W29 T32 ρ n8 P8 ?_ (fun r33 κ_34 q35 => ?_)
            · exact ta_p9 W29 T19 I9 ⟨Y.1, Y.2.1⟩ (by rw [ro]; exact q28.2.2.2.2.2 c31) en  -- p8
            intro W36
            intro M37
            refine ⟨fun c38 => ?_, fun c38 => ?_⟩
            · skip
              refine h _ _ ?_
              · obtain ⟨_, ρ2, G⟩ := q35
                have K := ch_g9 W29 T19 I9 Y.2.1 G sol9
                obtain ⟨F1, Z1⟩ := R.1.2.1
                obtain ⟨F2, Z2⟩ := K.2.1
                exact ⟨ρ2, K.1, ⟨fun _ _ => True, (Z1.mono (fun _ _ _ => trivial)).tr (Z2.mono (fun _ _ _ => trivial))⟩, pC_t8 R.1.2.2 K.2.2⟩
            · skip
              refine h _ _ ?_
              · obtain ⟨_, ρ2, G⟩ := q35
                have K := ch_g9 W29 T19 I9 Y.2.1 G sol9
                obtain ⟨F1, Z1⟩ := R.1.2.1
                obtain ⟨F2, Z2⟩ := K.2.1
                exact ⟨ρ2, K.1, ⟨fun _ _ => True, (Z1.mono (fun _ _ _ => trivial)).tr (Z2.mono (fun _ _ _ => trivial))⟩, pC_t8 R.1.2.2 K.2.2⟩
        · skip
          intro κ_39 hκ_39
          refine hx _ _ ?_
          · exact ⟨Or.inr rfl, hκ_39⟩  -- x11
  · skip
    intro κ_40 hκ_40
    refine hx _ _ ?_
    · exact ⟨Or.inl rfl, hκ_40⟩  -- x12

end
section
set_option maxHeartbeats 1600000
/-! the class: next, ending by what they answer -/
theorem At_holds_c8 {C : zC} {n0 : Nat} {a0 : Nat} {a1 : Int32} {κ : zS} {Q : Int32 → zS → Prop} (W : zW C n0 κ) (Ta0 : zT κ a0 = 3)  (h : ∀ (v : Int32), (nb v ∧ (v ≠ 0 ↔ zI κ atExplored a0 ≠ 0 ∧ 0 ≤ a1.toInt ∧ a1.toInt < (zI κ hoTotal (zR κ atStates a0)).toInt)) → Q v κ) : zRun C 0 mAt_holds [.ref a0, .int a1] κ (oI Q noX) := by
  refine At_holds_run W Ta0 ?_
  replace W := W.lo (Nat.le_trans W.1.2.1 W.1.2.2) (Nat.le_refl (zn κ))
  unfold w_At_holds_0
  refine ⟨fun c1 => ?_, fun c1 => ?_⟩
  · refine h _ ⟨nb_0, fun z => absurd rfl z, fun z => absurd c1 z.1⟩
  · refine ⟨fun c2 => ?_, fun c2 => ?_⟩
    · refine h _ ⟨nb_0, fun z => absurd rfl z, fun z => ?_⟩
      rw [lti, t0i] at c2
      omega
    · refine ⟨fun c3 => ?_, fun c3 => ?_⟩
      · refine h _ ⟨nb_0, fun z => absurd rfl z, fun z => ?_⟩
        rw [lei] at c3
        omega
      · refine h _ ?_
        rw [lti, t0i] at c2
        rw [lei] at c3
        exact ⟨nb_1, fun _ => ⟨c1, by omega, by omega⟩, fun _ => by decide⟩
theorem At_holdsEnding_c8 {C : zC} {n0 : Nat} {a0 : Nat} {a1 : Int32} {κ : zS} {Q : Int32 → zS → Prop} (W : zW C n0 κ) (Ta0 : zT κ a0 = 3)  (h : ∀ (v : Int32), (nb v ∧ (v ≠ 0 ↔ zI κ atExplored a0 ≠ 0 ∧ 0 ≤ a1.toInt ∧ a1.toInt < (zI κ hoTotal (zR κ atEndings a0)).toInt)) → Q v κ) : zRun C 0 mAt_holdsEnding [.ref a0, .int a1] κ (oI Q noX) := by
  refine At_holdsEnding_run W Ta0 ?_
  replace W := W.lo (Nat.le_trans W.1.2.1 W.1.2.2) (Nat.le_refl (zn κ))
  unfold w_At_holdsEnding_0
  refine ⟨fun c1 => ?_, fun c1 => ?_⟩
  · refine h _ ⟨nb_0, fun z => absurd rfl z, fun z => absurd c1 z.1⟩
  · refine ⟨fun c2 => ?_, fun c2 => ?_⟩
    · refine h _ ⟨nb_0, fun z => absurd rfl z, fun z => ?_⟩
      rw [lti, t0i] at c2
      omega
    · refine ⟨fun c3 => ?_, fun c3 => ?_⟩
      · refine h _ ⟨nb_0, fun z => absurd rfl z, fun z => ?_⟩
        rw [lei] at c3
        omega
      · refine h _ ?_
        rw [lti, t0i] at c2
        rw [lei] at c3
        exact ⟨nb_1, fun _ => ⟨c1, by omega, by omega⟩, fun _ => by decide⟩
section
variable {κ : zS} {a : Nat} {σ : rS}
theorem ax_8 (h : RC8 κ a σ) (ex : σ.1 69 ≠ 0) : zI κ hoTotal (zR κ atStates (zR κ chAtlas a)) = σ.1 70 ∧ zI κ hoTotal (zR κ atEndings (zR κ chAtlas a)) = σ.1 71 := by
  obtain ⟨nv, s, w, _, n, m, x, ⟨e1, e2, _⟩, _, ⟨v1, v2, _⟩, _⟩ := (h.2.2.1 ex).1
  have v1' : zI κ hoTotal (zR κ atStates (zR κ chAtlas a)) = Int32.ofNat n := v1
  have v2' : zI κ hoTotal (zR κ atEndings (zR κ chAtlas a)) = Int32.ofNat m := v2
  rw [v1', v2', e1, e2]
  exact ⟨rfl, rfl⟩
theorem hs_8 (h : RC8 κ a σ) {k : Int32} : (zI κ atExplored (zR κ chAtlas a) ≠ 0 ∧ 0 ≤ k.toInt ∧ k.toInt < (zI κ hoTotal (zR κ atStates (zR κ chAtlas a))).toInt) ↔ (σ.1 69 ≠ 0 ∧ 0 ≤ k ∧ k < σ.1 70) := by
  constructor
  · rintro ⟨x, k0, k1⟩
    have ex : σ.1 69 ≠ 0 := fun z => x (h.2.1.mp z)
    rw [(ax_8 h ex).1] at k1
    exact ⟨ex, by rw [lei, t0i]; exact k0, by rw [lti]; exact k1⟩
  · rintro ⟨ex, k0, k1⟩
    rw [lei, t0i] at k0
    rw [lti] at k1
    exact ⟨fun z => ex (h.2.1.mpr z), k0, by rw [(ax_8 h ex).1]; exact k1⟩
theorem he_8 (h : RC8 κ a σ) {k : Int32} : (zI κ atExplored (zR κ chAtlas a) ≠ 0 ∧ 0 ≤ k.toInt ∧ k.toInt < (zI κ hoTotal (zR κ atEndings (zR κ chAtlas a))).toInt) ↔ (σ.1 69 ≠ 0 ∧ 0 ≤ k ∧ k < σ.1 71) := by
  constructor
  · rintro ⟨x, k0, k1⟩
    have ex : σ.1 69 ≠ 0 := fun z => x (h.2.1.mp z)
    rw [(ax_8 h ex).2] at k1
    exact ⟨ex, by rw [lei, t0i]; exact k0, by rw [lti]; exact k1⟩
  · rintro ⟨ex, k0, k1⟩
    rw [lei, t0i] at k0
    rw [lti] at k1
    exact ⟨fun z => ex (h.2.1.mpr z), k0, by rw [(ax_8 h ex).2]; exact k1⟩
theorem nx_8 (h : RC8 κ a σ) {k : Int32} (hk : σ.1 69 ≠ 0 ∧ 0 ≤ k ∧ k < σ.1 70) : zA κ (zR κ atFirsts (zR κ chAtlas a)) k.toNatClampNeg = σ.2.2.1 76 k.toNatClampNeg ∧ zA κ (zR κ atFirsts (zR κ chAtlas a)) (k.toNatClampNeg + 1) = σ.2.2.1 76 (k + (1 : Int32)).toNatClampNeg ∧ (∀ j : Nat, (j : Int) < (zI κ atNexts (zR κ chAtlas a)).toInt → zA κ (zR κ atSorts (zR κ chAtlas a)) j = σ.2.2.1 77 j ∧ zA κ (zR κ atNumbers (zR κ chAtlas a)) j = σ.2.2.1 78 j ∧ zA κ (zR κ atWeights (zR κ chAtlas a)) j = σ.2.2.1 79 j) := by
  obtain ⟨ex, k0, k1⟩ := hk
  obtain ⟨nv, s, w, _, n, m, x, ⟨e1, _, e3⟩, ⟨b1, _, b3⟩, ⟨_, _, v3⟩, _, _, ht, hb, hf⟩ := (h.2.2.1 ex).1
  rw [lei, t0i] at k0
  rw [lti, e1, ofn_i (by omega)] at k1
  have kn := cnk k0
  have kk : k.toNatClampNeg < n := by omega
  have e := cn1 k0 (by omega)
  have v3' : zI κ atNexts (zR κ chAtlas a) = Int32.ofNat x := v3
  refine ⟨(hb _ kk).1, ?_, fun j hj => ?_⟩
  · rw [e.1]
    by_cases c : k.toNatClampNeg + 1 < n
    · exact (hb _ c).1
    · have c2 : k.toNatClampNeg + 1 = n := by omega
      rw [c2]
      exact hf (by omega)
  · rw [v3', ofn_i (by omega)] at hj
    exact ht j (by omega)
end
theorem Ch_next_c8 {C : zC} {n0 : Nat} {a0 : Nat} {a1 : Int32} {a2 : Int32} {a3 : Int32} {κ : zS} {Q : Int32 → zS → Prop} {X : zXp} (W : zW C n0 κ) (Ta0 : zT κ a0 = 15) (ρ : Nat → Nat) (L9 : Int) (σ9 : rS) (hr8 : RC8 κ a0 σ9) (hp : chI9 ρ κ a0 L9) (h : ∀ (v : Int32) (κ' : zS), (κ = κ' ∧ nc8 σ9 a1 a2 a3 ∧ v = nv8 σ9 a1 a2 a3) → Q v κ') (hx : ∀ (cls : String) (κ' : zS), (cls = "java/lang/IndexOutOfBoundsException" ∧ κ' = ut κ ∧ ¬ nc8 σ9 a1 a2 a3) → X cls κ') : zRun C 8 mCh_next [.ref a0, .int a1, .int a2, .int a3] κ (oI Q X) := by
  refine Ch_next_run W Ta0 ?_
  replace W := W.lo (Nat.le_trans W.1.2.1 W.1.2.2) (Nat.le_refl (zn κ))
  unfold w_Ch_next_0
  intro T1
  refine At_holds_c8 W T1  (fun r2 q4 => ?_)
  intro W5
  intro M6
  refine ⟨fun c7 => ?_, fun c7 => ?_⟩
  · intro κ_8 hκ_8
    exact hx _ _ ⟨rfl, hκ_8, fun z => q4.2.mpr ((hs_8 hr8).mpr z.1) c7⟩
  · have H := ch_h9 hp ⟨q4.1, q4.2.mp⟩ c7
    have S := (hs_8 hr8).mp (q4.2.mp c7)
    obtain ⟨N1, N2, N3⟩ := nx_8 hr8 S
    refine ⟨fun c9 => ?_, fun c9 => ?_⟩
    · intro κ_10 hκ_10
      exact hx _ _ ⟨rfl, hκ_10, fun z => absurd c9 (Int32.not_lt.mpr z.2.1.1)⟩
    · intro T11
      refine At_waysOf_c W5 T11  ?_ (fun r12 q14 => ?_)
      · exact ⟨H.2.1.1, H.2.2.1⟩
      intro W15
      intro M16
      have q15 : r12 = σ9.2.2.1 76 (a1 + (1 : Int32)).toNatClampNeg - σ9.2.2.1 76 a1.toNatClampNeg := by rw [q14, N1, N2]
      refine ⟨fun c17 => ?_, fun c17 => ?_⟩
      · intro κ_18 hκ_18
        refine hx _ _ ⟨rfl, hκ_18, fun z => ?_⟩
        rw [q15] at c17
        exact absurd z.2.1.2 (Int32.not_lt.mpr c17)
      · refine ⟨fun c19 => ?_, fun c19 => ?_⟩
        · intro κ_20 hκ_20
          exact hx _ _ ⟨rfl, hκ_20, fun z => absurd c19 (Int32.not_lt.mpr z.2.2.1)⟩
        · refine ⟨fun c21 => ?_, fun c21 => ?_⟩
          · refine ⟨?_, ?_⟩
            · rw [inb_iff, H.2.1.1]
              have y := H.2.2.1
              omega
            intro x22 hx22
            have K := H.2.2.2.2.2.1
            have K2 := H.2.2.2.2.2
            have lw := H.2.2.2.1
            have l20 := lw.2
            have nx := H.2.2.2.2.1
            have cc : nc8 σ9 a1 a2 a3 := ⟨S, ⟨Int32.not_lt.mp c9, by rw [← q15]; exact Int32.not_le.mp c17⟩, Int32.not_lt.mp c19, c21⟩
            have xn : 0 ≤ x22.toInt ∧ x22.toInt < (zI κ atNexts (zR κ chAtlas a0)).toInt := by
              have d9 := c9
              have d17 := c17
              rw [lti, t0i] at d9
              rw [lei, q14, sub_i (by omega) (by omega)] at d17
              rw [hx22, add_i (by omega) (by omega)]
              omega
            have xb : 0 ≤ x22.toInt ∧ x22.toInt < (zN κ (zR κ atNumbers (zR κ chAtlas a0))) := ⟨xn.1, by omega⟩
            have xk := cnk xn.1
            obtain ⟨g1, g2, g3⟩ := N3 x22.toNatClampNeg (by omega)
            have ex : x22 = σ9.2.2.1 76 a1.toNatClampNeg + a2 := by rw [hx22, N1]
            refine ⟨fun c23 => ?_, fun c23 => ?_⟩
            · refine ⟨fun c24 => ?_, fun c24 => ?_⟩
              · refine ⟨?_, ?_⟩
                · rw [inb_iff, lw.1.2]; exact xb
                refine h _ _ ⟨rfl, cc, ?_⟩
                unfold nv8
                rw [if_neg c23, if_neg c24, ← ex, g3]
              · refine ⟨?_, ?_⟩
                · rw [inb_iff]; exact xb
                refine h _ _ ⟨rfl, cc, ?_⟩
                unfold nv8
                rw [if_neg c23, if_pos c24, ← ex, g2]
            · refine ⟨?_, ?_⟩
              · rw [inb_iff, lw.1.1]; exact xb
              refine h _ _ ⟨rfl, cc, ?_⟩
              unfold nv8
              rw [if_pos c23, ← ex, g1]
          · intro κ_25 hκ_25
            exact hx _ _ ⟨rfl, hκ_25, fun z => c21 z.2.2.2⟩

end
section
set_option maxHeartbeats 1600000
/-! the class: ending by what it answers -/
section
variable {κ : zS} {a nv s w : Nat} {σ : rS}
/-- how many shared names there are, of both sides -/
theorem sh_8 (cr : CR7 nv s w (cu7 κ (zR κ chCode a)) σ) : (zI κ coVars (zR κ chCode a)).toInt + (zI κ coCells (zR κ chCode a)).toInt = w ∧ (σ.1 15 + σ.1 17).toInt = w ∧ w ≤ 34 := by
  obtain ⟨T, X, Bk, N, Z, na, f, _, F, _, _, ⟨w1, w2, w3⟩, _⟩ := cr
  obtain ⟨⟨⟨a0, a1⟩, _⟩, ⟨_, c1, _⟩, _, _, _, _, _, ⟨_, _, gl3, gl4, _⟩, _⟩ := F
  have i1 : (cu7 κ (zR κ chCode a)).1 509 = zI κ coVars (zR κ chCode a) := by
    show (if 509 ∈ ci6 then zI κ 509 (zR κ chCode a) else 0) = _
    rw [if_pos (by decide)]
  have i2 : (cu7 κ (zR κ chCode a)).1 511 = zI κ coCells (zR κ chCode a) := by
    show (if 511 ∈ ci6 then zI κ 511 (zR κ chCode a) else 0) = _
    rw [if_pos (by decide)]
  have s15 : σ.1 15 = Int32.ofNat nv := by rw [si1, if_neg (by decide)] at c1; exact c1
  have s17 : σ.1 17 = zI κ coCells (zR κ chCode a) := by
    rw [si1, if_neg (by decide)] at gl3
    rw [← i2]
    exact gl3.symm
  rw [i2] at w3 gl4
  have v1 : zI κ coVars (zR κ chCode a) = Int32.ofNat nv := i1.symm.trans a0
  have l1 := ofn_i (n := nv) (by omega)
  refine ⟨by rw [v1, l1]; omega, ?_, w2⟩
  rw [s15, s17, add_i (by rw [l1]; omega) (by rw [l1]; omega), l1]
  omega
end
theorem ix_8 {k i : Int32} (k0 : 0 ≤ k.toInt) (k1 : k.toInt < 1000) (i0 : -1 ≤ i.toInt) (i1 : i.toInt < 34) : ((((35 : Int32) * k) + (1 : Int32)) + i).toNatClampNeg = (35 * k.toInt + 1 + i.toInt).toNat := by
  have t35 : (35 : Int32).toInt = 35 := rfl
  have e1 : ((35 : Int32) * k).toInt = 35 * k.toInt := by rw [mul_i (by rw [t35]; omega) (by rw [t35]; omega), t35]
  have e2 : (((35 : Int32) * k) + (1 : Int32)).toInt = 35 * k.toInt + 1 := by rw [add_i (by rw [e1, t1i]; omega) (by rw [e1, t1i]; omega), e1, t1i]
  rw [nc_5, add_i (by rw [e2]; omega) (by rw [e2]; omega), e2]
theorem Ch_ending_c8 {C : zC} {n0 : Nat} {a0 : Nat} {a1 : Int32} {a2 : Int32} {κ : zS} {Q : Int32 → zS → Prop} {X : zXp} (W : zW C n0 κ) (Ta0 : zT κ a0 = 15) (ρ : Nat → Nat) (L9 : Int) (σ9 : rS) (hr8 : RC8 κ a0 σ9) (hp : chI9 ρ κ a0 L9) (h : ∀ (v : Int32) (κ' : zS), (κ = κ' ∧ ec8 σ9 a1 a2 ∧ v = ev8 σ9 a1 a2) → Q v κ') (hx : ∀ (cls : String) (κ' : zS), (cls = "java/lang/IndexOutOfBoundsException" ∧ κ' = ut κ ∧ ¬ ec8 σ9 a1 a2) → X cls κ') : zRun C 8 mCh_ending [.ref a0, .int a1, .int a2] κ (oI Q X) := by
  refine Ch_ending_run W Ta0 ?_
  replace W := W.lo (Nat.le_trans W.1.2.1 W.1.2.2) (Nat.le_refl (zn κ))
  unfold w_Ch_ending_0
  intro T1
  refine At_holdsEnding_c8 W T1  (fun r2 q4 => ?_)
  intro W5
  intro M6
  refine ⟨fun c7 => ?_, fun c7 => ?_⟩
  · intro κ_8 hκ_8
    exact hx _ _ ⟨rfl, hκ_8, fun z => q4.2.mpr ((he_8 hr8).mpr ⟨z.1, z.2.1⟩) c7⟩
  · have S := (he_8 hr8).mp (q4.2.mp c7)
    obtain ⟨nv, s, w, cr, n, m, x, ⟨f1, f2, f3⟩, ⟨b1, b2, b3⟩, ⟨v1, v2, v3⟩, _, hE, _⟩ := (hr8.2.2.1 S.1).1
    obtain ⟨s1, s2, s3⟩ := sh_8 cr
    have v2' : zI κ hoTotal (zR κ atEndings (zR κ chAtlas a0)) = Int32.ofNat m := v2
    have k0 := S.2.1
    have k1 := S.2.2
    rw [lei, t0i] at k0
    rw [lti, f2, ofn_i (by omega)] at k1
    have kn := cnk k0
    obtain ⟨K, g1, g2, g3⟩ := hE a1.toNatClampNeg (by omega)
    have hk : hk9 κ (zR κ atEndings (zR κ chAtlas a0)) K ((w + 1 : Nat) : Int) a1.toNatClampNeg := by
      unfold hk9
      rw [v2', ofn_i (by omega)]
      exact g3
    refine ⟨fun c9 => ?_, fun c9 => ?_⟩
    · intro κ_10 hκ_10
      exact hx _ _ ⟨rfl, hκ_10, fun z => absurd c9 (Int32.not_lt.mpr z.2.2.1)⟩
    · intro T11
      refine Co_shared_c W5 T11  ?_ (fun r12 q14 => ?_)
      · exact hp.1.2.1.1.1
      intro W15
      intro M16
      have r9 : r12 = σ9.1 15 + σ9.1 17 := Int32.toInt_inj.mp (by rw [q14, s1, s2])
      refine ⟨fun c17 => ?_, fun c17 => ?_⟩
      · have cc : ec8 σ9 a1 a2 := ⟨S.1, S.2, Int32.not_lt.mp c9, by rw [← r9]; exact c17⟩
        have j0 := cc.2.2.1
        have j1 := cc.2.2.2
        rw [lei, show (-1 : Int32).toInt = -1 from rfl] at j0
        rw [lti, s2] at j1
        refine ⟨fun c18 => ?_, fun c18 => ?_⟩
        · intro T19
          refine Ho_part_c2 W15 T19 1000 35 2048 ?_ (fun r20 q22 => ?_)
          · exact ⟨hp.2.1.1.1.2.2.1.2, Or.inr (Or.inl ⟨rfl, rfl, rfl⟩)⟩
          intro W23
          intro M24
          have j2 : 0 ≤ a2.toInt := by
            have y : a2.toInt ≠ -1 := fun e => c18 (Int32.toInt_inj.mp (by rw [e]; rfl))
            omega
          have jn := cnk j2
          refine h _ _ ⟨rfl, cc, ?_⟩
          unfold ev8
          rw [q22, pV9_k k0 hk j2 (by omega), ix_8 k0 (by omega) j0 (by omega), g1 a2.toNatClampNeg (by omega), show (35 * a1.toInt + 1 + a2.toInt).toNat = 35 * a1.toNatClampNeg + 1 + a2.toNatClampNeg by omega]
        · intro T25
          refine Co_shared_c W15 T25  ?_ (fun r26 q28 => ?_)
          · exact hp.1.2.1.1.1
          intro W29
          intro M30
          intro T31
          refine Ho_part_c2 W29 T31 1000 35 2048 ?_ (fun r32 q34 => ?_)
          · exact ⟨hp.2.1.1.1.2.2.1.2, Or.inr (Or.inl ⟨rfl, rfl, rfl⟩)⟩
          intro W35
          intro M36
          refine h _ _ ⟨rfl, cc, ?_⟩
          have rw9 : r26.toInt = w := by rw [q28, s1]
          have rn := cnk (x := r26) (by omega)
          have e2 : a2.toInt = -1 := by rw [c18]; rfl
          unfold ev8
          rw [q34, pV9_k k0 hk (by omega) (by omega), ix_8 k0 (by omega) j0 (by omega), show r26.toNatClampNeg = w by omega, g2, show (35 * a1.toInt + 1 + a2.toInt).toNat = 35 * a1.toNatClampNeg by omega]
      · intro κ_37 hκ_37
        exact hx _ _ ⟨rfl, hκ_37, fun z => c17 (by rw [r9]; exact z.2.2.2)⟩

end
section
set_option maxHeartbeats 1600000
/-! the class: value by what it answers -/
/-- a state's row as the class reads it -/
def SF8 (κ : zS) (t : Nat) (K : Nat → Int32) (w d : Nat) (k : Int32) : Prop := 0 ≤ k.toInt ∧ hk9 κ (zR κ atStates t) K ((w + 9 * d : Nat) : Int) k.toNatClampNeg ∧ (zI κ coVars (zR κ atCode t)).toInt + (zI κ coCells (zR κ atCode t)).toInt = w ∧ (0 < d ∧ d ≤ 12 ∧ w ≤ 34)
theorem d9_8 : ∀ d, d ≤ 12 → Int32.ofNat (9 * d) / (9 : Int32) = Int32.ofNat d := by decide
theorem At_callsOf_c8 {C : zC} {n0 : Nat} {a0 : Nat} {a1 : Int32} {κ : zS} {Q : Int32 → zS → Prop} {K : Nat → Int32} {w d : Nat} (W : zW C n0 κ) (Ta0 : zT κ a0 = 3) (hp : atG κ a0) (F : SF8 κ a0 K w d a1) (h : ∀ (v : Int32), (v = Int32.ofNat d) → Q v κ) : zRun C 1 mAt_callsOf [.ref a0, .int a1] κ (oI Q noX) := by
  refine At_callsOf_run W Ta0 ?_
  replace W := W.lo (Nat.le_trans W.1.2.1 W.1.2.2) (Nat.le_refl (zn κ))
  obtain ⟨k0, ⟨hk1, hk2, _⟩, hw, d0, d1, w1⟩ := F
  have kn := cnk k0
  unfold w_At_callsOf_0
  intro T1
  refine Ho_lengthOf_c2 W T1 1000 142 2048 ⟨hp.1.1, hP1⟩ (fun r2 q4 => ?_)
  intro W5 M6 T7
  refine Co_shared_c W5 T7 hp.2 (fun r8 q10 => ?_)
  intro W11 M12
  refine ⟨by decide, h _ ?_⟩
  have e2 : r2.toInt = (w + 9 * d : Nat) := by
    rw [q4.2, if_pos ⟨k0, by omega⟩]
    exact hk2
  have e8 : r8.toInt = w := q10.trans hw
  have e : r2 - r8 = Int32.ofNat (9 * d) := Int32.toInt_inj.mp (by rw [sub_i (by omega) (by omega), ofn_i (by omega)]; omega)
  rw [e]
  exact d9_8 d d1
theorem At_statementOf_c8 {C : zC} {n0 : Nat} {a0 : Nat} {a1 : Int32} {a2 : Int32} {κ : zS} {Q : Int32 → zS → Prop} {K : Nat → Int32} {w d : Nat} (W : zW C n0 κ) (Ta0 : zT κ a0 = 3) (hp : atG κ a0) (F : SF8 κ a0 K w d a1) (c0 : 0 ≤ a2.toInt) (c1 : a2.toInt < d) (h : ∀ (v : Int32), (v = K (w + 9 * a2.toNatClampNeg)) → Q v κ) : zRun C 2 mAt_statementOf [.ref a0, .int a1, .int a2] κ (oI Q noX) := by
  refine At_statementOf_run W Ta0 ?_
  replace W := W.lo (Nat.le_trans W.1.2.1 W.1.2.2) (Nat.le_refl (zn κ))
  obtain ⟨k0, hk, hw, d0, d1, w1⟩ := F
  have cn := cnk c0
  have t9 : (9 : Int32).toInt = 9 := rfl
  unfold w_At_statementOf_0
  intro T1
  refine Co_shared_c W T1 hp.2 (fun r2 q4 => ?_)
  intro W5 M6 T7
  refine Ho_part_c2 W5 T7 1000 142 2048 ⟨hp.1.1, hP1⟩ (fun r8 q10 => ?_)
  intro W11 M12
  refine h _ ?_
  have e2 : r2.toInt = w := q4.trans hw
  have e3 : (a2 * (9 : Int32)).toInt = a2.toInt * 9 := by rw [mul_i (by rw [t9]; omega) (by rw [t9]; omega), t9]
  have e4 : (r2 + (a2 * (9 : Int32))).toInt = w + a2.toInt * 9 := by rw [add_i (by rw [e3]; omega) (by rw [e3]; omega), e3, e2]
  have en := cnk (x := r2 + (a2 * (9 : Int32))) (by omega)
  rw [q10, pV9_k k0 hk (by omega) (by omega)]
  congr 1
  omega
theorem At_variableOf_c8 {C : zC} {n0 : Nat} {a0 : Nat} {a1 : Int32} {a2 : Int32} {a3 : Int32} {κ : zS} {Q : Int32 → zS → Prop} {K : Nat → Int32} {w d : Nat} (W : zW C n0 κ) (Ta0 : zT κ a0 = 3) (hp : atG κ a0) (F : SF8 κ a0 K w d a1) (hv : (a2 = -1 ∧ 0 ≤ a3.toInt ∧ a3.toInt < w) ∨ (a2 ≠ -1 ∧ (0 ≤ a2.toInt ∧ a2.toInt < d) ∧ 0 ≤ a3.toInt ∧ a3.toInt < 8)) (h : ∀ (v : Int32), (v = if a2 = -1 then K a3.toNatClampNeg else K (w + 9 * a2.toNatClampNeg + 1 + a3.toNatClampNeg)) → Q v κ) : zRun C 2 mAt_variableOf [.ref a0, .int a1, .int a2, .int a3] κ (oI Q noX) := by
  refine At_variableOf_run W Ta0 ?_
  replace W := W.lo (Nat.le_trans W.1.2.1 W.1.2.2) (Nat.le_refl (zn κ))
  obtain ⟨k0, hk, hw, d0, d1, w1⟩ := F
  have t9 : (9 : Int32).toInt = 9 := rfl
  unfold w_At_variableOf_0
  refine ⟨fun c1 => ?_, fun c1 => ?_⟩
  · obtain ⟨_, ⟨c0, c2⟩, i0, i1⟩ := hv.resolve_left (fun z => c1 z.1)
    have cn := cnk c0
    have inn := cnk i0
    intro T2
    refine Co_shared_c W T2 hp.2 (fun r3 q5 => ?_)
    intro W6 M7 T8
    refine Ho_part_c2 W6 T8 1000 142 2048 ⟨hp.1.1, hP1⟩ (fun r9 q11 => ?_)
    intro W12 M13
    refine h _ ?_
    have e2 : r3.toInt = w := q5.trans hw
    have e3 : (a2 * (9 : Int32)).toInt = a2.toInt * 9 := by rw [mul_i (by rw [t9]; omega) (by rw [t9]; omega), t9]
    have e4 : (r3 + (a2 * (9 : Int32))).toInt = w + a2.toInt * 9 := by rw [add_i (by rw [e3]; omega) (by rw [e3]; omega), e3, e2]
    have e5 : ((r3 + (a2 * (9 : Int32))) + (1 : Int32)).toInt = w + a2.toInt * 9 + 1 := by rw [add_i (by rw [e4, t1i]; omega) (by rw [e4, t1i]; omega), e4, t1i]
    have e6 : (((r3 + (a2 * (9 : Int32))) + (1 : Int32)) + a3).toInt = w + a2.toInt * 9 + 1 + a3.toInt := by rw [add_i (by rw [e5]; omega) (by rw [e5]; omega), e5]
    have en := cnk (x := ((r3 + (a2 * (9 : Int32))) + (1 : Int32)) + a3) (by omega)
    rw [q11, pV9_k k0 hk (by omega) (by omega), if_neg c1]
    congr 1
    omega
  · obtain ⟨_, i0, i1⟩ := hv.resolve_right (fun z => z.1 c1)
    intro T14
    refine Ho_part_c2 W T14 1000 142 2048 ⟨hp.1.1, hP1⟩ (fun r9 q11 => ?_)
    intro W12 M13
    refine h _ ?_
    rw [q11, pV9_k k0 hk i0 (by omega), if_pos c1]
theorem Co_isShared_c8 {C : zC} {n0 : Nat} {a0 : Nat} {a1 : Int32} {κ : zS} {Q : Int32 → zS → Prop} (W : zW C n0 κ) (Ta0 : zT κ a0 = 5)  (hp : coI κ a0) (h : ∀ (v : Int32), (nb v ∧ (v ≠ 0 ↔ 0 ≤ a1.toInt ∧ a1.toInt < (zI κ coVars a0).toInt + (zI κ coCells a0).toInt)) → Q v κ) : zRun C 0 mCo_isShared [.ref a0, .int a1] κ (oI Q noX) := by
  refine Co_isShared_run W Ta0 ?_
  replace W := W.lo (Nat.le_trans W.1.2.1 W.1.2.2) (Nat.le_refl (zn κ))
  unfold w_Co_isShared_0
  obtain ⟨-, hv, ha, hc, -⟩ := hp
  have e : (zI κ coVars a0 + zI κ coCells a0).toInt = (zI κ coVars a0).toInt + (zI κ coCells a0).toInt := add_i (by omega) (by omega)
  refine ⟨fun c1 => ?_, fun c1 => ?_⟩
  · refine h _ ⟨nb_0, fun h => absurd rfl h, fun z => ?_⟩
    rw [lti, t0i] at c1
    omega
  · refine ⟨fun c2 => ?_, fun c2 => ?_⟩
    · refine h _ ⟨nb_0, fun h => absurd rfl h, fun z => ?_⟩
      rw [lei, e] at c2
      omega
    · refine h _ ⟨nb_1, fun _ => ?_, fun _ => by decide⟩
      rw [lti, t0i] at c1
      rw [lei, e] at c2
      omega
theorem Co_column_c8 {C : zC} {n0 : Nat} {a0 : Nat} {a1 : Int32} {a2 : Int32} {κ : zS} {Q : Int32 → zS → Prop} (W : zW C n0 κ) (Ta0 : zT κ a0 = 5)  (hp : coI κ a0 ∧ 0 ≤ a2.toInt ∧ a2.toInt < 11) (hs : 0 ≤ a1.toInt ∧ a1.toInt < (zI κ coStatements a0).toInt) (h : ∀ (v : Int32), (v = zA κ (zR κ coRows a0) (11 * a1.toNatClampNeg + a2.toNatClampNeg)) → Q v κ) : zRun C 0 mCo_column [.ref a0, .int a1, .int a2] κ (oI Q noX) := by
  refine Co_column_run W Ta0 ?_
  replace W := W.lo (Nat.le_trans W.1.2.1 W.1.2.2) (Nat.le_refl (zn κ))
  unfold w_Co_column_0
  obtain ⟨H, p0, p1⟩ := hp
  obtain ⟨-, -, -, -, -, hs9, hrw, -⟩ := H
  refine ⟨fun c1 => ?_, fun c1 => ?_⟩
  · rw [lti, t0i] at c1
    omega
  · refine ⟨fun c2 => ?_, fun c2 => ?_⟩
    · rw [lei] at c2
      omega
    · have ci := col_i (x := a1) (y := a2) (by omega) (by omega) p0 p1
      refine ⟨?_, ?_⟩
      · rw [inb_iff, ci]
        omega
      refine h _ ?_
      have n1 := cnk hs.1
      have n2 := cnk p0
      have n3 := cnk (x := (a1 * (11 : Int32)) + a2) (by rw [ci]; omega)
      rw [show ((a1 * (11 : Int32)) + a2).toNatClampNeg = 11 * a1.toNatClampNeg + a2.toNatClampNeg by omega]
/-- the names of a call's function, of both sides -/
def CU8 (κ : zS) (c : Nat) (K : Nat → Int32) (w d s : Nat) (U : Nat → Nat) : Prop := zI κ coStatements c = Int32.ofNat s ∧ s ≤ 150 ∧ ∀ i, i < d → ∃ j g, j < s ∧ K (w + 9 * i) = Int32.ofNat j ∧ g < 10 ∧ zA κ (zR κ coRows c) (11 * j + 10) = Int32.ofNat g ∧ zA κ (zR κ coOwnCounts c) g = Int32.ofNat (U i) ∧ U i ≤ 8
theorem At_hasVariable_c8 {C : zC} {n0 : Nat} {a0 : Nat} {a1 : Int32} {a2 : Int32} {a3 : Int32} {κ : zS} {Q : Int32 → zS → Prop} {K : Nat → Int32} {w d s : Nat} {U : Nat → Nat} (W : zW C n0 κ) (Ta0 : zT κ a0 = 3) (hp : atG κ a0) (F : SF8 κ a0 K w d a1) (hU : CU8 κ (zR κ atCode a0) K w d s U) (h : ∀ (v : Int32), (nb v ∧ (v ≠ 0 ↔ (a2 = -1 ∧ 0 ≤ a3.toInt ∧ a3.toInt < w) ∨ (a2 ≠ -1 ∧ (0 ≤ a2.toInt ∧ a2.toInt < d) ∧ 0 ≤ a3.toInt ∧ a3.toInt < U a2.toNatClampNeg))) → Q v κ) : zRun C 3 mAt_hasVariable [.ref a0, .int a1, .int a2, .int a3] κ (oI Q noX) := by
  refine At_hasVariable_run W Ta0 ?_
  replace W := W.lo (Nat.le_trans W.1.2.1 W.1.2.2) (Nat.le_refl (zn κ))
  have d1 := F.2.2.2.2.1
  unfold w_At_hasVariable_0
  refine ⟨fun c1 => ?_, fun c1 => ?_⟩
  · refine ⟨fun c2 => ?_, fun c2 => ?_⟩
    · refine h _ ⟨nb_0, fun z => absurd rfl z, fun z => ?_⟩
      rw [lti, t0i] at c2
      rcases z with z | z
      · exact absurd z.1 c1
      · omega
    · rw [lti, t0i] at c2
      intro T3
      refine At_callsOf_c8 W T3 hp F (fun r4 q6 => ?_)
      intro W7 M8
      have e4 : r4.toInt = d := by rw [q6, ofn_i (by omega)]
      refine ⟨fun c9 => ?_, fun c9 => ?_⟩
      · refine h _ ⟨nb_0, fun z => absurd rfl z, fun z => ?_⟩
        rw [lei] at c9
        rcases z with z | z
        · exact absurd z.1 c1
        · omega
      · rw [lei] at c9
        have cn := cnk (x := a2) (by omega)
        obtain ⟨j, g, js, k1, g10, k2, k3, k4⟩ := hU.2.2 a2.toNatClampNeg (by omega)
        have s150 := hU.2.1
        refine ⟨fun c10 => ?_, fun c10 => ?_⟩
        · rw [lei, t0i] at c10
          intro T11
          refine At_statementOf_c8 W7 T11 hp F (by omega) (by omega) (fun r12 q14 => ?_)
          intro W15 M16 T17
          have e12 : r12 = Int32.ofNat j := q14.trans k1
          have t12 : r12.toInt = j := by rw [e12, ofn_i (by omega)]
          have n12 := cnk (x := r12) (by omega)
          refine Co_column_c8 W15 T17 ⟨hp.2, by decide, by decide⟩ ⟨by omega, by rw [hU.1, ofn_i (by omega)]; omega⟩ (fun r18 q20 => ?_)
          intro W21 M22
          have e18 : r18 = Int32.ofNat g := by
            rw [q20, show r12.toNatClampNeg = j by omega]
            exact k2
          have t18 : r18.toInt = g := by rw [e18, ofn_i (by omega)]
          have n18 := cnk (x := r18) (by omega)
          refine ⟨fun c23 => ?_, fun c23 => ?_⟩
          · rw [lti, t0i] at c23
            omega
          · refine ⟨fun c24 => ?_, fun c24 => ?_⟩
            · rw [lei, show (10 : Int32).toInt = 10 from rfl] at c24
              omega
            · refine ⟨?_, ?_⟩
              · have L := hp.2.1.2.2.2.2.2
                rw [inb_iff]; omega
              have ow : zA κ (zR κ coOwnCounts (zR κ atCode a0)) r18.toNatClampNeg = Int32.ofNat (U a2.toNatClampNeg) := by
                rw [show r18.toNatClampNeg = g by omega]
                exact k3
              refine ⟨fun c25 => ?_, fun c25 => ?_⟩
              · rw [ow, lei, ofn_i (by omega)] at c25
                refine h _ ⟨nb_0, fun z => absurd rfl z, fun z => ?_⟩
                rcases z with z | z
                · exact absurd z.1 c1
                · omega
              · rw [ow, lei, ofn_i (by omega)] at c25
                exact h _ ⟨nb_1, fun _ => Or.inr ⟨c1, ⟨by omega, by omega⟩, c10, by omega⟩, fun _ => by decide⟩
        · rw [lei, t0i] at c10
          refine h _ ⟨nb_0, fun z => absurd rfl z, fun z => ?_⟩
          rcases z with z | z
          · exact absurd z.1 c1
          · omega
  · intro T26
    refine Co_isShared_c8 W T26 hp.2 (fun r27 q29 => ?_)
    intro W30 M31
    refine ⟨q29.1, h _ ⟨q29.1, fun z => ?_, fun z => ?_⟩⟩
    · have y := q29.2.mp z
      rw [F.2.2.1] at y
      exact Or.inl ⟨c1, y⟩
    · refine q29.2.mpr ?_
      rw [F.2.2.1]
      exact (z.resolve_right (fun y => y.1 c1)).2
/-- the names' counts, of both sides -/
theorem cv_8 {κ : zS} {c nv s w : Nat} {σ : rS} (cr : CR7 nv s w (cu7 κ c) σ) : zI κ coStatements c = Int32.ofNat s ∧ s ≤ 150 ∧ ∀ j, j < s → ∃ g u, g < 10 ∧ zA κ (zR κ coRows c) (11 * j + 10) = Int32.ofNat g ∧ σ.2.2.1 38 j = Int32.ofNat g ∧ u ≤ 8 ∧ zA κ (zR κ coOwnCounts c) g = Int32.ofNat u ∧ σ.2.2.1 27 g = Int32.ofNat u := by
  obtain ⟨T, X, Bk, N, Z, na, f, _, F, _⟩ := cr
  obtain ⟨⟨_, _, _, ⟨a6, a7⟩, _⟩, _, _, p4, _, _, ⟨q1, _, _⟩, _⟩ := F
  have i3 : (cu7 κ c).1 513 = zI κ coStatements c := by
    show (if 513 ∈ ci6 then zI κ 513 c else 0) = _
    rw [if_pos (by decide)]
  have es : zI κ coStatements c = Int32.ofNat s := i3.symm.trans a6
  refine ⟨es, a7, fun j hj => ?_⟩
  obtain ⟨_, _, _, l5, g, ⟨gf, g10⟩, lg⟩ := p4 j hj
  obtain ⟨o1, u, u8, o2⟩ := q1 g gf
  have r6 : (cu7 κ c).2.1 506 (11 * j + 10) = zA κ (zR κ coRows c) (11 * j + 10) := by
    show (if 506 = 506 ∨ 506 = 507 ∨ 506 = 508 then (fun x => if x < mb6 κ c 506 then zA κ (zR κ 506 c) x else 0) else if 506 ∈ cr6 then zA κ (zR κ 506 c) else fun _ => 0) (11 * j + 10) = _
    rw [if_pos (Or.inl rfl)]
    show (if 11 * j + 10 < mb6 κ c 506 then zA κ (zR κ 506 c) (11 * j + 10) else 0) = _
    have m5 : mb6 κ c 506 = 11 * s := by
      unfold mb6
      rw [if_pos rfl, es, cl_5 (by omega)]
    rw [if_pos (by rw [m5]; omega)]
  have r5 : (cu7 κ c).2.1 505 = zA κ (zR κ coOwnCounts c) := by
    show (if 505 = 506 ∨ 505 = 507 ∨ 505 = 508 then (fun x => if x < mb6 κ c 505 then zA κ (zR κ 505 c) x else 0) else if 505 ∈ cr6 then zA κ (zR κ 505 c) else fun _ => 0) = _
    rw [if_neg (by decide), if_pos (by decide)]
  have lg' : σ.2.2.1 38 j = Int32.ofNat g := lg
  have o2' : σ.2.2.1 27 g = Int32.ofNat u := o2
  refine ⟨g, u, g10, ?_, lg', u8, ?_, o2'⟩
  · rw [← r6]
    exact l5.trans lg
  · rw [← r5]
    exact o1.trans o2
theorem iv_8 {k x : Int32} {n : Int} (k0 : 0 ≤ k.toInt) (k1 : k.toInt < 1000) (h : (((143 : Int32) * k) + x).toInt = n) (n0 : 0 ≤ n) : (((143 : Int32) * k) + x).toNatClampNeg = n.toNat := by rw [nc_5, h]
theorem jv_8 {k : Int32} (k0 : 0 ≤ k.toInt) (k1 : k.toInt < 1000) : ((143 : Int32) * k).toInt = 143 * k.toInt := by
  have t : (143 : Int32).toInt = 143 := rfl
  rw [mul_i (by rw [t]; omega) (by rw [t]; omega), t]
theorem kv_8 {c : Int32} (c0 : -1 ≤ c.toInt) (c1 : c.toInt < 12) : ((9 : Int32) * c).toInt = 9 * c.toInt := by
  have t : (9 : Int32).toInt = 9 := rfl
  rw [mul_i (by rw [t]; omega) (by rw [t]; omega), t]
theorem Ch_value_c8 {C : zC} {n0 : Nat} {a0 : Nat} {a1 : Int32} {a2 : Int32} {a3 : Int32} {κ : zS} {Q : Int32 → zS → Prop} {X : zXp} (W : zW C n0 κ) (Ta0 : zT κ a0 = 15) (ρ : Nat → Nat) (L9 : Int) (σ9 : rS) (hr8 : RC8 κ a0 σ9) (hp : chI9 ρ κ a0 L9) (h : ∀ (v : Int32) (κ' : zS), (κ = κ' ∧ vc8 σ9 a1 a2 a3 ∧ v = vv8 σ9 a1 a2 a3) → Q v κ') (hx : ∀ (cls : String) (κ' : zS), (cls = "java/lang/IndexOutOfBoundsException" ∧ κ' = ut κ ∧ ¬ vc8 σ9 a1 a2 a3) → X cls κ') : zRun C 8 mCh_value [.ref a0, .int a1, .int a2, .int a3] κ (oI Q X) := by
  refine Ch_value_run W Ta0 ?_
  replace W := W.lo (Nat.le_trans W.1.2.1 W.1.2.2) (Nat.le_refl (zn κ))
  unfold w_Ch_value_0
  intro T1
  refine At_holds_c8 W T1  (fun r2 q4 => ?_)
  intro W5
  intro M6
  refine ⟨fun c7 => ?_, fun c7 => ?_⟩
  · intro κ_8 hκ_8
    exact hx _ _ ⟨rfl, hκ_8, fun z => q4.2.mpr ((hs_8 hr8).mpr z.1.1) c7⟩
  · have H := ch_h9 hp ⟨q4.1, q4.2.mp⟩ c7
    have S := (hs_8 hr8).mp (q4.2.mp c7)
    obtain ⟨nv, s, w, cr, n, m, x, ⟨f1, f2, f3⟩, ⟨b1, b2, b3⟩, ⟨v1, v2, v3⟩, hS, _⟩ := (hr8.2.2.1 S.1).1
    obtain ⟨s1, s2, s3⟩ := sh_8 cr
    obtain ⟨cs, s150, cg⟩ := cv_8 cr
    have xe : zI κ atExplored (zR κ chAtlas a0) ≠ 0 := (q4.2.mp c7).1
    have ac : zR κ atCode (zR κ chAtlas a0) = zR κ chCode a0 := (hp.2.1.2.2 xe).1.1
    have v1' : zI κ hoTotal (zR κ atStates (zR κ chAtlas a0)) = Int32.ofNat n := v1
    have k0 := S.2.1
    have k1 := S.2.2
    rw [lei, t0i] at k0
    rw [lti, f1, ofn_i (by omega)] at k1
    have kn := cnk k0
    obtain ⟨d, K, ⟨⟨d0, d1, w1, qd⟩, g2, g3, g4, g5⟩, hk⟩ := hS a1.toNatClampNeg (by omega)
    have F : SF8 κ (zR κ chAtlas a0) K w d a1 := by
      refine ⟨k0, ?_, by rw [ac]; exact s1, d0, d1, w1⟩
      unfold hk9
      rw [v1', ofn_i (by omega)]
      exact hk
    obtain ⟨U, hUd⟩ : ∃ U : Nat → Nat, ∀ i, U i = (σ9.2.2.1 27 (σ9.2.2.1 38 (K (w + 9 * i)).toNatClampNeg).toNatClampNeg).toNatClampNeg := ⟨_, fun _ => rfl⟩
    have ug : ∀ i, i < d → ∃ j g, j < s ∧ K (w + 9 * i) = Int32.ofNat j ∧ g < 10 ∧ zA κ (zR κ coRows (zR κ chCode a0)) (11 * j + 10) = Int32.ofNat g ∧ zA κ (zR κ coOwnCounts (zR κ chCode a0)) g = Int32.ofNat (U i) ∧ U i ≤ 8 ∧ σ9.2.2.1 27 (σ9.2.2.1 38 (K (w + 9 * i)).toNatClampNeg).toNatClampNeg = Int32.ofNat (U i) := fun i hi => by
      obtain ⟨j, j1, j2⟩ := g5 i hi
      obtain ⟨g, u, y1, y2, y3, y4, y5, y6⟩ := cg j j1
      have eU : U i = u := by rw [hUd, j2, cl_5 (by omega), y3, cl_5 (by omega), y6, cl_5 (by omega)]
      refine ⟨j, g, j1, j2, y1, y2, by rw [eU]; exact y5, by omega, ?_⟩
      rw [j2, cl_5 (by omega), y3, cl_5 (by omega), y6, eU]
    have hU : CU8 κ (zR κ atCode (zR κ chAtlas a0)) K w d s U := by
      rw [ac]
      refine ⟨cs, s150, fun i hi => ?_⟩
      obtain ⟨j, g, z1, z2, z3, z4, z5, z6, _⟩ := ug i hi
      exact ⟨j, g, z1, z2, z3, z4, z5, z6⟩
    have i143 := jv_8 k0 (by omega)
    have r0 : σ9.2.2.1 73 ((143 : Int32) * a1).toNatClampNeg = Int32.ofNat d := by
      rw [nc_5, i143, show (143 * a1.toInt).toNat = 143 * a1.toNatClampNeg + 0 by omega]
      exact qd
    have r35 : -1 ≤ a2.toInt → a2.toInt < d → a2.toInt ≠ -1 → σ9.2.2.1 73 ((((143 : Int32) * a1) + (35 : Int32)) + ((9 : Int32) * a2)).toNatClampNeg = K (w + 9 * a2.toNatClampNeg) := fun y1 y2 y3 => by
      have cn := cnk (x := a2) (by omega)
      have t35 : (35 : Int32).toInt = 35 := rfl
      have e9 := kv_8 y1 (by omega)
      have e1 : (((143 : Int32) * a1) + (35 : Int32)).toInt = 143 * a1.toInt + 35 := by rw [add_i (by rw [i143, t35]; omega) (by rw [i143, t35]; omega), i143, t35]
      rw [nc_5, add_i (by rw [e1, e9]; omega) (by rw [e1, e9]; omega), e1, e9, show (143 * a1.toInt + 35 + 9 * a2.toInt).toNat = 143 * a1.toNatClampNeg + (35 + 9 * a2.toNatClampNeg) by omega]
      exact (g3 a2.toNatClampNeg (by omega)).symm
    have m1 : ∀ y : Int32, y.toInt = -1 ↔ y = -1 := fun y => ⟨fun e => Int32.toInt_inj.mp (by rw [e]; rfl), fun e => by rw [e]; rfl⟩
    have PV : ((a2 = -1 ∧ 0 ≤ a3.toInt ∧ a3.toInt < w) ∨ (a2 ≠ -1 ∧ (0 ≤ a2.toInt ∧ a2.toInt < d) ∧ 0 ≤ a3.toInt ∧ a3.toInt < U a2.toNatClampNeg)) ↔ vc8 σ9 a1 a2 a3 := by
      constructor
      · rintro (⟨y1, y2, y3⟩ | ⟨y1, ⟨y2, y3⟩, y4, y5⟩)
        · exact ⟨⟨S, by rw [lei, t0i]; exact y2, by rw [y1]; exact Int32.le_refl _⟩, Or.inl ⟨y1, by rw [lti, s2]; exact y3⟩⟩
        · have cn := cnk y2
          obtain ⟨_, _, _, _, _, _, _, u8, uu⟩ := ug a2.toNatClampNeg (by omega)
          refine ⟨⟨S, by rw [lei, t0i]; exact y4, by rw [lei, show (-1 : Int32).toInt = -1 from rfl]; omega⟩, Or.inr ⟨y1, ?_, ?_⟩⟩
          · rw [r0, lti, ofn_i (by omega)]
            exact y3
          · rw [r35 (by omega) y3 (by omega), uu, lti, ofn_i (by omega)]
            exact y5
      · rintro ⟨⟨_, z2, z3⟩, z4⟩
        rw [lei, t0i] at z2
        rw [lei, show (-1 : Int32).toInt = -1 from rfl] at z3
        rcases z4 with ⟨y1, y2⟩ | ⟨y1, y2, y3⟩
        · rw [lti, s2] at y2
          exact Or.inl ⟨y1, z2, y2⟩
        · have y4 : a2.toInt ≠ -1 := fun e => y1 ((m1 a2).mp e)
          rw [r0, lti, ofn_i (by omega)] at y2
          have cn := cnk (x := a2) (by omega)
          obtain ⟨_, _, _, _, _, _, _, u8, uu⟩ := ug a2.toNatClampNeg (by omega)
          rw [r35 z3 y2 y4, uu, lti, ofn_i (by omega)] at y3
          exact Or.inr ⟨y1, ⟨by omega, y2⟩, z2, y3⟩
    intro T9
    refine At_hasVariable_c8 W5 T9 H.1 F hU (fun r10 q12 => ?_)
    intro W13
    intro M14
    refine ⟨fun c15 => ?_, fun c15 => ?_⟩
    · have P := q12.2.mp c15
      have cc := PV.mp P
      intro T16
      refine At_variableOf_c8 W13 T16 H.1 F (P.imp id (fun z => ⟨z.1, z.2.1, z.2.2.1, by
        have cn := cnk z.2.1.1
        obtain ⟨_, _, _, _, _, _, _, u8, _⟩ := ug a2.toNatClampNeg (by have := z.2.1.2; omega)
        have := z.2.2.2
        omega⟩)) (fun r17 q19 => ?_)
      intro W20
      intro M21
      refine h _ _ ⟨rfl, cc, ?_⟩
      unfold vv8
      rw [q19]
      rcases P with ⟨y1, y2, y3⟩ | ⟨y1, ⟨y2, y3⟩, y4, y5⟩
      · have i3 := cnk y2
        have e1 : (((143 : Int32) * a1) + (1 : Int32)).toInt = 143 * a1.toInt + 1 := by rw [add_i (by rw [i143, t1i]; omega) (by rw [i143, t1i]; omega), i143, t1i]
        have e3 : ((((143 : Int32) * a1) + (1 : Int32)) + a3).toNatClampNeg = 143 * a1.toNatClampNeg + (1 + a3.toNatClampNeg) := by
          rw [nc_5, add_i (by rw [e1]; omega) (by rw [e1]; omega), e1]
          omega
        rw [if_pos y1, if_pos y1, e3]
        exact g2 a3.toNatClampNeg (by omega)
      · have cn := cnk y2
        have i3 := cnk y4
        obtain ⟨_, _, _, _, _, _, _, u8, _⟩ := ug a2.toNatClampNeg (by omega)
        have t36 : (36 : Int32).toInt = 36 := rfl
        have e9 := kv_8 (c := a2) (by omega) (by omega)
        have e1 : (((143 : Int32) * a1) + (36 : Int32)).toInt = 143 * a1.toInt + 36 := by rw [add_i (by rw [i143, t36]; omega) (by rw [i143, t36]; omega), i143, t36]
        have e2 : ((((143 : Int32) * a1) + (36 : Int32)) + ((9 : Int32) * a2)).toInt = 143 * a1.toInt + 36 + 9 * a2.toInt := by rw [add_i (by rw [e1, e9]; omega) (by rw [e1, e9]; omega), e1, e9]
        have e3 : (((((143 : Int32) * a1) + (36 : Int32)) + ((9 : Int32) * a2)) + a3).toNatClampNeg = 143 * a1.toNatClampNeg + (36 + 9 * a2.toNatClampNeg + a3.toNatClampNeg) := by
          rw [nc_5, add_i (by rw [e2]; omega) (by rw [e2]; omega), e2]
          omega
        rw [if_neg y1, if_neg y1, e3]
        exact g4 a2.toNatClampNeg a3.toNatClampNeg (by omega) (by omega)
    · intro κ_22 hκ_22
      exact hx _ _ ⟨rfl, hκ_22, fun z => q12.2.mpr (PV.mpr z) (by first | exact c15 | exact Classical.not_not.mp c15)⟩

end
section
set_option maxHeartbeats 1600000
/-! the class: state by what it answers -/
theorem Ch_state_c8 {C : zC} {n0 : Nat} {a0 : Nat} {a1 : Int32} {a2 : Int32} {κ : zS} {Q : Int32 → zS → Prop} {X : zXp} (W : zW C n0 κ) (Ta0 : zT κ a0 = 15) (ρ : Nat → Nat) (L9 : Int) (σ9 : rS) (hr8 : RC8 κ a0 σ9) (hp : chI9 ρ κ a0 L9) (h : ∀ (v : Int32) (κ' : zS), (κ = κ' ∧ sc8 σ9 a1 a2 ∧ v = sv8 σ9 a1 a2) → Q v κ') (hx : ∀ (cls : String) (κ' : zS), (cls = "java/lang/IndexOutOfBoundsException" ∧ κ' = ut κ ∧ ¬ sc8 σ9 a1 a2) → X cls κ') : zRun C 8 mCh_state [.ref a0, .int a1, .int a2] κ (oI Q X) := by
  refine Ch_state_run W Ta0 ?_
  replace W := W.lo (Nat.le_trans W.1.2.1 W.1.2.2) (Nat.le_refl (zn κ))
  unfold w_Ch_state_0
  intro T1
  refine At_holds_c8 W T1  (fun r2 q4 => ?_)
  intro W5
  intro M6
  refine ⟨fun c7 => ?_, fun c7 => ?_⟩
  · intro κ_8 hκ_8
    exact hx _ _ ⟨rfl, hκ_8, fun z => q4.2.mpr ((hs_8 hr8).mpr z.1) c7⟩
  · have H := ch_h9 hp ⟨q4.1, q4.2.mp⟩ c7
    have HL := H.2.2.1
    have S := (hs_8 hr8).mp (q4.2.mp c7)
    have NX := nx_8 hr8 S
    obtain ⟨⟨nv, s, w, cr, n, m, x, ⟨f1, f2, f3⟩, ⟨b1, b2, b3⟩, ⟨v1, v2, v3⟩, hS, _, _, hb, _⟩, hq, _⟩ := hr8.2.2.1 S.1
    obtain ⟨s1, s2, s3⟩ := sh_8 cr
    have xe : zI κ atExplored (zR κ chAtlas a0) ≠ 0 := (q4.2.mp c7).1
    have ac : zR κ atCode (zR κ chAtlas a0) = zR κ chCode a0 := (hp.2.1.2.2 xe).1.1
    have v1' : zI κ hoTotal (zR κ atStates (zR κ chAtlas a0)) = Int32.ofNat n := v1
    have k0 := S.2.1
    have k1 := S.2.2
    rw [lei, t0i] at k0
    rw [lti, f1, ofn_i (by omega)] at k1
    have kn := cnk k0
    obtain ⟨d, K, ⟨⟨d0, d1, w1, qd⟩, g2, g3, g4, g5⟩, hk⟩ := hS a1.toNatClampNeg (by omega)
    have F : SF8 κ (zR κ chAtlas a0) K w d a1 := by
      refine ⟨k0, ?_, by rw [ac]; exact s1, d0, d1, w1⟩
      unfold hk9
      rw [v1', ofn_i (by omega)]
      exact hk
    have i143 := jv_8 k0 (by omega)
    have r0 : σ9.2.2.1 73 ((143 : Int32) * a1).toNatClampNeg = Int32.ofNat d := by
      rw [nc_5, i143, show (143 * a1.toInt).toNat = 143 * a1.toNatClampNeg + 0 by omega]
      exact qd
    have HB := hb a1.toNatClampNeg (by omega)
    have h80 : zA κ (zR κ atTotals (zR κ chAtlas a0)) a1.toNatClampNeg = σ9.2.2.1 80 a1.toNatClampNeg := HB.2.1
    have h81 : zA κ (zR κ atChooses (zR κ chAtlas a0)) a1.toNatClampNeg = σ9.2.2.1 81 a1.toNatClampNeg := HB.2.2.2
    have h87 : zA κ (zR κ atHopeless (zR κ chAtlas a0)) a1.toNatClampNeg ≠ 0 ↔ σ9.2.2.1 87 a1.toNatClampNeg ≠ 0 := hq _ (by rw [f1, cl_5 (by omega)]; omega)
    refine ⟨fun c9 => ?_, fun c9 => ?_⟩
    · intro κ_10 hκ_10
      exact hx _ _ ⟨rfl, hκ_10, fun z => absurd c9 (Int32.not_lt.mpr z.2.1)⟩
    · refine ⟨fun c11 => ?_, fun c11 => ?_⟩
      · have cc : sc8 σ9 a1 a2 := ⟨S, Int32.not_lt.mp c9, c11⟩
        refine ⟨fun c12 => ?_, fun c12 => ?_, fun c12 => ?_, fun c12 => ?_, fun c12 => ?_, fun c12 => ?_⟩
        · refine ⟨?_, h _ _ ⟨rfl, cc, ?_⟩⟩
          · rw [inb_iff, H.2.1.2.1]
            omega
          · unfold sv8
            rw [if_neg (by omega), if_neg (by omega), if_neg (by omega), if_neg (by omega), if_neg (by omega)]
            exact h80
        · intro T13
          refine At_callsOf_c8 W5 T13 H.1 F (fun r14 q16 => ?_)
          intro W17
          intro M18
          intro T19
          have e14 : (r14 - (1 : Int32)).toInt = (d : Int) - 1 := by rw [q16, sub_i (by rw [ofn_i (by omega), t1i]; omega) (by rw [ofn_i (by omega), t1i]; omega), ofn_i (by omega), t1i]
          have n14 := cnk (x := r14 - (1 : Int32)) (by omega)
          refine At_statementOf_c8 W17 T19 H.1 F (by omega) (by omega) (fun r20 q22 => ?_)
          intro W23
          intro M24
          refine h _ _ ⟨rfl, cc, ?_⟩
          unfold sv8
          rw [if_pos c12, q22]
          unfold sl8
          rw [r0, ← q16]
          have t35 : (35 : Int32).toInt = 35 := rfl
          have e9 := kv_8 (c := r14 - (1 : Int32)) (by omega) (by omega)
          have e1 : (((143 : Int32) * a1) + (35 : Int32)).toInt = 143 * a1.toInt + 35 := by rw [add_i (by rw [i143, t35]; omega) (by rw [i143, t35]; omega), i143, t35]
          have e3 : ((((143 : Int32) * a1) + (35 : Int32)) + ((9 : Int32) * (r14 - (1 : Int32)))).toNatClampNeg = 143 * a1.toNatClampNeg + (35 + 9 * (r14 - (1 : Int32)).toNatClampNeg) := by
            rw [nc_5, add_i (by rw [e1, e9]; omega) (by rw [e1, e9]; omega), e1, e9]
            omega
          rw [e3]
          exact g3 (r14 - (1 : Int32)).toNatClampNeg (by omega)
        · intro T25
          refine At_callsOf_c8 W5 T25 H.1 F (fun r26 q28 => ?_)
          intro W29
          intro M30
          refine h _ _ ⟨rfl, cc, ?_⟩
          unfold sv8
          rw [if_neg (by omega), if_pos c12, q28, r0]
        · intro T31
          refine At_waysOf_c W5 T31  ⟨H.2.1.1, HL⟩ (fun r32 q34 => ?_)
          intro W35
          intro M36
          refine h _ _ ⟨rfl, cc, ?_⟩
          unfold sv8
          rw [if_neg (by omega), if_neg (by omega), if_pos c12, q34, NX.1, NX.2.1]
        · refine ⟨?_, fun c37 => ?_, fun c37 => ?_⟩
          · rw [inb_iff, H.2.1.2.2.2.2.1]
            omega
          · refine h _ _ ⟨rfl, cc, ?_⟩
            rw [h81] at c37
            unfold sv8
            rw [if_neg (by omega), if_neg (by omega), if_neg (by omega), if_pos c12, if_pos c37]
          · refine h _ _ ⟨rfl, cc, ?_⟩
            rw [h81] at c37
            unfold sv8
            rw [if_neg (by omega), if_neg (by omega), if_neg (by omega), if_pos c12, if_neg c37]
        · refine ⟨?_, fun c38 => ?_, fun c38 => ?_⟩
          · rw [inb_iff, H.2.1.2.2.2.2.2]
            omega
          · refine h _ _ ⟨rfl, cc, ?_⟩
            have z : σ9.2.2.1 87 a1.toNatClampNeg = 0 := Decidable.byContradiction (fun y => h87.mpr y c38)
            unfold sv8
            rw [if_neg (by omega), if_neg (by omega), if_neg (by omega), if_neg (by omega), if_pos c12, if_pos z]
          · refine h _ _ ⟨rfl, cc, ?_⟩
            have z := h87.mp c38
            unfold sv8
            rw [if_neg (by omega), if_neg (by omega), if_neg (by omega), if_neg (by omega), if_pos c12, if_neg z]
      · intro κ_39 hκ_39
        exact hx _ _ ⟨rfl, hκ_39, fun z => c11 z.2.2⟩

end
section
set_option maxHeartbeats 1600000
/-! the class: count by what it answers -/
section
variable {κ : zS} {a : Nat} {σ : rS} {nv s w : Nat}
theorem cu_i8 {c g : Nat} (h : g ∈ ci6) : (cu7 κ c).1 g = zI κ g c := by
  show (if g ∈ ci6 then zI κ g c else 0) = _
  rw [if_pos h]
theorem cd_8 (cr : CR7 nv s w (cu7 κ (zR κ chCode a)) σ) : zI κ coVars (zR κ chCode a) = σ.1 15 ∧ zI κ coArrays (zR κ chCode a) = σ.1 16 ∧ zI κ coFunctions (zR κ chCode a) = σ.1 18 ∧ zI κ coStatements (zR κ chCode a) = σ.1 19 := by
  obtain ⟨T, X, Bk, N, Z, na, f, _, F, _⟩ := cr
  obtain ⟨⟨⟨a0, _⟩, ⟨a1, _⟩, ⟨a2, _⟩, ⟨a3, _⟩, _⟩, ⟨_, c0, c1, c2, c3⟩, _⟩ := F
  rw [cu_i8 (by decide)] at a0 a1 a2 a3
  rw [si1, if_neg (by decide)] at c0 c1 c2 c3
  exact ⟨a0.trans c0.symm, a1.trans c1.symm, a2.trans c2.symm, a3.trans c3.symm⟩
theorem cn_e8 {f g : Nat → Int32} {n : Nat} (h : ∀ k, k < n → (f k ≠ 0 ↔ g k ≠ 0)) : cn8 f n = cn8 g n := ct_e8 h
theorem Ch_count_c8 {C : zC} {n0 : Nat} {a0 : Nat} {a1 : Int32} {κ : zS} {Q : Int32 → zS → Prop} {X : zXp} (W : zW C n0 κ) (Ta0 : zT κ a0 = 15) (ρ : Nat → Nat) (L9 : Int) (σ9 : rS) (hr8 : RC8 κ a0 σ9) (hp : chI9 ρ κ a0 L9) (h : ∀ (v : Int32) (κ' : zS), (κ = κ' ∧ kc8 σ9 a1 ∧ v = kv8 σ9 a1) → Q v κ') (hx : ∀ (cls : String) (κ' : zS), (cls = "java/lang/IndexOutOfBoundsException" ∧ κ' = ut κ ∧ ¬ kc8 σ9 a1) → X cls κ') : zRun C 8 mCh_count [.ref a0, .int a1] κ (oI Q X) := by
  refine Ch_count_run W Ta0 ?_
  replace W := W.lo (Nat.le_trans W.1.2.1 W.1.2.2) (Nat.le_refl (zn κ))
  unfold w_Ch_count_0
  have t4 : (4 : Int32).toInt = 4 := rfl
  have t11 : (11 : Int32).toInt = 11 := rfl
  refine ⟨fun c1 => ?_, fun c1 => ?_⟩
  · intro κ_2 hκ_2
    exact hx _ _ ⟨rfl, hκ_2, fun z => absurd c1 (Int32.not_lt.mpr z.1)⟩
  · refine ⟨fun c3 => ?_, fun c3 => ?_⟩
    · have cc : kc8 σ9 a1 := ⟨Int32.not_lt.mp c1, c3⟩
      have k0 := cc.1
      have k1 := cc.2
      rw [lei, t0i] at k0
      rw [lei, t11] at k1
      refine ⟨fun c4 => ?_, fun c4 => ?_⟩
      · have k11 : ¬ a1.toInt = 11 := fun z => c4 (Int32.toInt_inj.mp (z.trans t11.symm))
        refine ⟨fun c5 => ?_, fun c5 => ?_⟩
        · rw [lei, t4] at c5
          refine ⟨fun c6 => ?_, fun c6 => ?_⟩
          · refine h _ _ ⟨rfl, cc, ?_⟩
            have e69 := hr8.2.1.mpr c6
            obtain ⟨e70, e71, e72⟩ := hr8.2.2.2.1 e69
            unfold kv8
            rw [if_neg (by omega), if_neg (by omega), if_neg (by omega), if_neg (by omega), e69, e70, e71, e72, if_pos (show (0 : Int32) = 0 from rfl), if_pos (show (0 : Int32) = 0 from rfl)]
            have z0 : ∀ f : Nat → Int32, Int32.ofNat (cn8 f (0 : Int32).toNatClampNeg) = 0 := fun f => rfl
            rw [z0, z0]
            by_cases d4 : a1.toInt = 4
            · rw [if_pos d4]
            rw [if_neg d4]
            by_cases d5 : a1.toInt = 5
            · rw [if_pos d5]
            rw [if_neg d5]
            by_cases d6 : a1.toInt = 6
            · rw [if_pos d6]
            rw [if_neg d6]
            by_cases d7 : a1.toInt = 7
            · rw [if_pos d7]
            rw [if_neg d7]
            by_cases d8 : a1.toInt = 8
            · rw [if_pos d8]
            rw [if_neg d8]
            by_cases d9 : a1.toInt = 9
            · rw [if_pos d9]
            rw [if_neg d9, if_pos (by omega)]
          · have e69 : ¬ σ9.1 69 = 0 := fun z => c6 (hr8.2.1.mp z)
            obtain ⟨⟨nv, s, w, cr, n, m, x, ⟨f1, f2, f3⟩, ⟨b1, b2, b3⟩, ⟨v1, v2, v3⟩, hS, _, _, hb, _⟩, hq, hr, _⟩ := hr8.2.2.1 e69
            obtain ⟨⟨n9, A, _⟩, _⟩ := ch_x9 hp c6
            have v1' : zI κ hoTotal (zR κ atStates (zR κ chAtlas a0)) = Int32.ofNat n := v1
            have v2' : zI κ hoTotal (zR κ atEndings (zR κ chAtlas a0)) = Int32.ofNat m := v2
            have v3' : zI κ atNexts (zR κ chAtlas a0) = Int32.ofNat x := v3
            have r1' : zI κ atRings (zR κ chAtlas a0) = σ9.1 88 := hr.1
            have r2' : zI κ atGreatest (zR κ chAtlas a0) = σ9.1 89 := hr.2
            have n70 : (σ9.1 70).toNatClampNeg = n := by rw [f1, cl_5 (by omega)]
            intro T7
            refine At_howMany_q6 W T7 n v1' b1 ⟨A.2.2.2.2.1, A.2.2.2.2.2⟩ (fun r8 q9 => ?_)
            obtain ⟨_, z9⟩ := q9
            intro W10
            intro M11
            refine h _ _ ⟨rfl, cc, ?_⟩
            rw [z9]
            unfold hm8 kv8
            rw [if_neg (show ¬ a1.toInt = 0 by omega), if_neg (show ¬ a1.toInt = 1 by omega), if_neg (show ¬ a1.toInt = 2 by omega), if_neg (show ¬ a1.toInt = 3 by omega), n70, v1', v2', v3', r1', r2', f1, f2, f3, if_neg e69, if_neg e69]
            have h9 : cn8 (zA κ (zR κ atChooses (zR κ chAtlas a0))) n = cn8 (σ9.2.2.1 81) n := cn_e8 (fun k hk => by rw [show zA κ (zR κ atChooses (zR κ chAtlas a0)) k = σ9.2.2.1 81 k from (hb k hk).2.2.2])
            have h10 : cn8 (zA κ (zR κ atHopeless (zR κ chAtlas a0))) n = cn8 (σ9.2.2.1 87) n := cn_e8 (fun k hk => hq k (by rw [n70]; exact hk))
            rw [h9, h10]
            by_cases d4 : a1.toInt = 4
            · rw [if_pos d4, if_pos d4]
            rw [if_neg d4, if_neg d4]
            by_cases d5 : a1.toInt = 5
            · rw [if_pos d5, if_pos d5]
            rw [if_neg d5, if_neg d5]
            by_cases d6 : a1.toInt = 6
            · rw [if_pos d6, if_pos d6]
            rw [if_neg d6, if_neg d6]
            by_cases d7 : a1.toInt = 7
            · rw [if_pos d7, if_pos d7]
            rw [if_neg d7, if_neg d7]
            by_cases d8 : a1.toInt = 8
            · rw [if_pos d8, if_pos d8]
            rw [if_neg d8, if_neg d8]
            by_cases d9 : a1.toInt = 9
            · rw [if_pos d9, if_pos (show a1 = 9 from Int32.toInt_inj.mp (by rw [d9]; rfl))]
            rw [if_neg d9, if_neg (fun z => d9 (by rw [z]; rfl)), if_pos (by omega)]
        · rw [lei, t4] at c5
          have e14 := hr8.1.2.1
          refine ⟨fun c12 => ?_, fun c12 => ?_⟩
          · refine h _ _ ⟨rfl, cc, ?_⟩
            unfold kv8
            rw [e14.mpr c12, if_pos (show (0 : Int32) = 0 from rfl), if_pos (show (0 : Int32) = 0 from rfl), if_pos (show (0 : Int32) = 0 from rfl), if_pos (show (0 : Int32) = 0 from rfl)]
            by_cases d0 : a1.toInt = 0
            · rw [if_pos d0]
            rw [if_neg d0]
            by_cases d1 : a1.toInt = 1
            · rw [if_pos d1]
            rw [if_neg d1]
            by_cases d2 : a1.toInt = 2
            · rw [if_pos d2]
            rw [if_neg d2, if_pos (by omega)]
          · have n14 : ¬ σ9.1 14 = 0 := fun z => c12 (e14.mp z)
            obtain ⟨nv, s, w, cr⟩ := hr8.1.2.2 n14
            obtain ⟨d15, d16, d18, d19⟩ := cd_8 cr
            intro T13
            refine Co_howMany_run W T13 ?_
            unfold w_Co_howMany_0
            refine ⟨fun c14 => ?_, fun c14 => ?_, fun c14 => ?_, fun c14 => ?_⟩
            · intro W15
              intro M16
              refine h _ _ ⟨rfl, cc, ?_⟩
              unfold kv8
              rw [if_neg (by omega), if_neg (by omega), if_neg (by omega), if_pos (by omega), if_neg n14, d19]
            · intro W15
              intro M16
              refine h _ _ ⟨rfl, cc, ?_⟩
              unfold kv8
              rw [if_pos c14, if_neg n14, d15]
            · intro W15
              intro M16
              refine h _ _ ⟨rfl, cc, ?_⟩
              unfold kv8
              rw [if_neg (by omega), if_pos c14, if_neg n14, d16]
            · intro W15
              intro M16
              refine h _ _ ⟨rfl, cc, ?_⟩
              unfold kv8
              rw [if_neg (by omega), if_neg (by omega), if_pos c14, if_neg n14, d18]
      · refine h _ _ ⟨rfl, cc, ?_⟩
        have e : σ9.1 2 = zI κ taLength (zR κ chTape a0) := (mk_e9 hr8.1.1).1
        unfold kv8
        have k11 : a1.toInt = 11 := by rw [c4]; rfl
        rw [if_neg (by omega), if_neg (by omega), if_neg (by omega), if_neg (by omega), if_neg (by omega), if_neg (by omega), if_neg (by omega), if_neg (by omega), if_neg (by omega), if_neg (by omega), if_neg (by omega), e]
    · intro κ_17 hκ_17
      exact hx _ _ ⟨rfl, hκ_17, fun z => c3 z.2⟩
end

end
section
set_option maxHeartbeats 1600000
/-! the class: best by what it answers -/
theorem ft_28 {q : Rat} : f2W8 q ↔ ftW8 q := by
  unfold f2W8 ftW8
  rw [show (65536 : Nat) ^ 16 = 2 ^ 256 by decide +kernel]
/-- the tables of both sides -/
theorem tl_a8 {κ : zS} {t w s : Nat} {σ : rS} (A : AT8 w s (av8 κ t) σ) (hO : exO σ) (h0 : 0 < (σ.1 70).toNatClampNeg) : tlW8 (tcW8 κ t) (trW8 σ) (σ.1 70).toNatClampNeg := by
  obtain ⟨n, m, x, ⟨f1, f2, f3⟩, ⟨b1, b2, b3⟩, _, _, _, hN, hb, hl⟩ := A
  have e : (σ.1 70).toNatClampNeg = n := by rw [f1, cl_5 (by omega)]
  have ex : (σ.1 72).toInt = (x : Int) := by rw [f3, ofn_i (by omega)]
  rw [e] at h0
  refine ⟨fun k hk => ?_, fun k hk => ?_, fun k i hk h1 h2 => ?_⟩
  · rw [e] at hk
    by_cases c : k < n
    · exact (hb k c).1
    · have c2 : k = n := by omega
      rw [c2]
      exact hl h0
  · rw [e] at hk
    exact ⟨(hb k hk).2.1, (hb k hk).2.2.1, (hb k hk).2.2.2⟩
  · obtain ⟨⟨a0, a1, a2⟩, c⟩ := lo_r8 hO hk
    have h2' : i < (σ.2.2.1 76 (k + 1)).toNatClampNeg := h2
    have c1 := cnk (x := σ.2.2.1 76 (k + 1)) (by omega)
    rw [lei, ex] at c
    exact hN i (by omega)
theorem tl_gn8 {t u : Tw8} {n : Nat} (h : tlW8 t u n) (hw : ∀ x, x < n → loW8 u x < loW8 u (x + 1)) (g : gnW8 u n) : gnW8 t n := fun k hk => by
  obtain ⟨g1, g2, g3⟩ := g k hk
  have q := h.2.1 k hk
  have l0 := tl_lo8 h (show k ≤ n by omega)
  have l1 := tl_lo8 h (show k + 1 ≤ n by omega)
  have w := (h.2.2 k (loW8 u k) hk (Nat.le_refl _) (hw k hk)).2.2
  rw [l0, l1, q.1, q.2.1, q.2.2, w]
  exact ⟨g1, g2, g3⟩
section
variable {κ : zS} {t n : Nat} {σ : rS}
theorem wm_b8 (h : tlW8 (tcW8 κ t) (trW8 σ) (σ.1 70).toNatClampNeg) (hO : exO σ) {k : Nat} (hk : k < (σ.1 70).toNatClampNeg) : wnW8 (tcW8 κ t) (σ.1 70).toNatClampNeg k = wbW8 σ k := tl_wn8 h (fun x hx => lw_b8 hO hx) (fun x y hx e => eN_c8 hO hx ((eN_w8 hO hx).mp e)) _ k hk
theorem pm_b8 (h : tlW8 (tcW8 κ t) (trW8 σ) (σ.1 70).toNatClampNeg) (hO : exO σ) {k : Nat} (hk : k < (σ.1 70).toNatClampNeg) : pcW8 (tcW8 κ t) (wnW8 (tcW8 κ t) (σ.1 70).toNatClampNeg) k = pbW8 σ k := by
  have e6 : (tcW8 κ t) 6 k = σ.2.2.1 81 k := (h.2.1 k hk).2.2
  have em : maW8 (tcW8 κ t) (wnW8 (tcW8 κ t) (σ.1 70).toNatClampNeg) k = maW8 (trW8 σ) (wbW8 σ) k := (tl_ma8 h hk (lw_b8 hO hk)).trans (ma_c8 (fun y e => wm_b8 h hO (eN_c8 hO hk ((eN_w8 hO hk).mp e))) (lw_b8 hO hk))
  unfold pcW8 pbW8
  rw [e6, em]
  by_cases c : σ.2.2.1 81 k = 0
  · rw [if_pos c, if_neg (fun z => z c)]
  · rw [if_neg c, if_pos c]
theorem ac_b8 (h : 0 < (σ.1 70).toNatClampNeg → tlW8 (tcW8 κ t) (trW8 σ) (σ.1 70).toNatClampNeg) (A : atW κ t (σ.1 70).toNatClampNeg) (Z : ZQ8 σ) (r : zI κ atRings t = σ.1 88) (e : zI κ atRings t ≤ 0) : ∀ x, x < (σ.1 70).toNatClampNeg → ¬ Tr (el8 κ t 0 (σ.1 70).toNatClampNeg) x x := fun x hx z => by
  rw [r] at e
  have H := h (by omega)
  exact Z.2.1.2 (Int32.le_antisymm e Z.2.1.1) x hx (Tr_congr (fun a b y => ⟨y.1, (tl_e8 H y.1).mp ((el_w8 A y.1).mp y)⟩) z)
end
theorem bs_w8 {κ κ' : zS} {a t : Nat} {σ : rS} {v : Int32} (e : zR κ soAtlas a = t) (M : mkW8 κ κ' a (σ.1 70).toNatClampNeg v) (r : zI κ atRings t = σ.1 88) (r0 : 0 ≤ σ.1 88) (hw : ∀ k, k < (σ.1 70).toNatClampNeg → wmW8 κ a (σ.1 70).toNatClampNeg k = wbW8 σ k ∧ pcW8 (tcW8 κ t) (wmW8 κ a (σ.1 70).toNatClampNeg) k = pbW8 σ k) : v = bv8 σ ∧ bp9 κ κ' t σ := by
  unfold mkW8 kpW8 at M
  rw [e, r] at M
  rcases M with ⟨m1, m2, m3⟩ | ⟨m1, ⟨m2, ⟨k, k1, k2⟩, ⟨_, m3⟩, _⟩ | ⟨m2, _, m3, _⟩⟩
  · have b := bv_28 (σ := σ) (fun z => m1 (by rw [z]; decide))
    refine ⟨by rw [b]; exact m2, fun z => ?_, fun _ => by rw [m3]⟩
    rw [b] at z
    exact absurd z (by decide)
  · have z0 := Int32.le_antisymm m1 r0
    have b := bv_38 z0 ⟨k, k1, fun z => k2 (by rw [(hw k k1).1]; exact ft_28.mpr z)⟩
    refine ⟨by rw [b]; exact m2, fun z => ?_, fun _ => m3⟩
    rw [b] at z
    exact absurd z (by decide)
  · have z0 := Int32.le_antisymm m1 r0
    have b := bv_08 z0 (fun k hk => by have y := (m3 k hk).2.1; rw [(hw k hk).1] at y; exact ft_28.mp y)
    exact ⟨by rw [b]; exact m2, fun _ k hk => (m3 k hk).2.2.trans (hw k hk).2, fun z => absurd b z⟩
theorem bk_16 {C : zC} {n0 a : Nat} {L : Int} {ρ : Nat → Nat} {κ κ' : zS} {σ : rS} {v : Int32} (W : zW C n0 κ) (T : zT κ a = 15) (I : chI9 ρ κ a L) (A : atW κ (zR κ chAtlas a) (σ.1 70).toNatClampNeg) (q : mpP9 ρ κ κ' (zR κ chSolver a) (σ.1 70).toNatClampNeg v) (M : mkW8 κ κ' (zR κ chSolver a) (σ.1 70).toNatClampNeg v) (K : kq16 ρ κ κ') (e : zR κ soAtlas (zR κ chSolver a) = zR κ chAtlas a) (r : zI κ atRings (zR κ chAtlas a) = σ.1 88) (r0 : 0 ≤ σ.1 88) (hw : ∀ k, k < (σ.1 70).toNatClampNeg → wmW8 κ (zR κ chSolver a) (σ.1 70).toNatClampNeg k = wbW8 σ k) : BK16 κ κ' a σ := by
  obtain ⟨ρ', ⟨hρ, Z⟩, S', _, tk, V, wo, _⟩ := q
  have B := bt_k16 W T I.2.2.1.1 I.2.2.1.2.2.2 Z K
  obtain ⟨⟨rs, bv⟩, ks, kd⟩ := B
  refine ⟨⟨ks, kd⟩, fun z => ?_, fun z => ?_⟩
  · unfold mkW8 at M
    rw [e, r] at M
    rcases M with ⟨m1, _⟩ | ⟨m1, ⟨_, ⟨k, k1, k2⟩, _⟩ | ⟨_, _, m3, _, m4, m5⟩⟩
    · rw [bv_28 (σ := σ) (fun y => m1 (by rw [y]; decide))] at z
      exact absurd z (by decide)
    · rw [bv_38 (Int32.le_antisymm m1 r0) ⟨k, k1, fun y => k2 (by rw [hw k k1]; exact ft_28.mpr y)⟩] at z
      exact absurd z (by decide)
    · have ew : ∀ k, k < (σ.1 70).toNatClampNeg → ∃ u, zQ κ' (zR κ' soWorths (zR κ chSolver a)) k = some u := by
        rcases wo with ⟨_, wo⟩ | wo
        · exact wo
        · rw [wo] at m5 ⊢
          exact ((I.2.2.2.1.2 (by rw [m5]; decide)).2 _ A).2
      rw [rs]
      refine ⟨⟨m4, m5⟩, fun k hk => ?_⟩
      have y := (m3 k hk).1
      rw [hw k hk] at y
      obtain ⟨u, hu⟩ := ew k hk
      refine ⟨?_, y⟩
      have tu : zT κ' u = 11 := (S'.1.1.2 u (by
        have a9 := A.2.2.1
        rw [S'.2.2.2.2.1.1 k u (by have := A.2.2.1; omega) hu]
        unfold raR
        omega)).1
      unfold wU9
      rw [hu]
      exact tu
  · unfold mkW8 at M
    rw [e, r] at M
    rcases M with ⟨m1, _, m3⟩ | ⟨m1, ⟨_, ⟨k, k1, k2⟩, _, m3, m4⟩ | ⟨_, _, m3, _⟩⟩
    · rw [m3]
      exact ⟨kA_r16.1, rfl, fun _ => kA_r16.2.1⟩
    · have b := bv_38 (Int32.le_antisymm m1 r0) ⟨k, k1, fun y => k2 (by rw [hw k k1]; exact ft_28.mpr y)⟩
      refine ⟨⟨by rw [rs]; exact m3, bv⟩, by rw [rs]; exact m4, fun y => ?_⟩
      rw [b] at y
      exact absurd y (by decide)
    · exact absurd (bv_08 (Int32.le_antisymm m1 r0) (fun k hk => by have y := (m3 k hk).2.1; rw [hw k hk] at y; exact ft_28.mp y)) z
theorem Ch_best_c8 {C : zC} {n0 : Nat} {a0 : Nat} {κ : zS} {Q : Int32 → zS → Prop} {X : zXp} (W : zW C n0 κ) (Ta0 : zT κ a0 = 15) (ρ : Nat → Nat) (L9 : Int) (σ9 : rS) (hr8 : RC8 κ a0 σ9) (hp : chI9 ρ κ a0 L9) (h : ∀ (v : Int32) (κ' : zS), ((∃ ρ', chI9 ρ' κ' a0 L9 ∧ (∃ F, zF F κ κ') ∧ pB8 κ κ' a0) ∧ bc8 σ9 ∧ v = bv8 σ9 ∧ bp9 κ κ' (zR κ chAtlas a0) σ9 ∧ BK16 κ κ' a0 σ9) → Q v κ') (hx : ∀ (cls : String) (κ' : zS), (cls = "java/lang/IllegalStateException" ∧ κ' = ut κ ∧ ¬ bc8 σ9) → X cls κ') : zRun C 9 mCh_best [.ref a0] κ (oI Q X) := by
  refine Ch_best_run W Ta0 ?_
  replace W := W.lo (Nat.le_trans W.1.2.1 W.1.2.2) (Nat.le_refl (zn κ))
  unfold w_Ch_best_0
  refine ⟨fun c1 => ?_, fun c1 => ?_⟩
  · have e69 : bc8 σ9 := fun z => c1 (hr8.2.1.mp z)
    obtain ⟨⟨nv, s, w, _, A8⟩, _, hr, zq, _⟩ := hr8.2.2.1 e69
    obtain ⟨⟨n9, A⟩, _⟩ := ch_x9 hp c1
    have r1 : zI κ atRings (zR κ chAtlas a0) = σ9.1 88 := hr.1
    have n70 : n9 = (σ9.1 70).toNatClampNeg := by
      obtain ⟨n, m, x, ⟨f1, _⟩, ⟨b1, _⟩, ⟨v1, _⟩, _⟩ := A8
      have v1' : zI κ hoTotal (zR κ atStates (zR κ chAtlas a0)) = Int32.ofNat n := v1
      have y := A.2.2.2.1
      rw [v1', ofn_i (by omega)] at y
      rw [f1, cl_5 (by omega)]
      omega
    subst n70
    have TL := tl_a8 A8 zq.1
    have lk := hp.2.2.1.2.2.1
    intro T2
    refine So_makePlanz_q16 W T2 ρ (σ9.1 70).toNatClampNeg (by rw [lk.1]; exact fun z => ac_b8 TL A zq r1 z) (by
      rw [lk.1]
      intro k hk
      exact tl_gn8 (TL (by omega)) (fun x hx => lw_b8 zq.1 hx) zq.2.2 k hk) ?_ (fun r3 κ_4 q5 => ?_)
    · refine ⟨hp.2.2.1.1, ?_, by rw [lk.1]; exact A, hp.2.2.1.2.1⟩
      rw [lk.2]
      exact hp.2.1.1.2.2.1
    intro W6
    intro M7
    obtain ⟨q5, z9, kq9⟩ := q5
    have BK : BK16 κ κ_4 a0 σ9 := bk_16 W Ta0 hp A q5 z9 kq9 lk.1 r1 zq.2.1.1 (fun k hk => by
      have H := TL (by omega)
      unfold wmW8
      rw [lk.1]
      exact wm_b8 H zq.1 hk)
    have B := bs_w8 lk.1 z9 r1 zq.2.1.1 (fun k hk => by
      have H := TL (by omega)
      unfold wmW8
      rw [lk.1]
      exact ⟨wm_b8 H zq.1 hk, pm_b8 H zq.1 hk⟩)
    exact h _ _ ⟨ch_p9 W Ta0 hp c1 A q5, e69, B.1, B.2, BK⟩
  · intro κ_8 hκ_8
    exact hx _ _ ⟨rfl, hκ_8, fun z => z (hr8.2.1.mpr (by first | exact c1 | (exact Classical.not_not.mp c1)))⟩

end
section
set_option maxHeartbeats 1600000
/-! the class: decide, decided by what they answer -/
section
variable {κ : zS} {a : Nat} {σ : rS}
theorem cx_8 (h : RC8 κ a σ) {k : Int32} (hk : σ.1 69 ≠ 0 ∧ 0 ≤ k ∧ k < σ.1 70) : zA κ (zR κ atChooses (zR κ chAtlas a)) k.toNatClampNeg = σ.2.2.1 81 k.toNatClampNeg ∧ plC8 κ a k.toNatClampNeg = σ.2.2.1 83 k.toNatClampNeg := by
  obtain ⟨ex, k0, k1⟩ := hk
  obtain ⟨⟨nv, s, w, _, n, m, x, ⟨e1, _, _⟩, ⟨b1, _, _⟩, _, _, _, _, hb, _⟩, _, _, _, PL, _⟩ := h.2.2.1 ex
  have n70 : (σ.1 70).toNatClampNeg = n := by rw [e1, cl_5 (by omega)]
  rw [lei, t0i] at k0
  rw [lti, e1, ofn_i (by omega)] at k1
  have kn := cnk k0
  have kk : k.toNatClampNeg < n := by omega
  exact ⟨(hb _ kk).2.2.2, PL _ (by rw [n70]; exact kk)⟩
end
theorem Ch_decided_c8 {C : zC} {n0 : Nat} {a0 : Nat} {a1 : Int32} {κ : zS} {Q : Int32 → zS → Prop} {X : zXp} (W : zW C n0 κ) (Ta0 : zT κ a0 = 15) (ρ : Nat → Nat) (L9 : Int) (σ9 : rS) (hr8 : RC8 κ a0 σ9) (hp : chI9 ρ κ a0 L9) (h : ∀ (v : Int32) (κ' : zS), (κ = κ' ∧ gc8 σ9 a1 ∧ v = gv8 σ9 a1) → Q v κ') (hx : ∀ (cls : String) (κ' : zS), (cls = "java/lang/IndexOutOfBoundsException" ∧ κ' = ut κ ∧ ¬ gc8 σ9 a1) → X cls κ') : zRun C 8 mCh_decided [.ref a0, .int a1] κ (oI Q X) := by
  refine Ch_decided_run W Ta0 ?_
  replace W := W.lo (Nat.le_trans W.1.2.1 W.1.2.2) (Nat.le_refl (zn κ))
  unfold w_Ch_decided_0
  intro T1
  refine At_holds_c8 W T1  (fun r2 q4 => ?_)
  intro W5
  intro M6
  refine ⟨fun c7 => ?_, fun c7 => ?_⟩
  · intro κ_8 hκ_8
    exact hx _ _ ⟨rfl, hκ_8, fun z => q4.2.mpr ((hs_8 hr8).mpr z.1) c7⟩
  · have H := ch_h9 hp ⟨q4.1, q4.2.mp⟩ c7
    have S := (hs_8 hr8).mp (q4.2.mp c7)
    obtain ⟨N1, N2⟩ := cx_8 hr8 S
    refine ⟨?_, ?_⟩
    · rw [inb_iff, H.2.1.2.2.2.2.1]
      have y := H.2.2.1
      omega
    refine ⟨fun c9 => ?_, fun c9 => ?_⟩
    · refine ⟨?_, ?_⟩
      · rw [inb_iff, H.2.1.2.2.2.1]
        have y := H.2.2.1
        omega
      exact h _ _ ⟨rfl, ⟨S, by rw [← N1]; exact c9⟩, N2⟩
    · intro κ_10 hκ_10
      exact hx _ _ ⟨rfl, hκ_10, fun z => z.2 (by rw [← N1]; first | exact c9 | (exact Classical.not_not.mp c9))⟩
/-- decide touches the plan and whether it is solved -/
def dF16 (κ : zS) (a : Nat) : Nat → Nat → Prop := fun f x => (x = zR κ chSolver a ∧ f = soSolved) ∨ (x = zR κ chAtlas a ∧ f = atPlan)
theorem dd_16 {C : zC} {n0 a : Nat} {κ τ : zS} (W : zW C n0 κ) (T : zT κ a = 15) (Z : zF (dF16 κ a) κ τ) : kW16 κ τ a ∧ kS16 κ τ a ∧ kD16 κ τ a := by
  have nf : ∀ f x, f ≠ soSolved → f ≠ atPlan → ¬ dF16 κ a f x := fun f x h1 h2 z => by
    rcases z with z | z
    · exact h1 z.2
    · exact h2 z.2
  have n8 : ∀ t, t = 8 ∨ t = 11 → ∀ f w, zT κ w = t → ¬ dF16 κ a f w := fun t ht f w e z => by
    rcases z with z | z
    · rw [z.1, ty_chSolver W T] at e
      rcases ht with y | y <;> rw [y] at e <;> exact absurd e (by decide)
    · rw [z.1, ty_chAtlas W T] at e
      rcases ht with y | y <;> rw [y] at e <;> exact absurd e (by decide)
  exact ⟨kW_z16 W T Z (n8 8 (Or.inl rfl)) (n8 11 (Or.inr rfl)) (nf _ _ (by decide) (by decide)) (nf _ _ (by decide) (by decide)) (nf _ _ (by decide) (by decide)), kS_z16 W Z (n8 8 (Or.inl rfl)) (n8 11 (Or.inr rfl)) (nf _ _ (by decide) (by decide)), dr_o16 W T Z (nf _ _ (by decide) (by decide)) (nf _ _ (by decide) (by decide))⟩
theorem Ch_decide_c8 {C : zC} {n0 : Nat} {a0 : Nat} {a1 : Int32} {a2 : Int32} {κ : zS} {Q : Int32 → zS → Prop} {X : zXp} (W : zW C n0 κ) (Ta0 : zT κ a0 = 15) (ρ : Nat → Nat) (L9 : Int) (σ9 : rS) (hr8 : RC8 κ a0 σ9) (hp : chI9 ρ κ a0 L9) (h : ∀ (v : Int32) (κ' : zS), ((chI9 ρ κ' a0 L9 ∧ (∃ F, zF F κ κ') ∧ pDc8 κ κ' a0 σ9 a1 a2) ∧ dc8 σ9 a1 a2 ∧ v = dv8 σ9 a1 a2) → Q v κ') (hx : ∀ (cls : String) (κ' : zS), (cls = "java/lang/IndexOutOfBoundsException" ∧ κ' = ut κ ∧ ¬ dc8 σ9 a1 a2) → X cls κ') : zRun C 8 mCh_decide [.ref a0, .int a1, .int a2] κ (oI Q X) := by
  refine Ch_decide_run W Ta0 ?_
  replace W := W.lo (Nat.le_trans W.1.2.1 W.1.2.2) (Nat.le_refl (zn κ))
  unfold w_Ch_decide_0
  intro T1
  refine At_holds_c8 W T1  (fun r2 q4 => ?_)
  intro W5
  intro M6
  refine ⟨fun c7 => ?_, fun c7 => ?_⟩
  · intro κ_8 hκ_8
    exact hx _ _ ⟨rfl, hκ_8, fun z => q4.2.mpr ((hs_8 hr8).mpr z.1) c7⟩
  · have H := ch_h9 hp ⟨q4.1, q4.2.mp⟩ c7
    have S := (hs_8 hr8).mp (q4.2.mp c7)
    obtain ⟨N1, N2⟩ := cx_8 hr8 S
    obtain ⟨F1, F2, _⟩ := nx_8 hr8 S
    refine ⟨?_, ?_⟩
    · rw [inb_iff, H.2.1.2.2.2.2.1]
      have y := H.2.2.1
      omega
    refine ⟨fun c9 => ?_, fun c9 => ?_⟩
    · intro κ_10 hκ_10
      exact hx _ _ ⟨rfl, hκ_10, fun z => z.2.1 (by rw [← N1]; first | exact c9 | (exact Classical.not_not.mp c9))⟩
    · refine ⟨fun c11 => ?_, fun c11 => ?_⟩
      · intro κ_12 hκ_12
        exact hx _ _ ⟨rfl, hκ_12, fun z => absurd c11 (Int32.not_lt.mpr z.2.2.1)⟩
      · intro T13
        refine At_waysOf_c W5 T13  ?_ (fun r14 q16 => ?_)
        · exact ⟨H.2.1.1, H.2.2.1⟩
        intro W17
        intro M18
        have q15 : r14 = σ9.2.2.1 76 (a1 + (1 : Int32)).toNatClampNeg - σ9.2.2.1 76 a1.toNatClampNeg := by rw [q16, F1, F2]
        refine ⟨fun c19 => ?_, fun c19 => ?_⟩
        · have cc : dc8 σ9 a1 a2 := ⟨S, fun z => c9 (by rw [N1]; exact z), Int32.not_lt.mp c11, by rw [← q15]; first | exact c19 | exact Int32.not_le.mp c19⟩
          refine ⟨?_, ?_⟩
          · rw [inb_iff, H.2.1.2.2.2.1]
            have y := H.2.2.1
            omega
          intro x20 hx20
          refine ⟨?_, ?_⟩
          · rw [inb_iff, H.2.1.2.2.2.1]
            have y := H.2.2.1
            omega
          intro κ_21 hκ_21
          intro W22
          intro κ_23 hκ_23
          intro W24
          have o := W.o (show zr atPlan = some 20 by decide +kernel) (by decide) ((ty_chAtlas W Ta0).trans (by decide))
          have R1 : zR κ_21 = zR κ := by rw [hκ_21]; rfl
          have Z1 : zF (mkF9 κ a0) κ κ_21 := by rw [hκ_21]; exact zF_ua (by rw [o]; exact Or.inr ⟨rfl, rfl⟩)
          rw [R1] at hκ_23
          have Z3 : zF (mkF9 κ a0) κ κ_23 := Z1.tr (by rw [hκ_23]; exact zF_ui (Or.inl ⟨rfl, Or.inl rfl⟩))
          have R3 : zR κ_23 = zR κ := by rw [hκ_23]; exact R1
          have I3 := chI_m9 W Ta0 Z3 R3 (by rw [hκ_23]; exact if_pos ⟨rfl, rfl⟩) (Or.inr (by rw [hκ_23, hκ_21]; rfl)) hp
          have Zd1 : zF (dF16 κ a0) κ κ_21 := by rw [hκ_21]; exact zF_ua (by rw [o]; exact Or.inr ⟨rfl, rfl⟩)
          have Zd : zF (dF16 κ a0) κ κ_23 := Zd1.tr (by rw [hκ_23]; exact zF_ui (Or.inl ⟨rfl, rfl⟩))
          have dd : dD16 κ κ_23 a0 σ9 a1 a2 := ⟨fun _ => by rw [R3, hκ_23]; exact if_pos ⟨rfl, rfl⟩, fun z => absurd cc z, dd_16 W Ta0 Zd⟩
          refine h _ _ ⟨⟨I3.1, I3.2.1, I3.2.2, fun _ => ?_, fun z => absurd cc z, dd⟩, cc, ?_⟩
          · unfold plC8
            rw [R3, hκ_23, hκ_21]
            exact if_pos rfl
          · rw [hx20]; exact N2
        · intro κ_25 hκ_25
          exact hx _ _ ⟨rfl, hκ_25, fun z => c19 (by rw [q15]; first | exact z.2.2.2 | exact Int32.not_le.mpr z.2.2.2)⟩

end
section
set_option maxHeartbeats 1600000
/-! the class: play, walk by what they answer -/
theorem GP_21 {κ : zS} {a : Nat} {σ σ9 : rS} {b m : Int32} {x : Int64} (hr : RC8 κ a σ) (pb : PB21 σ) (h14 : σ.1 14 ≠ 0) (hk : ∀ k, k ≠ 113 → σ9.1 k = σ.1 k) (hs : σ9.2.2 = σ.2.2) (hb : b = 0 ↔ σ9.1 113 ≠ 0) (hx : σ9.1 113 ≠ 0 → σ9.2.1 112 = x) (t0 : 0 ≤ (zI κ chTolds a).toInt) (m0 : 0 ≤ m.toInt) : ∃ nv s w, GP21 nv s w κ a b x m σ9 := by
  have kr : kR7 σ σ9 := kR_f7 (fun g q => hk g ((by decide : ∀ g, g ∈ kf7 → g ≠ 113) g q)) (fun g _ => by rw [hs]) (fun j => by rw [hs])
  have kt : kT7 σ σ9 := ⟨fun g q => hk g ((by decide : ∀ g, g ∈ kd7 → g ≠ 113) g q), fun g _ => by rw [hs]⟩
  obtain ⟨r1, r2⟩ := hr.2.2.2.2.1
  have T9 : (σ9.1 104 = zI κ chTolds a ∧ 0 ≤ (zI κ chTolds a).toInt) ∧ ∀ j, j < (zI κ chTolds a).toNatClampNeg → zA κ (zR κ chTold a) j = σ9.2.2.1 105 j := ⟨⟨(hk 104 (by decide)).trans r1, t0⟩, fun j hj => by rw [hs]; exact r2 j hj⟩
  have e69 : σ9.1 69 = σ.1 69 := hk 69 (by decide)
  have e70 : σ9.1 70 = σ.1 70 := hk 70 (by decide)
  by_cases ex : σ.1 69 = 0
  · obtain ⟨nv, s, w, cr⟩ := hr.1.2.2 h14
    refine ⟨nv, s, w, CR_k7 cr kr, hb, hx, fun _ => T9, ⟨by rw [e69]; exact hr.2.1.symm, fun z => absurd (e69.trans ex) z⟩, fun z => absurd (e69.trans ex) z, ?_, m0⟩
    rw [e70, (hr.2.2.2.1 ex).1]
    decide
  · obtain ⟨_, _, _, zq, pl, ⟨nv, s, w, cr, ⟨n, sh, n70, ht⟩, tw⟩, _⟩ := hr.2.2.1 ex
    have n1000 : n ≤ 1000 := sh.2.2.1
    have c70 : (σ.1 70).toNatClampNeg = n := by rw [n70]; exact cl_5 (by omega)
    refine ⟨nv, s, w, CR_k7 cr kr, hb, hx, fun _ => T9, ⟨by rw [e69]; exact hr.2.1.symm, fun _ => ⟨n, SH_w21 HS_r6 sh (s150_21 cr) (fun i _ => by rw [hs]) (by rw [hs]), e70.trans n70, ?_, fun k hk' => ?_, ?_⟩⟩, fun _ => TW_k21 tw kt, by rw [e70, c70]; exact n1000, m0⟩
    · intro j hj
      rw [hs]
      exact ht j hj
    · rw [hs]
      exact pl k (by rw [c70]; exact hk')
    · unfold PB21
      rw [e70, hs]
      exact pb
theorem Ch_play_c8 {C : zC} {n0 : Nat} {a0 : Nat} {a1 : Int64} {a3 : Int32} {κ : zS} {Q : Int32 → zS → Prop} {X : zXp} (W : zW C n0 κ) (Ta0 : zT κ a0 = 15) (ρ : Nat → Nat) (L9 : Int) (σ9 : rS) (hr8 : RC8 κ a0 σ9) (pb : PB21 σ9) (hp : chI9 ρ κ a0 L9) (h : ∀ (v : Int32) (κ' : zS), ((chI9 ρ κ' a0 L9 ∧ (∃ F, zF F κ κ') ∧ PY23 κ κ' a0 a3 σ9 (siU (slU σ9 112 a1) 113 1)) ∧ cy21 σ9 a3 = 0 ∧ ∀ N tr v', TRF21 a3 (siU (slU σ9 112 a1) 113 1) N tr v' → v = v') → Q v κ') (hx : ∀ (cls : String) (κ' : zS), (((cls = "java/lang/IllegalArgumentException" ∧ cy21 σ9 a3 = 2) ∨ (cls = "java/lang/IllegalStateException" ∧ cy21 σ9 a3 = 1)) ∧ κ' = ut κ) → X cls κ') : zRun C 8 mCh_play [.ref a0, .long a1, .int a3] κ (oI Q X) := by
  refine Ch_play_run W Ta0 ?_
  replace W := W.lo (Nat.le_trans W.1.2.1 W.1.2.2) (Nat.le_refl (zn κ))
  unfold w_Ch_play_0
  have i14 := hr8.1.2.1
  refine ⟨fun c1 => ?_, fun c1 => ?_⟩
  · have n14 : σ9.1 14 ≠ 0 := fun z => c1 (i14.mp z)
    refine ⟨fun c2 => ?_, fun c2 => ?_⟩
    · intro κ_3 hκ_3
      refine hx _ _ ⟨Or.inl ⟨rfl, ?_⟩, hκ_3⟩
      unfold cy21
      rw [if_neg n14, if_neg (fun z => absurd c2 (Int32.not_lt.mpr z.1))]
    · refine ⟨fun c4 => ?_, fun c4 => ?_⟩
      · intro T5
        have c4' := c4
        have e : (2000 : Int32).toInt = 2000 := rfl
        have c2' : (0 : Int32) ≤ a3 := Int32.not_lt.mp c2
        have m0 := c2'
        rw [lei, t0i] at m0
        rw [lei, e] at c4'
        have cy : cy21 σ9 a3 = 0 := by
          unfold cy21
          rw [if_neg n14, if_pos ⟨c2', c4⟩]
        obtain ⟨nv, s, w, G⟩ := GP_21 (σ9 := siU (slU σ9 112 a1) 113 1) (b := 0) (m := a3) (x := a1) hr8 pb n14 (fun k hk => if_neg hk) rfl ⟨fun _ => by rw [si1, if_pos rfl]; decide, fun _ => rfl⟩ (fun _ => sl_s21 (σ := σ9) (k := 112) (x := a1)) hp.2.2.2.2.2.1.1.2.1 m0
        refine Ch_perform_q16 W T5 nv s w _ G (pf_p9 hp c4') (fun r6 κ_7 q8 => ?_)
        intro W9
        intro M10
        have P := pf_q9 W Ta0 hp q8.1
        obtain ⟨w1, w2, _⟩ := rn_w23 G.1
        exact h _ _ ⟨⟨P.1, P.2.1, P.2.2.1, P.2.2.2, fun _ => ⟨w, ⟨by rw [cv_23.1, cv_23.2]; exact w1, w2⟩, fun N tr v' F => ⟨(q8.2 N tr v' F).1.2, (q8.2 N tr v' F).2⟩⟩, fun z => absurd cy z⟩, cy, fun N tr v' F => (q8.2 N tr v' F).1.1⟩
      · intro κ_11 hκ_11
        refine hx _ _ ⟨Or.inl ⟨rfl, ?_⟩, hκ_11⟩
        unfold cy21
        rw [if_neg n14, if_neg (fun z => c4 z.2)]
  · intro κ_12 hκ_12
    refine hx _ _ ⟨Or.inr ⟨rfl, ?_⟩, hκ_12⟩
    unfold cy21
    rw [if_pos (i14.mpr (by first | exact c1 | (exact Classical.not_not.mp c1)))]
theorem Ch_walk_c8 {C : zC} {n0 : Nat} {a0 : Nat} {a1 : Int32} {κ : zS} {Q : Int32 → zS → Prop} {X : zXp} (W : zW C n0 κ) (Ta0 : zT κ a0 = 15) (ρ : Nat → Nat) (L9 : Int) (σ9 : rS) (hr8 : RC8 κ a0 σ9) (pb : PB21 σ9) (hp : chI9 ρ κ a0 L9) (h : ∀ (v : Int32) (κ' : zS), ((chI9 ρ κ' a0 L9 ∧ (∃ F, zF F κ κ') ∧ PY23 κ κ' a0 a1 σ9 (siU σ9 113 0)) ∧ cy21 σ9 a1 = 0 ∧ ∀ N tr v', TRF21 a1 (siU σ9 113 0) N tr v' → v = v') → Q v κ') (hx : ∀ (cls : String) (κ' : zS), (((cls = "java/lang/IllegalArgumentException" ∧ cy21 σ9 a1 = 2) ∨ (cls = "java/lang/IllegalStateException" ∧ cy21 σ9 a1 = 1)) ∧ κ' = ut κ) → X cls κ') : zRun C 8 mCh_walk [.ref a0, .int a1] κ (oI Q X) := by
  refine Ch_walk_run W Ta0 ?_
  replace W := W.lo (Nat.le_trans W.1.2.1 W.1.2.2) (Nat.le_refl (zn κ))
  unfold w_Ch_walk_0
  have i14 := hr8.1.2.1
  refine ⟨fun c1 => ?_, fun c1 => ?_⟩
  · have n14 : σ9.1 14 ≠ 0 := fun z => c1 (i14.mp z)
    refine ⟨fun c2 => ?_, fun c2 => ?_⟩
    · intro κ_3 hκ_3
      refine hx _ _ ⟨Or.inl ⟨rfl, ?_⟩, hκ_3⟩
      unfold cy21
      rw [if_neg n14, if_neg (fun z => absurd c2 (Int32.not_lt.mpr z.1))]
    · refine ⟨fun c4 => ?_, fun c4 => ?_⟩
      · intro T5
        have c4' := c4
        have e : (2000 : Int32).toInt = 2000 := rfl
        have c2' : (0 : Int32) ≤ a1 := Int32.not_lt.mp c2
        have m0 := c2'
        rw [lei, t0i] at m0
        rw [lei, e] at c4'
        have cy : cy21 σ9 a1 = 0 := by
          unfold cy21
          rw [if_neg n14, if_pos ⟨c2', c4⟩]
        have z0 : (siU σ9 113 0).1 113 = 0 := by rw [si1, if_pos rfl]
        refine (fun (G : ∃ nv s w, GP21 nv s w κ a0 _ _ a1 (siU σ9 113 0)) => ?_) (GP_21 (σ9 := siU σ9 113 0) (b := 1) (m := a1) (x := 0) hr8 pb n14 (fun k hk => if_neg hk) rfl ⟨fun z => absurd z (by decide), fun z => absurd z0 z⟩ (fun z => absurd z0 z) hp.2.2.2.2.2.1.1.2.1 m0)
        obtain ⟨nv, s, w, G⟩ := G
        refine Ch_perform_q16 W T5 nv s w _ G (pf_p9 hp c4') (fun r6 κ_7 q8 => ?_)
        intro W9
        intro M10
        have P := pf_q9 W Ta0 hp q8.1
        obtain ⟨w1, w2, _⟩ := rn_w23 G.1
        exact h _ _ ⟨⟨P.1, P.2.1, P.2.2.1, P.2.2.2, fun _ => ⟨w, ⟨by rw [cv_23.1, cv_23.2]; exact w1, w2⟩, fun N tr v' F => ⟨(q8.2 N tr v' F).1.2, (q8.2 N tr v' F).2⟩⟩, fun z => absurd cy z⟩, cy, fun N tr v' F => (q8.2 N tr v' F).1.1⟩
      · intro κ_11 hκ_11
        refine hx _ _ ⟨Or.inl ⟨rfl, ?_⟩, hκ_11⟩
        unfold cy21
        rw [if_neg n14, if_neg (fun z => c4 z.2)]
  · intro κ_12 hκ_12
    refine hx _ _ ⟨Or.inr ⟨rfl, ?_⟩, hκ_12⟩
    unfold cy21
    rw [if_pos (i14.mpr (by first | exact c1 | (exact Classical.not_not.mp c1)))]
/-! both answers -/
theorem go_a21 {σ σ' : rS} {a x v : Int32} (X : GO21 a σ σ' v) (h : cy21 σ a = 0) (g : ∀ N tr v', TRF21 a σ N tr v' → x = v') : σ'.1 0 = 0 ∧ x = v := by
  rcases X with ⟨z, _⟩ | ⟨_, z, τ0, h0, ⟨σ0, r0, N, tr, b1, b2, b3⟩, fi, _⟩
  · exact absurd h z
  · refine ⟨z, g N tr v ⟨⟨σ0, r0, b1, b2⟩, ?_⟩⟩
    rw [b3]
    exact fi
theorem go_b21 {σ σ' : rS} {a v : Int32} (X : GO21 a σ σ' v) (h : cy21 σ a ≠ 0) : σ'.1 0 = cy21 σ a := by
  rcases X with ⟨_, z, _⟩ | ⟨z, _⟩
  · rw [z, si1, if_pos rfl]
  · exact absurd z h
/-- played, by what it answers -/
theorem Ch_played_c8 {C : zC} {n0 : Nat} {a0 : Nat} {a1 : Int32} {κ : zS} {Q : Int64 → zS → Prop} {X : zXp} (W : zW C n0 κ) (Ta0 : zT κ a0 = 15) (ρ : Nat → Nat) (L9 : Int) (σ9 : rS) (hr8 : RC8 κ a0 σ9) (hp : chI9 ρ κ a0 L9) (h : ∀ (v : Int64) (κ' : zS), (κ = κ' ∧ pc23 σ9 a1 ∧ v = pv23 σ9 a1) → Q v κ') (hx : ∀ (cls : String) (κ' : zS), (cls = "java/lang/IndexOutOfBoundsException" ∧ κ' = ut κ ∧ ¬ pc23 σ9 a1) → X cls κ') : zRun C 8 mCh_played [.ref a0, .int a1] κ (oJ Q X) := by
  refine Ch_played_run W Ta0 ?_
  replace W := W.lo (Nat.le_trans W.1.2.1 W.1.2.2) (Nat.le_refl (zn κ))
  unfold w_Ch_played_0
  have E := hp.2.2.2.2.2.1
  have e5 : (5 : Int32).toInt = 5 := rfl
  have i14 := hr8.1.2.1
  obtain ⟨r1, r2⟩ := hr8.2.2.2.2.2.1
  have hj18 : ∀ (s0 : Int32) (τ : zS), zW C (zn κ) τ → zT τ a0 = 15 → (κ = τ ∧ 0 ≤ s0.toInt ∧ s0.toInt ≤ 34 ∧ s0 = pw23 σ9 ∧ (s0.toInt = 0 ∨ s0.toInt = ((cu7 κ (zR κ chCode a0)).1 coVars).toInt + ((cu7 κ (zR κ chCode a0)).1 coCells).toInt)) → w_Ch_played_18 C (zn κ) Q X a0 a1 s0 τ := by
    rintro y18_s0 _ W18 T18_0 ⟨rfl, j1, j2, j3, j4⟩
    unfold w_Ch_played_18
    have s5 : ((5 : Int32) + y18_s0).toInt = 5 + y18_s0.toInt := by rw [add_i (by rw [e5]; omega) (by rw [e5]; omega), e5]
    refine ⟨fun c1 => ?_, fun c1 => ?_⟩
    · intro κ_2 hκ_2
      exact hx _ _ ⟨rfl, hκ_2, fun z => absurd c1 (Int32.not_lt.mpr z.1)⟩
    · have c1' : (0 : Int32) ≤ a1 := Int32.not_lt.mp c1
      refine ⟨fun c3 => ?_, fun c3 => ?_⟩
      · have pc : pc23 σ9 a1 := ⟨c1', by rw [← j3]; exact c3⟩
        refine ⟨fun c4 => ?_, fun c4 => ?_⟩
        · have n106 : σ9.1 106 ≠ -1 := fun z => c4 (r1.mpr z)
          obtain ⟨⟨q0, q1, q2, q3, q4⟩, q5⟩ := r2 n106
          have c3' := c3
          rw [lti, s5] at c3'
          refine ⟨fun c5 => ?_, fun c5 => ?_⟩
          · have c5' := c5
            rw [lei, e5] at c5'
            have sb : (a1 - (5 : Int32)).toInt = a1.toInt - 5 := by rw [sub_i (by rw [e5]; omega) (by rw [e5]; omega), e5]
            have kn := cnk (x := a1 - (5 : Int32)) (by omega)
            refine ⟨?_, ?_⟩
            · rw [inb_iff, E.2.1.2, sb]
              omega
            refine h _ _ ⟨rfl, pc, ?_⟩
            unfold pv23
            rw [if_neg n106, if_neg (fun z => by rw [z] at c5'; exact absurd c5' (by decide)), if_neg (fun z => by rw [z] at c5'; exact absurd c5' (by decide)), if_neg (fun z => by rw [z] at c5'; exact absurd c5' (by decide)), if_neg (fun z => by rw [z] at c5'; exact absurd c5' (by decide)), if_neg (fun z => by rw [z] at c5'; exact absurd c5' (by decide)), q5 _ (by omega)]
          · have c5' := c5
            rw [lei, e5] at c5'
            have c0 := c1'
            rw [lei, t0i] at c0
            refine ⟨?_, ?_⟩
            · rw [inb_iff, E.2.1.1]
              omega
            refine h _ _ ⟨rfl, pc, ?_⟩
            have t : ∀ k : Int32, a1.toInt = k.toInt → a1 = k := fun k hk => Int32.toInt_inj.mp hk
            have cs : a1 = 0 ∨ a1 = 1 ∨ a1 = 2 ∨ a1 = 3 ∨ a1 = 4 := by
              have y : a1.toInt = 0 ∨ a1.toInt = 1 ∨ a1.toInt = 2 ∨ a1.toInt = 3 ∨ a1.toInt = 4 := by omega
              rcases y with y | y | y | y | y
              · exact Or.inl (t 0 y)
              · exact Or.inr (Or.inl (t 1 y))
              · exact Or.inr (Or.inr (Or.inl (t 2 y)))
              · exact Or.inr (Or.inr (Or.inr (Or.inl (t 3 y))))
              · exact Or.inr (Or.inr (Or.inr (Or.inr (t 4 y))))
            unfold pv23
            rw [if_neg n106]
            rcases cs with y | y | y | y | y
            · rw [y, if_pos rfl]; exact q0
            · rw [y, if_neg (by decide), if_pos rfl]; exact q1
            · rw [y, if_neg (by decide), if_neg (by decide), if_pos rfl]; exact q2
            · rw [y, if_neg (by decide), if_neg (by decide), if_neg (by decide), if_pos rfl]; exact q3
            · rw [y, if_neg (by decide), if_neg (by decide), if_neg (by decide), if_neg (by decide), if_pos rfl]; exact q4
        · refine h _ _ ⟨rfl, pc, ?_⟩
          unfold pv23
          rw [if_pos (r1.mp (by first | exact c4 | (exact Classical.not_not.mp c4)))]
      · intro κ_6 hκ_6
        exact hx _ _ ⟨rfl, hκ_6, fun z => c3 (by rw [j3]; exact z.2)⟩
  refine ⟨fun c7 => ?_, fun c7 => ?_⟩
  · exact hj18 _ _ W Ta0 ⟨rfl, by decide, by decide, by unfold pw23; rw [if_pos (i14.mpr (by first | exact c7 | (exact Classical.not_not.mp c7)))], Or.inl rfl⟩
  · have n14 : σ9.1 14 ≠ 0 := fun z => c7 (i14.mp z)
    obtain ⟨nv, s, w, cr⟩ := hr8.1.2.2 n14
    obtain ⟨w1, w2, w3⟩ := rn_w23 cr
    intro T8
    refine Co_shared_c W T8 hp.1.2.1.1.1 (fun r9 q10 => ?_)
    intro W11
    intro M12
    have ew : r9 = Int32.ofNat w := Int32.toInt_inj.mp (by rw [ofn_i (by omega)]; omega)
    refine hj18 _ _ W Ta0 ⟨rfl, by omega, by omega, by unfold pw23; rw [if_neg n14, w3]; exact ew, Or.inr ?_⟩
    rw [cv_23.1, cv_23.2]
    exact q10

end
