set_option maxHeartbeats 1600000
/-! the class: Odds' throughCell -/
def tcR9 : Nat → Prop := fun r => r = 1 ∨ (4 ≤ r ∧ r ≤ 10) ∨ (20 ≤ r ∧ r ≤ 22)
theorem tcR9_l : ∀ r, 100 ≤ r → ¬ tcR9 r := fun r h z => by
  unfold tcR9 at z
  omega
theorem soF_n9 {ρ : Nat → Nat} {R : Nat → Prop} {ca f b : Nat} (hf : f / 100 = 9) : ¬ soF ρ R ca f b := fun z => by
  rcases z with ⟨_, z | z | z⟩ | ⟨_, z | z | z | z⟩ <;> (rw [z] at hf; exact absurd hf (by decide))
/-- what the cells' walks read -/
theorem od_w9 {C : zC} {n0 a n P ca : Nat} {ρ : Nat → Nat} {R : Nat → Prop} {κ τ : zS} (W : zW C n0 κ) (Ta : zT κ a = 9) (N : nmI ρ κ) (Z : zF (soF ρ R ca) κ τ) (hR : ∀ r, 100 ≤ r → ¬ R r) (X : odX9 ρ κ a n P) : (∀ f t, zr f = some t → 20 ≤ t → f / 100 = 9 → zR τ f a = zR κ f a ∧ zA τ (zR τ f a) = zA κ (zR κ f a) ∧ zQ τ (zR τ f a) = zQ κ (zR κ f a) ∧ zN τ (zR τ f a) = zN κ (zR κ f a)) ∧ (∀ f, f ∈ atRf → zA τ (zR τ f (zR τ odAtlas a)) = zA κ (zR κ f (zR κ odAtlas a)) ∧ zN τ (zR τ f (zR τ odAtlas a)) = zN κ (zR κ f (zR κ odAtlas a))) ∧ zI τ atNexts (zR τ odAtlas a) = zI κ atNexts (zR κ odAtlas a) ∧ zI τ hoTotal (zR τ atStates (zR τ odAtlas a)) = zI κ hoTotal (zR κ atStates (zR κ odAtlas a)) ∧ (∀ k, k < n → zI τ raSign (vU9 τ (zR τ odSolver a) k) = zI κ raSign (vU9 κ (zR κ odSolver a) k)) := by
  obtain ⟨X1, e1, e2, e3⟩ := odX9_f W Ta N Z hR X
  have tA := ty_odAtlas W Ta
  have ts := ty_odSolver W Ta
  have eA := e1 odAtlas (Or.inl (by decide)) a
  refine ⟨fun f t h1 h2 h3 => ?_, fun f hf => ?_, ?_, ?_, fun k hk => ?_⟩
  · have T9 : zT κ a = f / 100 := Ta.trans h3.symm
    have r := Z.r (soF_n9 (ρ := ρ) (R := R) (ca := ca) (b := a) h3)
    have w := Z.row W h1 h2 T9 (soF_n9 h3)
    have ty := W.r h1 T9
    obtain ⟨c, hc⟩ : ∃ c, t = c + 1 := ⟨t - 1, by omega⟩
    refine ⟨r, w.1, w.2.2, ?_⟩
    rw [r]
    exact Z.l (c := c) (ty.trans hc)
  · rw [eA]
    have g := at_f9 W soF_fr Z tA (f := f) hf
    exact ⟨g.2.1, g.2.2⟩
  · rw [eA]
    exact (soF_r9 Z (by decide)).2
  · rw [eA, show zR τ atStates (zR κ odAtlas a) = zR κ atStates (zR κ odAtlas a) from congrFun e3 _]
    exact e2
  · obtain ⟨v1, v2, v3⟩ := X.2.2.2.1 k hk
    have vu := (vU9_f W ts Z).2 k
    rw [e1 odSolver (Or.inl (by decide)) a, vu]
    exact Z.i (soF_sg (by rw [v2]; exact hR _ (by omega)))
theorem ju_9 {u : Int64} {w : Int32} {n : Int} (h0 : 0 ≤ u.toInt) (h1 : u.toInt ≤ 2147483648 * n) (hn : 0 ≤ n) (hn2 : n ≤ 20000) (w0 : 0 ≤ w.toInt) : 0 ≤ (u + Int32.toInt64 w).toInt ∧ (u + Int32.toInt64 w).toInt ≤ 2147483648 * (n + 1) := by
  have e := Int32.toInt_toInt64 w
  have u2 := ihi w
  rw [jadd_i (by rw [e]; omega) (by rw [e]; omega), e]
  omega
theorem Od_throughCell_c {C : zC} {n0 : Nat} {a0 : Nat} {a1 : Int32} {a2 : Int32} {κ : zS} {Q : zS → Prop} (W : zW C n0 κ) (Ta0 : zT κ a0 = 9) (ρ : Nat → Nat) (n9 P9 : Nat) (hp : (nmI ρ κ ∧ soI ρ κ (zR κ odSolver a0)) ∧ odX9 ρ κ a0 n9 P9 ∧ (0 < P9 ∧ P9 < pB9 1490) ∧ (tbL9 κ a0 ∧ (zI κ atNexts (zR κ odAtlas a0)).toInt ≤ (zN κ (zR κ odLinks a0)) ∧ lkB9 κ κ a0 n9 0) ∧ (0 ≤ a1.toInt ∧ a1.toInt < 1000) ∧ dz9 (nuN κ (zR κ soWhole (zR κ odSolver a0))) P9 ∧ nuN κ (zR κ soLess (zR κ odSolver a0)) < pB9 4000) (h : ∀ (κ' : zS), ((zF (soF ρ tcR9 (zR κ odCalc a0)) κ κ' ∧ nmI ρ κ' ∧ soI ρ κ' (zR κ odSolver a0)) ∧ nuN κ' (zR κ soSum (zR κ odSolver a0)) < pB9 1502 ∧ dz9 (nuN κ' (zR κ soWhole (zR κ odSolver a0))) P9 ∧ nuN κ' (zR κ soLess (zR κ odSolver a0)) < pB9 4000) → Q κ') : zRun C 6 mOd_throughCell [.ref a0, .int a1, .int a2] κ (oV Q noX) := by
  refine Od_throughCell_run W Ta0 ?_
  replace W := W.lo (Nat.le_trans W.1.2.1 W.1.2.2) (Nat.le_refl (zn κ))
  unfold w_Od_throughCell_0
  obtain ⟨⟨N0, S0⟩, X0, ⟨P0, P1⟩, ⟨L0, nl, ⟨hd, lk⟩⟩, ⟨c0, c1⟩, D0, Le0⟩ := hp
  have ts := ty_odSolver W Ta0
  have A0 := X0.2.2.1.1
  have hn := A0.2.2.1
  have tot := A0.2.2.2.1
  have nx5 := A0.2.2.2.2.1
  have l20 := A0.2.1.2.2
  have h1 := S0.1.1
  have h7 := S0.1.2.2.2.2.1
  have h8 := S0.1.2.2.2.2.2.1
  have h20 := S0.1.2.2.2.2.2.2
  have g7 := nm_g N0 (w := (zR κ soSum (zR κ odSolver a0))) h7 (Or.inl ⟨by decide, by decide⟩) (by decide)
  have tW := ty_soWhole W ts
  have tS := ty_soSum W ts
  have tL := ty_soLess W ts
  have lw0 : nuN κ (zR κ soWhole (zR κ odSolver a0)) < pB9 1490 := Nat.lt_of_le_of_lt (dz9_le D0 P0) P1
  have b4 : pB9 1502 ≤ pB9 4000 := pB9_l (by decide)
  have kc := cnk c0
  intro T1
  refine Nu_put_c W T1 6500 ?_ (fun κ_2 q3 => ?_)
  · exact ⟨by decide, g7.2.2⟩  -- p1
  intro W4
  intro M5
  obtain ⟨Fs, ⟨Rs, Ns⟩, Is, Vs⟩ := q3
  have Zs0 : zF (soF ρ (fun r => r = 7) (zR κ odCalc a0)) κ κ_2 := soF_1 h7 Fs
  have Zs : zF (soF ρ tcR9 (zR κ odCalc a0)) κ κ_2 := soF_m (fun r z => Or.inr (Or.inl (by omega))) Zs0
  have N2 : nmI ρ κ_2 := nm_1 W N0 Fs (by rw [h7]; exact Is)
  have S2 : soI ρ κ_2 (zR κ odSolver a0) := so_1 W ts S0 Fs
  have w2 := (soF_B (c := 0) W tW Zs0 (by rw [h1]; decide)).2.1
  have l2 := (soF_B (c := 0) W tL Zs0 (by rw [h8]; decide)).2.1
  have ro2 := (od_w9 W Ta0 N0 Zs tcR9_l X0).1 odHeads 20 (by decide +kernel) (by decide) (by decide)
  refine ⟨?_, ?_⟩
  · rw [inb_iff, ro2.2.2.2, L0.2.2.2.2.2.1]; omega  -- b2
  intro x6 hx6
  unfold w_Od_throughCell_27
  refine ⟨fun n l0 l2 l3 l4 l5 l7 τ => n = ((zI κ atNexts (zR κ odAtlas a0)).toInt - l7.toInt).toNat ∧ (a0 = l0 ∧ a2 = l2 ∧ (zF (soF ρ tcR9 (zR κ odCalc a0)) κ τ ∧ nmI ρ τ ∧ soI ρ τ (zR κ odSolver a0)) ∧ (dz9 (nuN τ (zR κ soWhole (zR κ odSolver a0))) P9 ∧ nuN τ (zR κ soLess (zR κ odSolver a0)) < pB9 4000) ∧ ((a2 = 0 → nuN τ (zR κ soWhole (zR κ odSolver a0)) = nuN κ (zR κ soWhole (zR κ odSolver a0)) ∧ nuN τ (zR κ soSum (zR κ odSolver a0)) ≤ uB9 (nuN κ (zR κ soWhole (zR κ odSolver a0))) l7.toNatClampNeg) ∧ (a2 ≠ 0 → nuN τ (zR κ soSum (zR κ odSolver a0)) = 0)) ∧ (0 ≤ l7.toInt ∧ l7.toInt ≤ 20000) ∧ (0 ≤ l3.toInt ∧ (l4 = -1 ∨ ((lkN9 κ a0 n9 l4 ∧ l3.toInt < n9) ∧ (zA κ (zR κ atFirsts (zR κ odAtlas a0)) l3.toNatClampNeg).toInt ≤ l4.toInt))) ∧ (0 ≤ l5.toInt ∧ l5.toInt ≤ 2147483648 * l7.toInt)), ⟨_, rfl, ?_⟩, ?_⟩
  · rw [ro2.2.1] at hx6
    refine ⟨rfl, rfl, ⟨Zs, N2, S2⟩, ⟨by rw [w2]; exact D0, by rw [l2]; exact Le0⟩, ⟨fun _ => ⟨w2, ?_⟩, fun _ => ?_⟩, by decide, ⟨by decide, ?_⟩, by decide⟩
    · rw [Vs]; exact uB_0 (by decide)
    · rw [Vs]; rfl
    · rcases hd a1.toNatClampNeg (by omega) with y | y
      · exact Or.inl (by rw [hx6]; exact y)
      · rw [← hx6] at y
        obtain ⟨k, k1, k2, _⟩ := id y.1
        have f0 := fm_9 A0 k 0 (by omega) (by omega)
        exact Or.inr ⟨⟨y.1, by rw [t0i]; omega⟩, Int.le_trans f0 k2⟩
  rintro n27 _ _ x27_3 x27_4 x27_5 x27_7 κ27 W27 T27_0 ⟨hn27, rfl, rfl, i27⟩
  obtain ⟨⟨Z1, N1, S1⟩, ⟨D1, L1⟩, ⟨B1, B2⟩, l7, ⟨l30, l4⟩, l50, l51⟩ := i27
  obtain ⟨X1, e1, _, _⟩ := odX9_f W Ta0 N0 Z1 tcR9_l X0
  obtain ⟨ro1, at1, nx1, tt1, sg1⟩ := od_w9 W Ta0 N0 Z1 tcR9_l X0
  have es : zR κ27 odSolver a0 = (zR κ odSolver a0) := e1 odSolver (Or.inl (by decide)) a0
  have ec : zR κ27 odCalc a0 = (zR κ odCalc a0) := e1 odCalc (Or.inl (by decide)) a0
  have ew : zR κ27 soWhole (zR κ odSolver a0) = (zR κ soWhole (zR κ odSolver a0)) := e1 soWhole (Or.inr (by decide)) _
  have eu : zR κ27 soSum (zR κ odSolver a0) = (zR κ soSum (zR κ odSolver a0)) := e1 soSum (Or.inr (by decide)) _
  have el : zR κ27 soLess (zR κ odSolver a0) = (zR κ soLess (zR κ odSolver a0)) := e1 soLess (Or.inr (by decide)) _
  have ep : zR κ27 soPart (zR κ odSolver a0) = (zR κ soPart (zR κ odSolver a0)) := e1 soPart (Or.inr (by decide)) _
  have lw1 : nuN κ27 (zR κ soWhole (zR κ odSolver a0)) < pB9 1490 := Nat.lt_of_le_of_lt (dz9_le D1 P0) P1
  have k7 := cnk l7.1
  have sumB : nuN κ27 (zR κ soSum (zR κ odSolver a0)) < pB9 1502 := if z : a2 = 0 then uB_l lw0 (by omega) (B1 z).2 else (by rw [B2 z]; exact pB9_p)
  have fr1 := (at1 atFirsts (by decide))
  have hj130 : ∀ (l0 : Nat) (l2 : Int32) (l3 : Int32) (l4 : Int32) (l5 : Int64) (l7 : Int32) (τ : zS), zW C (zn κ) τ → zT τ l0 = 9 → (a0 = l0 ∧ a2 = l2 ∧ κ27 = τ ∧ x27_7 = l7 ∧ (0 ≤ l3.toInt ∧ l3.toInt < n9) ∧ (l4 = -1 ∨ (lkN9 κ a0 n9 l4 ∧ (zA κ (zR κ atFirsts (zR κ odAtlas a0)) l3.toNatClampNeg).toInt ≤ l4.toInt)) ∧ zI κ raSign (vU9 κ (zR κ odSolver a0) l3.toNatClampNeg) ≠ 0 ∧ (0 ≤ l5.toInt ∧ l5.toInt ≤ 2147483648 * (l7.toInt + 1)) ∧ x27_7.toInt < (zI κ atNexts (zR κ odAtlas a0)).toInt) → w_Od_throughCell_130 C (zn κ) Q (fun (l0' : Nat) (l2' : Int32) (l3' : Int32) (l4' : Int32) (l5' : Int64) (l7' : Int32) (τ : zS) => ∃ k < n27, (fun (n : Nat) (l0 : Nat) (l2 : Int32) (l3 : Int32) (l4 : Int32) (l5 : Int64) (l7 : Int32) (τ : zS) => n = ((zI κ atNexts (zR κ odAtlas a0)).toInt - l7.toInt).toNat ∧ (a0 = l0 ∧ a2 = l2 ∧ (zF (soF ρ tcR9 (zR κ odCalc a0)) κ τ ∧ nmI ρ τ ∧ soI ρ τ (zR κ odSolver a0)) ∧ (dz9 (nuN τ (zR κ soWhole (zR κ odSolver a0))) P9 ∧ nuN τ (zR κ soLess (zR κ odSolver a0)) < pB9 4000) ∧ ((a2 = 0 → nuN τ (zR κ soWhole (zR κ odSolver a0)) = nuN κ (zR κ soWhole (zR κ odSolver a0)) ∧ nuN τ (zR κ soSum (zR κ odSolver a0)) ≤ uB9 (nuN κ (zR κ soWhole (zR κ odSolver a0))) l7.toNatClampNeg) ∧ (a2 ≠ 0 → nuN τ (zR κ soSum (zR κ odSolver a0)) = 0)) ∧ (0 ≤ l7.toInt ∧ l7.toInt ≤ 20000) ∧ (0 ≤ l3.toInt ∧ (l4 = -1 ∨ ((lkN9 κ a0 n9 l4 ∧ l3.toInt < n9) ∧ (zA κ (zR κ atFirsts (zR κ odAtlas a0)) l3.toNatClampNeg).toInt ≤ l4.toInt))) ∧ (0 ≤ l5.toInt ∧ l5.toInt ≤ 2147483648 * l7.toInt))) k l0' l2' l3' l4' l5' l7' τ) l0 l2 l3 l4 l5 l7 τ := by
    rintro _ _ y130_3 y130_4 y130_5 y130_7 τ130 W130 T130_0 ⟨rfl, rfl, j130⟩
    unfold w_Od_throughCell_130
    intro T7
    obtain ⟨rfl, rfl, m3, m4, sg, m5, m7⟩ := j130
    have sg9 := sg
    have k3 := cnk m3.1
    rw [← sg1 y130_3.toNatClampNeg (by omega)] at sg9
    have S1' : soI ρ κ27 (zR κ27 odSolver a0) := by rw [es]; exact S1
    have ix := cn1 (x := x27_7) l7.1 (by omega)
    refine So_unit_c2 W130 T7 ρ (vU9 κ27 (zR κ27 odSolver a0) y130_3.toNatClampNeg) ?_ (fun κ_8 q9 => ?_)
    · exact od_u9 N1 S1' X1 m3.1 m3.2 sg9  -- p4
    obtain ⟨⟨Zu, Nu9, Su9⟩, tu, bu, du⟩ := od_v9 X1 m3.1 m3.2 sg9 q9
    rw [ec] at Zu
    rw [es] at Su9 tu bu du
    rw [ep] at tu bu du
    have Z8 : zF (soF ρ tcR9 (zR κ odCalc a0)) κ κ_8 := Z1.tr (soF_m (fun r z => by unfold tcR9; rcases z with z | z | z <;> omega) Zu)
    obtain ⟨X8, e8, _, _⟩ := odX9_f W Ta0 N0 Z8 tcR9_l X0
    have es2 : zR κ_8 odSolver a0 = (zR κ odSolver a0) := e8 odSolver (Or.inl (by decide)) a0
    have ec2 : zR κ_8 odCalc a0 = (zR κ odCalc a0) := e8 odCalc (Or.inl (by decide)) a0
    have ew2 : zR κ_8 soWhole (zR κ odSolver a0) = (zR κ soWhole (zR κ odSolver a0)) := e8 soWhole (Or.inr (by decide)) _
    have eu2 : zR κ_8 soSum (zR κ odSolver a0) = (zR κ soSum (zR κ odSolver a0)) := e8 soSum (Or.inr (by decide)) _
    have el2 : zR κ_8 soLess (zR κ odSolver a0) = (zR κ soLess (zR κ odSolver a0)) := e8 soLess (Or.inr (by decide)) _
    have ep2 : zR κ_8 soPart (zR κ odSolver a0) = (zR κ soPart (zR κ odSolver a0)) := e8 soPart (Or.inr (by decide)) _
    have eca : zR κ_8 soCalc (zR κ odSolver a0) = (zR κ odCalc a0) := by
      have y := X8.1.2
      rw [es2, ec2] at y
      exact y
    have u1 : zT κ27 (zR κ soWhole (zR κ odSolver a0)) = 8 := Z1.t tW (by decide)
    have u2 : zT κ27 (zR κ soSum (zR κ odSolver a0)) = 8 := Z1.t tS (by decide)
    have u3 : zT κ27 (zR κ soLess (zR κ odSolver a0)) = 8 := Z1.t tL (by decide)
    have w8 := (soF_B (c := 0) W27 u1 Zu (by rw [h1]; unfold unR9; decide)).2.1
    have s8 := (soF_B (c := 0) W27 u2 Zu (by rw [h7]; unfold unR9; decide)).2.1
    have l8 := (soF_B (c := 0) W27 u3 Zu (by rw [h8]; unfold unR9; decide)).2.1
    have et2 : zR κ_8 raTop (zR κ soPart (zR κ odSolver a0)) = zR κ27 raTop (zR κ soPart (zR κ odSolver a0)) := (soF_r9 Zu (by decide)).1
    have eb2 : zR κ_8 raBottom (zR κ soPart (zR κ odSolver a0)) = zR κ27 raBottom (zR κ soPart (zR κ odSolver a0)) := (soF_r9 Zu (by decide)).1
    have m4' : y130_4 = -1 ∨ ((lkN9 κ a0 n9 y130_4 ∧ y130_3.toInt < n9) ∧ (zA κ (zR κ atFirsts (zR κ odAtlas a0)) y130_3.toNatClampNeg).toInt ≤ y130_4.toInt) := by
      rcases m4 with y | y
      · exact Or.inl y
      · exact Or.inr ⟨⟨y.1, m3.2⟩, y.2⟩
    intro W10
    intro M11
    refine ⟨fun c12 => ?_, fun c12 => ?_⟩
    · skip
      intro T13
      refine So_addTerm_c2 W10 T13 ρ ?_ (fun κ_14 q15 => ?_)
      · rw [es2, ew2, eu2, el2, ep2, et2, w8, s8, l8]
        exact ⟨⟨Nu9, Su9⟩, ⟨by omega, by omega⟩, ⟨Nat.lt_of_lt_of_le lw1 (pB9_l (by decide)), Nat.lt_of_lt_of_le tu (by unfold pB9; decide)⟩, Nat.lt_of_lt_of_le sumB b4, L1⟩
      intro W16
      intro M17
      intro x18 hx18
      rw [es2, ew2, eu2, el2, ep2, eca, et2, w8, s8, l8] at q15
      obtain ⟨Za, Na, A1, A2⟩ := q15
      have Zf : zF (soF ρ tcR9 (zR κ odCalc a0)) κ κ_14 := Z8.tr (soF_m (fun r z => by unfold tcR9; rcases z with z | z | z | z | z | z <;> omega) Za)
      have w14 := (soF_B (c := 0) (w := (zR κ soWhole (zR κ odSolver a0))) W10 (Zu.t u1 (by decide)) Za (by rw [h1]; unfold adR9; decide)).2.1
      obtain ⟨bw, bs⟩ := B1 c12
      have tmb : nuN κ_8 (zR κ27 raTop (zR κ soPart (zR κ odSolver a0))) * y130_5.toInt.natAbs * (nuN κ (zR κ soWhole (zR κ odSolver a0)) + 1) ≤ (nuN κ (zR κ soWhole (zR κ odSolver a0)) + 1) * sU9 := tm_u9 tu (by omega)
      rw [bw] at A1 A2
      refine ⟨_, ?_, rfl, ?_⟩
      · rw [hn27, hx18, ix.2]; omega  -- d6
      · refine ⟨rfl, rfl, ⟨Zf, Na⟩, ⟨by rw [w14, w8]; exact D1, ?_⟩, ⟨fun _ => ⟨by rw [w14, w8]; exact bw, ?_⟩, fun z => absurd c12 z⟩, ⟨by rw [hx18, ix.2]; omega, by rw [hx18, ix.2]; omega⟩, ⟨m3.1, m4'⟩, by rw [hx18, ix.2]; exact ⟨by decide, by show (0 : Int) ≤ _; omega⟩⟩
        · by_cases z : 0 < y130_5.toInt
          · rw [(A1 z).2]; exact L1
          · have y0 : y130_5.toInt.natAbs = 0 := by omega
            have q := (A2 z).1
            rw [y0, Nat.mul_zero, Nat.zero_mul, Nat.add_zero] at q
            exact Nat.lt_of_le_of_lt q L1
        · rw [hx18, ix.1]
          by_cases z : 0 < y130_5.toInt
          · exact Nat.le_trans (A1 z).1 (uB_s bs tmb)
          · rw [(A2 z).2]; exact uB_m bs
    · skip
      intro T19
      intro T20
      intro T21
      have b22 : ρ (zR κ_8 raBottom (zR κ soPart (zR κ odSolver a0))) = 22 := (ra_t9 Nu9 h20 (Or.inl rfl)).1.2
      refine Ca_join_c W10 T19 T20 T21 6500 2000 6500 6500 ?_ (fun κ_22 q23 => ?_)
      · have J := jn_p (w := zR κ_8 raBottom (zR κ soPart (zR κ odSolver a0))) Nu9 Su9 b22 (Or.inr (Or.inr (Or.inl rfl))) ⟨by decide, by decide, by decide⟩ (by rw [ew2, w8]; exact Nat.lt_of_lt_of_le lw1 (pB9_l (by decide))) (by rw [eb2]; exact bu)
        rw [es2, ec2, ep2, ← eca]
        exact J
      intro W24
      intro M25
      intro x26 hx26
      rw [es2, ec2, ep2, ← eca] at q23
      have J := jn_q W10 Nu9 Su9 q23
      have Vj := q23.2.2.2
      rw [ew2, w8, eb2] at Vj
      rw [eca] at J
      have Zj := J.2.1
      have s22 := (soF_B (c := 0) (w := (zR κ soSum (zR κ odSolver a0))) W10 (Zu.t u2 (by decide)) Zj (by rw [h7]; unfold jnR9; decide)).2.1
      have l22 := (soF_B (c := 0) (w := (zR κ soLess (zR κ odSolver a0))) W10 (Zu.t u3 (by decide)) Zj (by rw [h8]; unfold jnR9; decide)).2.1
      refine ⟨_, ?_, rfl, ?_⟩
      · rw [hn27, hx26, ix.2]; omega  -- d9
      · refine ⟨rfl, rfl, ⟨Z8.tr (soF_m (fun r z => by unfold tcR9; rcases z with z | z | z <;> omega) Zj), J.1⟩, ⟨?_, by rw [l22, l8]; exact L1⟩, ⟨fun z => absurd z c12, fun _ => by rw [s22, s8]; exact B2 c12⟩, ⟨by rw [hx26, ix.2]; omega, by rw [hx26, ix.2]; omega⟩, ⟨m3.1, m4'⟩, by rw [hx26, ix.2]; exact ⟨by decide, by show (0 : Int) ≤ _; omega⟩⟩
        rw [Vj]
        exact dz9_lcm D1 du
  have hj83 : ∀ (l0 : Nat) (l2 : Int32) (l3 : Int32) (l4 : Int32) (l5 : Int64) (l7 : Int32) (τ : zS), zW C (zn κ) τ → zT τ l0 = 9 → (a0 = l0 ∧ a2 = l2 ∧ κ27 = τ ∧ (x27_4 = l4 ∧ x27_5 = l5 ∧ x27_7 = l7) ∧ (0 ≤ l3.toInt ∧ l3.toInt < n9) ∧ ((zA κ (zR κ atFirsts (zR κ odAtlas a0)) l3.toNatClampNeg).toInt ≤ l4.toInt ∧ l4.toInt < (zA κ (zR κ atFirsts (zR κ odAtlas a0)) (l3.toNatClampNeg + 1)).toInt) ∧ lkN9 κ a0 n9 l4 ∧ x27_7.toInt < (zI κ atNexts (zR κ odAtlas a0)).toInt) → w_Od_throughCell_83 C (zn κ) Q (fun (l0' : Nat) (l2' : Int32) (l3' : Int32) (l4' : Int32) (l5' : Int64) (l7' : Int32) (τ : zS) => ∃ k < n27, (fun (n : Nat) (l0 : Nat) (l2 : Int32) (l3 : Int32) (l4 : Int32) (l5 : Int64) (l7 : Int32) (τ : zS) => n = ((zI κ atNexts (zR κ odAtlas a0)).toInt - l7.toInt).toNat ∧ (a0 = l0 ∧ a2 = l2 ∧ (zF (soF ρ tcR9 (zR κ odCalc a0)) κ τ ∧ nmI ρ τ ∧ soI ρ τ (zR κ odSolver a0)) ∧ (dz9 (nuN τ (zR κ soWhole (zR κ odSolver a0))) P9 ∧ nuN τ (zR κ soLess (zR κ odSolver a0)) < pB9 4000) ∧ ((a2 = 0 → nuN τ (zR κ soWhole (zR κ odSolver a0)) = nuN κ (zR κ soWhole (zR κ odSolver a0)) ∧ nuN τ (zR κ soSum (zR κ odSolver a0)) ≤ uB9 (nuN κ (zR κ soWhole (zR κ odSolver a0))) l7.toNatClampNeg) ∧ (a2 ≠ 0 → nuN τ (zR κ soSum (zR κ odSolver a0)) = 0)) ∧ (0 ≤ l7.toInt ∧ l7.toInt ≤ 20000) ∧ (0 ≤ l3.toInt ∧ (l4 = -1 ∨ ((lkN9 κ a0 n9 l4 ∧ l3.toInt < n9) ∧ (zA κ (zR κ atFirsts (zR κ odAtlas a0)) l3.toNatClampNeg).toInt ≤ l4.toInt))) ∧ (0 ≤ l5.toInt ∧ l5.toInt ≤ 2147483648 * l7.toInt))) k l0' l2' l3' l4' l5' l7' τ) l0 l2 l3 l4 l5 l7 τ := by
    rintro _ _ y83_3 y83_4 y83_5 y83_7 τ83 W83 T83_0 ⟨rfl, rfl, j83⟩
    unfold w_Od_throughCell_83
    obtain ⟨rfl, ⟨rfl, rfl, rfl⟩, m3, ⟨m4, m5⟩, lkx, m7⟩ := j83
    have k3 := cnk m3.1
    obtain ⟨⟨f0, f01, f02⟩, nx, -⟩ := A0.2.2.2.2.2 y83_3.toNatClampNeg (by omega)
    have k4 := cnk (x := x27_4) (by omega)
    have wn := (nx x27_4.toNatClampNeg (by omega) (by omega)).2.2
    have we := at1 atWeights (by decide)
    have lr := ro1 odLinks 20 (by decide +kernel) (by decide) (by decide)
    have i3 := cn1 (x := y83_3) m3.1 (by omega)
    have ix := cn1 (x := x27_7) l7.1 (by omega)
    have sg : zI κ raSign (vU9 κ (zR κ odSolver a0) y83_3.toNatClampNeg) ≠ 0 := by
      obtain ⟨k, h1', h2', h3', h4'⟩ := id lkx
      have ek := fu_9 A0 h1' (show y83_3.toNatClampNeg < n9 by omega) h2' h3' m4 m5
      rw [ek] at h4'
      exact h4'.2.2
    refine ⟨?_, ?_⟩
    · rw [inb_iff, we.2, A0.2.1.1.2]; omega  -- b11
    intro x27 hx27
    rw [we.1] at hx27
    have ju := ju_9 (w := zA κ (zR κ atWeights (zR κ odAtlas a0)) x27_4.toNatClampNeg) l50 l51 l7.1 l7.2 wn
    rw [← hx27] at ju
    refine ⟨?_, ?_⟩
    · rw [inb_iff, lr.2.2.2]; omega  -- b12
    intro x28 hx28
    rw [lr.2.1] at hx28
    have lk4 := lk x27_4 lkx (by omega)
    rw [← hx28] at lk4
    refine ⟨fun c29 => ?_, fun c29 => ?_⟩
    · skip
      refine hj130 _ _ _ _ _ _ _ W83 ?_ ?_
      · exact T83_0  -- t13
      · exact ⟨rfl, rfl, rfl, rfl, m3, Or.inl c29, sg, ju, m7⟩  -- k14
    · skip
      have lk5 := lk4.resolve_left c29
      refine ⟨?_, ?_⟩
      · rw [inb_iff, i3.2, fr1.2, A0.1.1]; omega  -- b15
      refine ⟨fun c30 => ?_, fun c30 => ?_⟩
      · skip
        intro x31 hx31
        refine ⟨_, ?_, rfl, ?_⟩
        · rw [hn27, hx31, ix.2]; omega  -- d16
        · exact ⟨rfl, rfl, ⟨Z1, N1, S1⟩, ⟨D1, L1⟩, ⟨fun z => ⟨(B1 z).1, by rw [hx31, ix.1]; exact uB_m (B1 z).2⟩, B2⟩, ⟨by rw [hx31, ix.2]; omega, by rw [hx31, ix.2]; omega⟩, ⟨m3.1, Or.inr ⟨⟨lk5.1, m3.2⟩, by omega⟩⟩, by rw [hx31, ix.2]; exact ju⟩  -- i17
      · skip
        refine hj130 _ _ _ _ _ _ _ W83 ?_ ?_
        · exact T83_0  -- t18
        · exact ⟨rfl, rfl, rfl, rfl, m3, Or.inr ⟨lk5.1, by omega⟩, sg, ju, m7⟩  -- k19
  refine ⟨fun c32 => ?_, fun c32 => ?_⟩
  · skip
    refine h _ ?_
    · exact ⟨⟨Z1, N1, S1⟩, sumB, D1, L1⟩  -- q20
  · skip
    refine ⟨fun c33 => ?_, fun c33 => ?_⟩
    · skip
      refine h _ ?_
      · exact ⟨⟨Z1, N1, S1⟩, sumB, D1, L1⟩  -- q21
    · skip
      have l4' := l4.resolve_left c33
      rw [lei, nx1] at c32
      unfold w_Od_throughCell_45
      refine ⟨fun n l0 l2 l3 l4 l5 l7 τ => n = ((n9 : Int) - l3.toInt).toNat ∧ (a0 = l0 ∧ a2 = l2 ∧ κ27 = τ ∧ (x27_4 = l4 ∧ x27_5 = l5 ∧ x27_7 = l7) ∧ (0 ≤ l3.toInt ∧ l3.toInt < n9) ∧ (zA κ (zR κ atFirsts (zR κ odAtlas a0)) l3.toNatClampNeg).toInt ≤ l4.toInt), ⟨_, rfl, ?_⟩, ?_⟩
      · exact ⟨rfl, rfl, rfl, ⟨rfl, rfl, rfl⟩, ⟨l30, l4'.1.2⟩, l4'.2⟩  -- j22
      rintro n45 _ _ x45_3 x45_4 x45_5 x45_7 κ45 W45 T45_0 ⟨hn45, rfl, rfl, i45⟩
      obtain ⟨rfl, ⟨rfl, rfl, rfl⟩, m3, m4⟩ := i45
      have k3 := cnk m3.1
      have i3 := cn1 (x := x45_3) m3.1 (by omega)
      refine ⟨fun c34 => ?_, fun c34 => ?_⟩
      · skip
        refine hj83 _ _ _ _ _ _ _ W45 ?_ ?_
        · exact T45_0  -- t23
        · rw [lei, tt1, tot, i3.2] at c34
          refine ⟨rfl, rfl, rfl, ⟨rfl, rfl, rfl⟩, m3, ⟨m4, ?_⟩, l4'.1.1, by omega⟩
          obtain ⟨k, h1', h2', h3', _⟩ := id l4'.1.1
          have q := fm_9 A0 (x45_3.toNatClampNeg + 1) (k + 1) (by omega) (by omega)
          omega
      · skip
        refine ⟨?_, ?_⟩
        · rw [lei, tt1, tot, i3.2] at c34
          rw [inb_iff, i3.2, fr1.2, A0.1.1]; omega
        refine ⟨fun c35 => ?_, fun c35 => ?_⟩
        · skip
          refine hj83 _ _ _ _ _ _ _ W45 ?_ ?_
          · exact T45_0  -- t26
          · rw [fr1.1, i3.1, lti] at c35
            exact ⟨rfl, rfl, rfl, ⟨rfl, rfl, rfl⟩, m3, ⟨m4, c35⟩, l4'.1.1, by omega⟩
        · skip
          intro x36 hx36
          rw [lei, tt1, tot, i3.2] at c34
          rw [fr1.1, i3.1, lti] at c35
          refine ⟨_, ?_, rfl, ?_⟩
          · rw [hn45, hx36, i3.2]; omega  -- d28
          · exact ⟨rfl, rfl, rfl, ⟨rfl, rfl, rfl⟩, ⟨by rw [hx36, i3.2]; omega, by rw [hx36, i3.2]; omega⟩, by rw [hx36, i3.1]; omega⟩  -- i29
