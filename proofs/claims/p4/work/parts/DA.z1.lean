set_option maxHeartbeats 1600000
/-! the class: Solver's worthBehind, isAbove -/
def wU9 (κ : zS) (a k : Nat) : Nat := (zQ κ (zR κ soWorths a) k).getD 0
/-- a worth in order -/
def wsK9 (κ : zS) (u P : Nat) : Prop := (nuN κ (zR κ raTop u) < 2 ^ 256 ∧ nuN κ (zR κ raBottom u) < 2 ^ 256) ∧ dz9 (nuN κ (zR κ raBottom u)) P ∧ -1 ≤ (zI κ raSign u).toInt ∧ (zI κ raSign u).toInt ≤ 1
def wsI9 (ρ : Nat → Nat) (κ : zS) (a n P : Nat) : Prop := n ≤ (zN κ (zR κ soWorths a)) ∧ ∀ k, k < n → zQ κ (zR κ soWorths a) k = some (wU9 κ a k) ∧ ρ (wU9 κ a k) = 104 + 8 * k ∧ wsK9 κ (wU9 κ a k) P
theorem ws_r9 {k : Nat} (h : k < 1000) : raR (104 + 8 * k) := Or.inr (Or.inr ⟨by omega, by omega, by omega⟩)
theorem wU9_f {C : zC} {n0 a ca : Nat} {ρ : Nat → Nat} {R : Nat → Prop} {κ τ : zS} (W : zW C n0 κ) (Ta : zT κ a = 12) (Z : zF (soF ρ R ca) κ τ) : (zQ τ (zR τ soWorths a) = zQ κ (zR κ soWorths a) ∧ zN τ (zR τ soWorths a) = zN κ (zR κ soWorths a)) ∧ ∀ k, wU9 τ a k = wU9 κ a k := by
  have T9 : zT κ a = 11 + 1 := Ta
  have e3 := (Z.row W (f := soWorths) (t := 25) (by decide +kernel) (by decide) Ta (frS9_n W soF_fr T9 (by decide))).2.2
  have e4 := (frS9_w (f := soWorths) W soF_fr Z (t := 25) (by decide +kernel) (by decide) Ta (by decide) (by decide)).2.2
  exact ⟨⟨e3, e4⟩, fun k => by unfold wU9; rw [e3]⟩
theorem wsK9_f {C : zC} {n0 u r P ca : Nat} {ρ : Nat → Nat} {R : Nat → Prop} {κ τ : zS} (W : zW C n0 κ) (N : nmI ρ κ) (Z : zF (soF ρ R ca) κ τ) (hu : ρ u = r) (hr : raR r) (h : ¬ R r ∧ ¬ R (r + 1) ∧ ¬ R (r + 2)) (V : wsK9 κ u P) : wsK9 τ u P := by
  have q := ra_f9 W N Z hu hr h
  unfold wsK9
  rw [q.1, q.2.1.1, q.2.1.2, q.2.2.1, q.2.2.2]
  exact V
theorem wsI9_f {C : zC} {n0 a n P ca : Nat} {ρ : Nat → Nat} {R : Nat → Prop} {κ τ : zS} (W : zW C n0 κ) (Ta : zT κ a = 12) (N : nmI ρ κ) (Z : zF (soF ρ R ca) κ τ) (hn : n ≤ 1000) (hR : ∀ r, 100 ≤ r → ¬ R r) (V : wsI9 ρ κ a n P) : wsI9 ρ τ a n P := by
  obtain ⟨e3, e4⟩ := wU9_f W Ta Z
  refine ⟨by rw [e3.2]; exact V.1, fun k hk => ?_⟩
  obtain ⟨h1, h2, h3⟩ := V.2 k hk
  rw [e3.1, e4]
  exact ⟨h1, h2, wsK9_f W N Z h2 (ws_r9 (by omega)) ⟨hR _ (by omega), hR _ (by omega), hR _ (by omega)⟩ h3⟩
/-- a next of a state -/
theorem nx_9 {κ : zS} {a n k i : Nat} (A : atW κ a n) (hk : k < n) (h1 : (zA κ (zR κ atFirsts a) k).toInt ≤ (i : Int)) (h2 : (i : Int) < (zA κ (zR κ atFirsts a) (k + 1)).toInt) : ((i : Int) < (zN κ (zR κ atSorts a)) ∧ (i : Int) < (zN κ (zR κ atNumbers a)) ∧ (i : Int) < (zN κ (zR κ atWeights a))) ∧ (zA κ (zR κ atSorts a) i = 0 → 0 ≤ (zA κ (zR κ atNumbers a) i).toInt ∧ (zA κ (zR κ atNumbers a) i).toInt < n) ∧ 0 ≤ (zA κ (zR κ atWeights a) i).toInt := by
  obtain ⟨_, AL, _, A4, A5, A6⟩ := A
  obtain ⟨⟨e1, e2, e3⟩, e4, _⟩ := A6 k hk
  have q := e4 i h1 h2
  obtain ⟨⟨l1, l2⟩, _, _⟩ := AL
  rw [A4] at q
  exact ⟨⟨by rw [l1]; omega, by omega, by rw [l2]; omega⟩, q.1, q.2.2⟩
theorem So_worthBehind_c {C : zC} {n0 : Nat} {a0 : Nat} {a1 : Int32} {κ : zS} {Q : Option Nat → zS → Prop} (W : zW C n0 κ) (Ta0 : zT κ a0 = 12) (ρ : Nat → Nat) (n9 P9 k9 : Nat) (hp : atW κ (zR κ soAtlas a0) n9 ∧ wsI9 ρ κ a0 n9 P9 ∧ k9 < n9 ∧ 0 ≤ a1.toInt ∧ (zA κ (zR κ atFirsts (zR κ soAtlas a0)) k9).toInt ≤ a1.toInt ∧ a1.toInt < (zA κ (zR κ atFirsts (zR κ soAtlas a0)) (k9 + 1)).toInt) (h : ∀ (v : Option Nat), (v = none ∨ ∃ j, j < n9 ∧ v = some (wU9 κ a0 j)) → Q v κ) : zRun C 0 mSo_worthBehind [.ref a0, .int a1] κ (oQ 11 Q noX) := by
  refine So_worthBehind_run W Ta0 ?_
  replace W := W.lo (Nat.le_trans W.1.2.1 W.1.2.2) (Nat.le_refl (zn κ))
  unfold w_So_worthBehind_0
  obtain ⟨A0, V0, p1, p0, p2, p3⟩ := hp
  have k := cnk p0
  have nx := nx_9 A0 p1 (i := a1.toNatClampNeg) (by omega) (by omega)
  refine ⟨?_, ?_⟩
  · rw [inb_iff]; omega  -- b1
  refine ⟨fun c1 => ?_, fun c1 => ?_⟩
  · skip
    refine h _ ?_
    · exact Or.inl rfl  -- q2
  · skip
    refine ⟨?_, ?_⟩
    · rw [inb_iff]; omega  -- b3
    refine ⟨?_, ?_⟩
    · have q := nx.2.1 c1
      have v := V0.1
      rw [inb_iff]; omega
    refine h _ ?_
    · have q := nx.2.1 c1
      have k2 := cnk q.1
      exact Or.inr ⟨_, by omega, (V0.2 (zA κ (zR κ atNumbers (zR κ soAtlas a0)) a1.toNatClampNeg).toNatClampNeg (by omega)).1⟩

theorem So_isAbove_c {C : zC} {n0 : Nat} {a0 : Nat} {a1 : Option Nat} {a2 : Option Nat} {κ : zS} {Q : Int32 → zS → Prop} (W : zW C n0 κ) (Ta0 : zT κ a0 = 12) (Ta1 : ∀ v, a1 = some v → zT κ v = 11) (Ta2 : ∀ v, a2 = some v → zT κ v = 11) (ρ : Nat → Nat) (n9 P9 : Nat) (hp : (nmI ρ κ ∧ soI ρ κ a0) ∧ wsI9 ρ κ a0 n9 P9 ∧ n9 ≤ 1000 ∧ (a1 = none ∨ ∃ j, j < n9 ∧ a1 = some (wU9 κ a0 j)) ∧ (a2 = none ∨ ∃ j, j < n9 ∧ a2 = some (wU9 κ a0 j))) (h : ∀ (v : Int32) (κ' : zS), ((zF (soF ρ (fun r => r = 7 ∨ r = 8) (zR κ soCalc a0)) κ κ' ∧ nmI ρ κ' ∧ soI ρ κ' a0) ∧ (nuN κ' (zR κ soLess a0) < pB9 4000 ∨ nuN κ' (zR κ soLess a0) = nuN κ (zR κ soLess a0))) → Q v κ') : zRun C 4 mSo_isAbove [.ref a0, va_rf a1, va_rf a2] κ (oI Q noX) := by
  refine So_isAbove_run W Ta0 Ta1 Ta2 ?_
  replace W := W.lo (Nat.le_trans W.1.2.1 W.1.2.2) (Nat.le_refl (zn κ))
  unfold w_So_isAbove_0
  obtain ⟨⟨N0, S0⟩, V0, hn, p3, p4⟩ := hp
  have h7 := S0.1.2.2.2.2.1
  have h8 := S0.1.2.2.2.2.2.1
  have ts := ty_soSum W Ta0
  have tl := ty_soLess W Ta0
  have hj45 : ∀ (l0 : Nat) (l3 : Int32) (l4 : Int32) (τ : zS), zW C (zn κ) τ → zT τ l0 = 12 → (κ = τ ∧ a0 = l0 ∧ True) → w_So_isAbove_45 C (zn κ) Q  l0 l3 l4 τ := by
    rintro _ y45_3 y45_4 _ W45 T45_0 ⟨rfl, rfl, j45⟩
    unfold w_So_isAbove_45
    refine ⟨fun c1 => ?_, fun c1 => ?_⟩
    · skip
      refine h _ _ ?_
      · exact ⟨⟨zF.rf, N0, S0⟩, Or.inr rfl⟩  -- q1
    · skip
      refine h _ _ ?_
      · exact ⟨⟨zF.rf, N0, S0⟩, Or.inr rfl⟩  -- q2
  have hj25 : ∀ (l0 : Nat) (l1 : Option Nat) (l2 : Option Nat) (l3 : Int32) (s0 : Int32) (τ : zS), zW C (zn κ) τ → zT τ l0 = 12 → (∀ v, l1 = some v → zT τ v = 11) → (∀ v, l2 = some v → zT τ v = 11) → (κ = τ ∧ a0 = l0 ∧ a1 = l1 ∧ a2 = l2 ∧ True) → w_So_isAbove_25 C (zn κ) Q  l0 l1 l2 l3 s0 τ := by
    rintro _ _ _ y25_3 y25_s0 _ W25 T25_0 T25_1 T25_2 ⟨rfl, rfl, rfl, rfl, j25⟩
    unfold w_So_isAbove_25
    refine ⟨fun c2 => ?_, fun c2 => ?_⟩
    · skip
      refine hj45 _ _ _ _ W25 ?_ ?_
      · assumption  -- t3
      · exact ⟨rfl, rfl, trivial⟩  -- k4
    · skip
      refine ⟨fun c3 => ?_, fun uc3 c3 => ?_⟩
      · skip
        refine hj45 _ _ _ _ W25 ?_ ?_
        · assumption  -- t5
        · exact ⟨rfl, rfl, trivial⟩  -- k6
      · skip
        refine ⟨fun c4 => ?_, fun uc4 c4 => ?_⟩
        · skip
          refine hj45 _ _ _ _ W25 ?_ ?_
          · assumption  -- t7
          · exact ⟨rfl, rfl, trivial⟩  -- k8
        · skip
          refine ⟨fun c5 => ?_, fun c5 => ?_⟩
          · skip
            refine ex_some ?_ (fun u6 hu6 => ?_)
            · exact ⟨_, c3⟩  -- e9
            refine ex_some ?_ (fun u7 hu7 => ?_)
            · exact ⟨_, c4⟩  -- e10
            intro T8
            intro T9
            intro T10
            obtain ⟨j1, hj1, f1⟩ : ∃ j, j < n9 ∧ wU9 κ a0 j = u6 := by
              rcases p3 with z | ⟨j, hj, z⟩
              · rw [z] at hu6; cases hu6
              · exact ⟨j, hj, Option.some.inj (z.symm.trans hu6)⟩
            obtain ⟨j2, hj2, f2⟩ : ∃ j, j < n9 ∧ wU9 κ a0 j = u7 := by
              rcases p4 with z | ⟨j, hj, z⟩
              · rw [z] at hu7; cases hu7
              · exact ⟨j, hj, Option.some.inj (z.symm.trans hu7)⟩
            obtain ⟨_, w1, x1⟩ := V0.2 j1 hj1
            obtain ⟨_, w2, x2⟩ := V0.2 j2 hj2
            rw [f1] at w1 x1
            rw [f2] at w2 x2
            have g1 := ra_g9 N0 w1 (by omega) (by omega) (by omega)
            have g2 := ra_g9 N0 w2 (by omega) (by omega) (by omega)
            have gs := nm_g N0 h7 (Or.inl ⟨by decide, by decide⟩) (by decide)
            have k1 := k256 g1.2.2.2.1 x1.1.1
            have k2 := k256 g2.2.2.2.2.1 x2.1.2
            refine Nu_product_c W25 T8 T9 T10 6500 30000000 30000000 ?_ (fun κ_11 q12 => ?_)
            · exact ⟨gs.2.2, ⟨nuI_mono (by decide) g1.2.2.2.1, nuI_mono (by decide) g2.2.2.2.2.1⟩, ⟨ro_n h7 g1.2.1.1 (by omega), ro_n h7 g2.2.1.2 (by omega)⟩, by omega, by decide⟩  -- p11
            obtain ⟨F1, I1, V1⟩ := q12
            have Z1 : zF (soF ρ (fun r => r = 7) (zR κ soCalc a0)) κ κ_11 := soF_1 h7 F1
            have N1 : nmI ρ κ_11 := nm_1 W25 N0 F1 (by rw [h7]; exact I1)
            have S1 : soI ρ κ_11 a0 := so_1 W25 Ta0 S0 F1
            have T11 : zT κ_11 a0 = 12 := F1.t Ta0 (by decide)
            have el1 : zR κ_11 soLess a0 = (zR κ soLess a0) := (soF_r9 Z1 (by decide)).1
            intro W13
            intro M14
            refine ex_some ?_ (fun u15 hu15 => ?_)
            · exact ⟨_, c4⟩  -- e12
            refine ex_some ?_ (fun u16 hu16 => ?_)
            · exact ⟨_, c3⟩  -- e13
            intro T17
            intro T18
            intro T19
            have e15 : u15 = u7 := Option.some.inj (hu15.symm.trans hu7)
            have e16 : u16 = u6 := Option.some.inj (hu16.symm.trans hu6)
            subst e15
            subst e16
            have r1 := ra_f9 W25 N0 Z1 w1 g1.1.2 ⟨by omega, by omega, by omega⟩
            have r2 := ra_f9 W25 N0 Z1 w2 g2.1.2 ⟨by omega, by omega, by omega⟩
            have d1 := ra_g9 N1 w1 (by omega) (by omega) (by omega)
            have d2 := ra_g9 N1 w2 (by omega) (by omega) (by omega)
            have gl := nm_g N1 (w := (zR κ soLess a0)) h8 (Or.inl ⟨by decide, by decide⟩) (by decide)
            have y1 : nuN κ_11 (zR κ_11 raBottom u16) < 2 ^ 256 := by rw [r1.2.1.2, r1.2.2.2]; exact x1.1.2
            have y2 : nuN κ_11 (zR κ_11 raTop u15) < 2 ^ 256 := by rw [r2.2.1.1, r2.2.2.1]; exact x2.1.1
            have k3 := k256 d1.2.2.2.2.1 y1
            have k4 := k256 d2.2.2.2.1 y2
            refine Nu_product_c W13 T17 T18 T19 6500 30000000 30000000 ?_ (fun κ_20 q21 => ?_)
            · rw [el1]
              exact ⟨gl.2.2, ⟨nuI_mono (by decide) d2.2.2.2.1, nuI_mono (by decide) d1.2.2.2.2.1⟩, ⟨ro_n h8 d2.2.1.1 (by omega), ro_n h8 d1.2.1.2 (by omega)⟩, by omega, by decide⟩
            intro W22
            intro M23
            intro T24
            intro T25
            rw [el1] at q21
            obtain ⟨F2, I2, V2⟩ := q21
            have Z2 : zF (soF ρ (fun r => r = 8) (zR κ soCalc a0)) κ_11 κ_20 := soF_1 h8 F2
            have N2 : nmI ρ κ_20 := nm_1 W13 N1 F2 (by rw [h8]; exact I2)
            have S2 : soI ρ κ_20 a0 := so_1 W13 T11 S1 F2
            have Zf : zF (soF ρ (fun r => r = 7 ∨ r = 8) (zR κ soCalc a0)) κ κ_20 := (soF_m (fun r z => Or.inl z) Z1).tr (soF_m (fun r z => Or.inr z) Z2)
            have es2 : zR κ_20 soSum a0 = (zR κ soSum a0) := (soF_r9 Zf (by decide)).1
            have el2 : zR κ_20 soLess a0 = (zR κ soLess a0) := (soF_r9 Zf (by decide)).1
            have gs2 := nm_g N2 (w := (zR κ soSum a0)) h7 (Or.inl ⟨by decide, by decide⟩) (by decide)
            have gl2 := nm_g N2 (w := (zR κ soLess a0)) h8 (Or.inl ⟨by decide, by decide⟩) (by decide)
            have lf : nuN κ_20 (zR κ soLess a0) < pB9 4000 := by
              rw [V2]
              have q : nuN κ_11 (zR κ_11 raTop u15) * nuN κ_11 (zR κ_11 raBottom u16) < 2 ^ 256 * 2 ^ 256 := Nat.mul_lt_mul'' y2 y1
              have q2 : 2 ^ 256 * 2 ^ 256 ≤ pB9 100 := by unfold pB9; decide
              exact Nat.lt_of_lt_of_le q (Nat.le_trans q2 (pB9_l (by decide)))
            refine Nu_compare_c W22 T24 T25 6500 6500 ?_ (fun r26 q28 => ?_)
            · rw [es2, el2]
              exact ⟨gs2.1, gl2.1⟩
            intro W29
            intro M30
            refine ⟨fun c31 => ?_, fun c31 => ?_⟩
            · skip
              refine h _ _ ?_
              · exact ⟨⟨Zf, N2, S2⟩, Or.inl lf⟩  -- q16
            · skip
              refine h _ _ ?_
              · exact ⟨⟨Zf, N2, S2⟩, Or.inl lf⟩  -- q17
          · skip
            refine hj45 _ _ _ _ W25 ?_ ?_
            · assumption  -- t18
            · exact ⟨rfl, rfl, trivial⟩  -- k19
  have hj12 : ∀ (l0 : Nat) (l1 : Option Nat) (l2 : Option Nat) (s0 : Int32) (τ : zS), zW C (zn κ) τ → zT τ l0 = 12 → (∀ v, l1 = some v → zT τ v = 11) → (∀ v, l2 = some v → zT τ v = 11) → (κ = τ ∧ a0 = l0 ∧ a1 = l1 ∧ a2 = l2 ∧ True) → w_So_isAbove_12 C (zn κ) Q  l0 l1 l2 s0 τ := by
    rintro _ _ _ y12_s0 _ W12 T12_0 T12_1 T12_2 ⟨rfl, rfl, rfl, rfl, j12⟩
    unfold w_So_isAbove_12
    refine ⟨fun uc32 c32 => ?_, fun c32 => ?_⟩
    · skip
      refine ex_some ?_ (fun u33 hu33 => ?_)
      · exact ⟨_, c32⟩  -- e20
      refine hj25 _ _ _ _ _ _ W12 ?_ ?_ ?_ ?_
      · assumption  -- t21
      · assumption  -- t22
      · assumption  -- t23
      · exact ⟨rfl, rfl, rfl, rfl, trivial⟩  -- k24
    · skip
      refine hj25 _ _ _ _ _ _ W12 ?_ ?_ ?_ ?_
      · assumption  -- t25
      · assumption  -- t26
      · assumption  -- t27
      · exact ⟨rfl, rfl, rfl, rfl, trivial⟩  -- k28
  refine ⟨fun uc34 c34 => ?_, fun c34 => ?_⟩
  · skip
    refine ex_some ?_ (fun u35 hu35 => ?_)
    · exact ⟨_, c34⟩  -- e29
    refine hj12 _ _ _ _ _ W ?_ ?_ ?_ ?_
    · assumption  -- t30
    · assumption  -- t31
    · assumption  -- t32
    · exact ⟨rfl, rfl, rfl, rfl, trivial⟩  -- k33
  · skip
    refine hj12 _ _ _ _ _ W ?_ ?_ ?_ ?_
    · assumption  -- t34
    · assumption  -- t35
    · assumption  -- t36
    · exact ⟨rfl, rfl, rfl, rfl, trivial⟩  -- k37
