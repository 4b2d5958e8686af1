set_option maxHeartbeats 1600000
/-! the class: Solver's keep -/
def kpR9 (w : Nat) : Nat → Prop := fun r => stR9 r ∨ r = w ∨ r = w + 1 ∨ r = w + 2
theorem So_keep_c {C : zC} {n0 : Nat} {a0 : Nat} {a1 : Nat} {a2 : Nat} {a3 : Nat} {κ : zS} {Q : Int32 → zS → Prop} (W : zW C n0 κ) (Ta0 : zT κ a0 = 12) (Ta1 : zT κ a1 = 11) (Ta2 : zT κ a2 = 8) (Ta3 : zT κ a3 = 8) (ρ : Nat → Nat) (w9 u9 v9 : Nat) (hp : (nmI ρ κ ∧ soI ρ κ a0) ∧ (ρ a1 = w9 ∧ 100 ≤ w9 ∧ w9 < 999990 ∧ w9 % 4 = 0) ∧ (ρ a2 = u9 ∧ nmR u9 ∧ u9 < 10) ∧ (ρ a3 = v9 ∧ nmR v9 ∧ v9 < 10) ∧ nuN κ a2 < pB9 4000 ∧ nuN κ a3 < pB9 4000) (h : ∀ (v : Int32) (κ' : zS), (nb v ∧ (zF (soF ρ (kpR9 w9) (zR κ soCalc a0)) κ κ' ∧ nmI ρ κ' ∧ soI ρ κ' a0) ∧ (v = 0 → zF (soF ρ stR9 (zR κ soCalc a0)) κ κ') ∧ (v ≠ 0 → (nuN κ a2 / Nat.gcd (nuN κ a2) (nuN κ a3) < 2 ^ 256 ∧ nuN κ a3 / Nat.gcd (nuN κ a2) (nuN κ a3) < 2 ^ 256) ∧ raV κ' a1 1 (nuN κ a2 / Nat.gcd (nuN κ a2) (nuN κ a3)) (nuN κ a3 / Nat.gcd (nuN κ a2) (nuN κ a3)))) → Q v κ') : zRun C 6 mSo_keep [.ref a0, .ref a1, .ref a2, .ref a3] κ (oI Q noX) := by
  refine So_keep_run W Ta0 Ta1 Ta2 Ta3 ?_
  replace W := W.lo (Nat.le_trans W.1.2.1 W.1.2.2) (Nat.le_refl (zn κ))
  unfold w_So_keep_0
  obtain ⟨⟨N0, S0⟩, ⟨hw, w1, w2, w3⟩, ⟨hu, u1, u2⟩, ⟨hv, v1, v2⟩, p1, p2⟩ := hp
  have h20 := S0.1.2.2.2.2.2.2
  have P20 := N0.2 (zR κ soPart a0) (by rw [h20]; exact Or.inl rfl)
  have h21 : ρ (zR κ raTop (zR κ soPart a0)) = 21 := by rw [P20.2.1, h20]
  have h22 : ρ (zR κ raBottom (zR κ soPart a0)) = 22 := by rw [P20.2.2, h20]
  have m21 : nmR 21 := Or.inr (Or.inl rfl)
  have m22 : nmR 22 := Or.inr (Or.inr (Or.inl rfl))
  have tp21 : zT κ (zR κ raTop (zR κ soPart a0)) = 8 := ty_raTop W P20.1
  have tp22 : zT κ (zR κ raBottom (zR κ soPart a0)) = 8 := ty_raBottom W P20.1
  have gu := nm_g N0 hu u1 (by omega)
  have gv := nm_g N0 hv v1 (by omega)
  have ku := nuK_lt gu.1 p1
  have kv := nuK_lt gv.1 p2
  clear u1 v1
  intro κ_1 hκ_1
  intro W2
  intro T3
  intro T4
  have Q1 := nm_s W N0 S0 hκ_1
  have R1 : zR κ_1 = zR κ := by rw [hκ_1]; rfl
  have ua := ui_s (z := a2) (c := 30000000) hκ_1
  have va := ui_s (z := a3) (c := 30000000) hκ_1
  have et1 : zR κ_1 raTop (zR κ_1 soPart a0) = (zR κ raTop (zR κ soPart a0)) := by rw [R1]
  have Z1 : zF (soF ρ stR9 (zR κ soCalc a0)) κ κ_1 := soF_s (by rw [h20]; exact Or.inr (Or.inl rfl)) hκ_1
  have T1 : zT κ_1 a0 = 12 := Z1.t Ta0 (by decide)
  have s1 : (zI κ_1 raSign (zR κ soPart a0)).toInt = 1 := by rw [ua.2.2.2.1]; rfl
  refine Nu_copy_c W2 T3 T4 6500 30000000 ?_ (fun κ_5 q6 => ?_)
  · have f21 := nm_g Q1.1 h21 m21 (by decide)
    rw [et1, ua.2.2.2.2.2.2.2]
    exact ⟨f21.2.2, (ua.2.2.2.2.1 gu.2.1).1, ro_n h21 hu (by omega), by omega, by decide⟩
  rw [et1, ua.2.2.2.2.2.1] at q6
  obtain ⟨F5, B5, V5, K5, Z5⟩ := q6
  have I5 : nuI κ_5 (zR κ raTop (zR κ soPart a0)) 6500 := ⟨B5, Z5 (ua.2.2.2.2.1 gu.2.1).2⟩
  have N5 : nmI ρ κ_5 := nm_1 W2 Q1.1 F5 (by rw [h21]; exact I5)
  have S5 : soI ρ κ_5 a0 := so_1 W2 T1 Q1.2 F5
  have hr5 : ∀ f b, f ≠ nuLimbs → f ≠ nuLength → zR κ_5 f b = zR κ f b := fun f b x y => (nuF_r F5 x y).trans (by rw [R1])
  have eb5 : zR κ_5 raBottom (zR κ_5 soPart a0) = (zR κ raBottom (zR κ soPart a0)) := by rw [hr5 soPart _ (by decide) (by decide), hr5 raBottom _ (by decide) (by decide)]
  have b3 := nuB_z (c := 30000000) W2 (Z1.t Ta3 (by decide)) F5 (fun z => ro_n hv h21 (by omega) z.1) (fun z => ro_n hv h21 (by omega) z.1)
  have T5 : zT κ_5 a0 = 12 := F5.t T1 (by decide)
  have tt5 : zT κ_5 (zR κ raTop (zR κ soPart a0)) = 8 := F5.t (Z1.t tp21 (by decide)) (by decide)
  have Iv5 := b3.2.1 (va.2.2.2.2.1 gv.2.1)
  intro W7
  intro M8
  intro T9
  intro T10
  refine Nu_copy_c W7 T9 T10 6500 30000000 ?_ (fun κ_11 q12 => ?_)
  · have f22 := nm_g N5 h22 m22 (by decide)
    rw [eb5, b3.2.2.2, va.2.2.2.2.2.2.2]
    exact ⟨f22.2.2, Iv5.1, ro_n h22 hv (by omega), by omega, by decide⟩
  rw [eb5, b3.2.2.1, va.2.2.2.2.2.1] at q12
  obtain ⟨F9, B9, V9, K9, Z9⟩ := q12
  have I9 : nuI κ_11 (zR κ raBottom (zR κ soPart a0)) 6500 := ⟨B9, Z9 Iv5.2⟩
  have N9 : nmI ρ κ_11 := nm_1 W7 N5 F9 (by rw [h22]; exact I9)
  have S9 : soI ρ κ_11 a0 := so_1 W7 T5 S5 F9
  have hr9 : ∀ f b, f ≠ nuLimbs → f ≠ nuLength → zR κ_11 f b = zR κ f b := fun f b x y => (nuF_r F9 x y).trans (hr5 f b x y)
  have ec9 : zR κ_11 soCalc a0 = (zR κ soCalc a0) := hr9 _ _ (by decide) (by decide)
  have et9 : zR κ_11 raTop (zR κ_11 soPart a0) = (zR κ raTop (zR κ soPart a0)) := by rw [hr9 soPart _ (by decide) (by decide), hr9 raTop _ (by decide) (by decide)]
  have eb9 : zR κ_11 raBottom (zR κ_11 soPart a0) = (zR κ raBottom (zR κ soPart a0)) := by rw [hr9 soPart _ (by decide) (by decide), hr9 raBottom _ (by decide) (by decide)]
  have bt9 := nuB_z (c := 6500) W7 tt5 F9 (fun z => ro_n h21 h22 (by decide) z.1) (fun z => ro_n h21 h22 (by decide) z.1)
  have VT9 : nuN κ_11 (zR κ raTop (zR κ soPart a0)) = nuN κ a2 := by rw [bt9.2.2.1]; exact V5
  intro W13
  intro M14
  intro T15
  intro T16
  intro T17
  refine Ca_reduce_c W13 T15 T16 T17 6500 4000 6500 ?_ (fun κ_18 q19 => ?_)
  · rw [et9, eb9]
    exact ⟨⟨bt9.2.1 I5, I9⟩, so_ca N9 S9, ⟨so_o S9 h21 (by decide), so_o S9 h22 (by decide), ro_n h21 h22 (by decide)⟩, ⟨by rw [VT9]; exact p1, by rw [V9]; exact p2⟩, ⟨by decide, by decide, by decide⟩, by decide, by decide⟩
  rw [et9, eb9, VT9, V9] at q19
  obtain ⟨⟨Z16, C16, S16⟩, ⟨I16, V16⟩, J16, U16⟩ := q19
  have R := nm_ca9 W13 N9 S9 Z16 C16 S16 (fun b z => by
    rcases z with z | z | z
    · exact Or.inl z
    · right
      rw [z, h21]
      exact ⟨by decide, I16⟩
    · right
      rw [z, h22]
      exact ⟨by decide, J16⟩)
  have s16 : zI κ_18 raSign (zR κ soPart a0) = zI κ_11 raSign (zR κ soPart a0) := Z16.i (fun z => by
    rcases z with ⟨_, z | z⟩ | ⟨_, z | z | z | z⟩
    · exact absurd z (by decide)
    · exact absurd z (by decide)
    · exact absurd z (by decide)
    · exact absurd z (by decide)
    · exact absurd z (by decide)
    · exact absurd z (by decide))
  have sg : (zI κ_18 raSign (zR κ soPart a0)).toInt = 1 := by
    rw [s16, nuF_i F9, nuF_i F5]
    exact s1
  have e16 : ∀ f b, (f ≠ nuLimbs ∧ f ≠ nuLength ∧ f ≠ caRest ∧ f ≠ caX ∧ f ≠ caY ∧ f ≠ caFactors) → zR κ_18 f b = zR κ f b := fun f b x => (caF_r Z16 x).trans (hr9 f b x.1 x.2.1)
  rw [ec9] at Z16
  have Zf : zF (soF ρ stR9 (zR κ soCalc a0)) κ κ_18 := ((Z1.tr (soF_1 (by rw [h21]; exact Or.inr (Or.inr (Or.inl rfl))) F5)).tr (soF_1 (by rw [h22]; exact Or.inr (Or.inr (Or.inr rfl))) F9)).tr (soF_c (fun b z => by
    rcases z with z | z | z
    · have q := S9.2.2.1 b (by rw [ec9]; exact z)
      rw [q]
      exact Or.inl rfl
    · rw [z, h21]
      exact Or.inr (Or.inr (Or.inl rfl))
    · rw [z, h22]
      exact Or.inr (Or.inr (Or.inr rfl))) Z16)
  have et18 : zR κ_18 raTop (zR κ_18 soPart a0) = (zR κ raTop (zR κ soPart a0)) := by rw [e16 soPart _ (by decide), e16 raTop _ (by decide)]
  have eb18 : zR κ_18 raBottom (zR κ_18 soPart a0) = (zR κ raBottom (zR κ soPart a0)) := by rw [e16 soPart _ (by decide), e16 raBottom _ (by decide)]
  have ep18 : zR κ_18 soPart a0 = (zR κ soPart a0) := e16 _ _ (by decide)
  have ec18 : zR κ_18 soCalc a0 = (zR κ soCalc a0) := e16 _ _ (by decide)
  intro W20
  intro M21
  intro T22
  intro T23
  refine So_keepPart_c W20 T22 T23 ρ w9 ?_ (fun r24 κ_25 q26 => ?_)
  · exact ⟨R, hw, w1, w2, w3⟩  -- p4
  intro W27
  intro M28
  refine ⟨?_, h _ _ ?_⟩
  · exact q26.1  -- b5
  · obtain ⟨b, z0, z1⟩ := q26
    rw [et18, eb18, ep18, ec18, sg, V16, U16] at z1
    by_cases z : r24 = 0
    · have e := z0 z
      rw [e]
      exact ⟨b, ⟨soF_m (fun r y => Or.inl y) Zf, R⟩, fun _ => Zf, fun y => absurd z y⟩
    · obtain ⟨⟨y1, y2⟩, y3, y4⟩ := z1 z
      exact ⟨b, ⟨(soF_m (fun r y => Or.inl y) Zf).tr (soF_m (fun r y => Or.inr y) y1), y2⟩, fun y => absurd y z, fun _ => ⟨y3, y4⟩⟩
