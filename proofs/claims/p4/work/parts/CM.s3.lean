set_option maxHeartbeats 1600000
/-! the class: Solver's keepPart -/
/-- a fraction of a role was written -/
theorem nm_ra {C : zC} {n0 a p r : Nat} {ρ : Nat → Nat} {κ τ : zS} (W : zW C n0 κ) (Ta : zT κ a = 12) (N : nmI ρ κ) (I : soI ρ κ a) (hp : ρ p = r) (hr : raR r) (Z : zF (raF (zR κ raTop p) (zR κ raBottom p) p) κ τ) (J1 : nuI τ (zR κ raTop p) (capR (r + 1))) (J2 : nuI τ (zR κ raBottom p) (capR (r + 2))) : (nmI ρ τ ∧ soI ρ τ a) ∧ ∀ ca, zF (soF ρ (fun q => q = r ∨ q = r + 1 ∨ q = r + 2) ca) κ τ := by
  have P := N.2 p (by rw [hp]; exact hr)
  have h1 : ρ (zR κ raTop p) = r + 1 := by rw [P.2.1, hp]
  have h2 : ρ (zR κ raBottom p) = r + 2 := by rw [P.2.2, hp]
  have et : ∀ f b, f ≠ nuLimbs → f ≠ nuLength → f ≠ raSign → zR τ f b = zR κ f b := fun f b x y z => raF_r Z x y z
  refine ⟨⟨nm_k W N Z (fun w hw => ?_) (fun v => et _ _ (by decide) (by decide) (by decide)) (fun v => et _ _ (by decide) (by decide) (by decide)), so_k' I et (Z.l (ty_caFactors W (ty_soCalc W Ta)))⟩, fun ca => Z.mono (fun f b z => ?_)⟩
  · by_cases z1 : w = zR κ raTop p
    · right
      rw [z1, h1]
      exact ⟨J1.1.2.1, fun _ => J1⟩
    · by_cases z2 : w = zR κ raBottom p
      · right
        rw [z2, h2]
        exact ⟨J2.1.2.1, fun _ => J2⟩
      · left
        refine ⟨fun z => ?_, fun z => ?_⟩
        · rcases z with ⟨z | z, _⟩ | z
          · exact z1 z
          · exact z2 z
          · exact absurd z.2 (by decide)
        · rcases z with ⟨z | z, _⟩ | z
          · exact z1 z
          · exact z2 z
          · exact absurd z.2 (by decide)
  · rcases z with ⟨z | z, y⟩ | z
    · exact Or.inl ⟨by rw [z, h1]; exact Or.inr (Or.inl rfl), y.elim Or.inl (fun q => Or.inr (Or.inl q))⟩
    · exact Or.inl ⟨by rw [z, h2]; exact Or.inr (Or.inr rfl), y.elim Or.inl (fun q => Or.inr (Or.inl q))⟩
    · exact Or.inl ⟨by rw [z.1, hp]; exact Or.inl rfl, Or.inr (Or.inr z.2)⟩
theorem k256 {κ : zS} {w c : Nat} (I : nuI κ w c) (h : nuN κ w < 2 ^ 256) : nuK κ w ≤ 9 := nuK_lt I (by
  rw [p31_2]
  exact Nat.lt_of_lt_of_le h (Nat.pow_le_pow_right (by decide) (by decide)))
theorem cap_v {r : Nat} (h : 100 ≤ r) (h2 : r < 999990) : capR r = 20 ∧ capR (r + 1) = 20 ∧ capR (r + 2) = 20 := by
  unfold capR
  refine ⟨?_, ?_, ?_⟩
  · rw [if_neg (by omega), if_pos (by omega)]
  · rw [if_neg (by omega), if_pos (by omega)]
  · rw [if_neg (by omega), if_pos (by omega)]
theorem So_keepPart_c {C : zC} {n0 : Nat} {a0 : Nat} {a1 : Nat} {κ : zS} {Q : Int32 → zS → Prop} (W : zW C n0 κ) (Ta0 : zT κ a0 = 12) (Ta1 : zT κ a1 = 11) (ρ : Nat → Nat) (w9 : Nat) (hp : (nmI ρ κ ∧ soI ρ κ a0) ∧ ρ a1 = w9 ∧ (100 ≤ w9 ∧ w9 < 999990 ∧ w9 % 4 = 0)) (h : ∀ (v : Int32) (κ' : zS), (nb v ∧ (v = 0 → κ' = κ) ∧ (v ≠ 0 → (zF (soF ρ (fun q => q = w9 ∨ q = w9 + 1 ∨ q = w9 + 2) (zR κ soCalc a0)) κ κ' ∧ nmI ρ κ' ∧ soI ρ κ' a0) ∧ (nuN κ (zR κ raTop (zR κ soPart a0)) < 2 ^ 256 ∧ nuN κ (zR κ raBottom (zR κ soPart a0)) < 2 ^ 256) ∧ raV κ' a1 ((zI κ raSign (zR κ soPart a0)).toInt) (nuN κ (zR κ raTop (zR κ soPart a0))) (nuN κ (zR κ raBottom (zR κ soPart a0))))) → Q v κ') : zRun C 3 mSo_keepPart [.ref a0, .ref a1] κ (oI Q noX) := by
  refine So_keepPart_run W Ta0 Ta1 ?_
  replace W := W.lo (Nat.le_trans W.1.2.1 W.1.2.2) (Nat.le_refl (zn κ))
  unfold w_So_keepPart_0
  obtain ⟨⟨N0, S0⟩, hw, w1, w2, w3⟩ := hp
  have h20 := S0.1.2.2.2.2.2.2
  have P20 := N0.2 (zR κ soPart a0) (by rw [h20]; exact Or.inl rfl)
  have h21 : ρ (zR κ raTop (zR κ soPart a0)) = 21 := by rw [P20.2.1, h20]
  have h22 : ρ (zR κ raBottom (zR κ soPart a0)) = 22 := by rw [P20.2.2, h20]
  have rw9 : raR w9 := Or.inr (Or.inr ⟨w1, by omega, w3⟩)
  have PW := N0.2 a1 (by rw [hw]; exact rw9)
  have hw1 : ρ (zR κ raTop a1) = w9 + 1 := by rw [PW.2.1, hw]
  have hw2 : ρ (zR κ raBottom a1) = w9 + 2 := by rw [PW.2.2, hw]
  have cv := cap_v w1 w2
  have g21 := nm_g N0 h21 (Or.inr (Or.inl rfl)) (by decide)
  have g22 := nm_g N0 h22 (Or.inr (Or.inr (Or.inl rfl))) (by decide)
  have gw1 := nm_g N0 hw1 (raR_n rw9).1 (by omega)
  have gw2 := nm_g N0 hw2 (raR_n rw9).2 (by omega)
  rw [cv.2.1] at gw1
  rw [cv.2.2] at gw2
  intro T1
  refine Ra_fits_c W T1  ?_ (fun r2 q4 => ?_)
  · exact ⟨g21.2.1, g22.2.1⟩  -- p1
  intro W5
  intro M6
  refine ⟨fun c7 => ?_, fun c7 => ?_⟩
  · skip
    refine ⟨?_, h _ _ ?_⟩
    · exact q4.1  -- b2
    · exact ⟨q4.1, fun _ => rfl, fun z => absurd c7 z⟩  -- q3
  · skip
    intro T8
    intro T9
    have fb := q4.2 c7
    have k1 := k256 g21.1 fb.1
    have k2 := k256 g22.1 fb.2
    refine Ra_copy_c W5 T8 T9 20 ?_ (fun κ_10 q11 => ?_)
    · exact ⟨⟨gw1.2.2, gw2.2.2, ro_n hw1 hw2 (by omega)⟩, ⟨g21.2.1, g22.2.1, ro_n h21 h22 (by decide)⟩, ⟨ro_n hw1 h21 (by omega), ro_n hw1 h22 (by omega), ro_n hw2 h21 (by omega), ro_n hw2 h22 (by omega)⟩, ⟨by omega, by omega⟩, by decide⟩  -- p4
    intro W12
    intro M13
    refine ⟨?_, h _ _ ?_⟩
    · exact q4.1  -- b5
    · obtain ⟨Z, J, V⟩ := q11
      have e1 : zR κ_10 raTop a1 = zR κ raTop a1 := raF_r Z (by decide) (by decide) (by decide)
      have e2 : zR κ_10 raBottom a1 = zR κ raBottom a1 := raF_r Z (by decide) (by decide) (by decide)
      have J' := J
      unfold raJ at J'
      rw [e1, e2] at J'
      have R := nm_ra W Ta0 N0 S0 hw rw9 Z (by rw [cv.2.1]; exact J'.1) (by rw [cv.2.2]; exact J'.2.1)
      exact ⟨q4.1, fun z => absurd z c7, fun _ => ⟨⟨R.2 _, R.1⟩, fb, V⟩⟩
