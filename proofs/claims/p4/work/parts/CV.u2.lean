set_option maxHeartbeats 1600000
/-! the class: Ratio's constructor; the Solver's cells -/
theorem Ra_init_c {C : zC} {n0 : Nat} {a0 : Nat} {a1 : Int32} {κ : zS} {Q : zS → Prop} (W : zW C n0 κ) (Ta0 : zT κ a0 = 51)  (hp : a1.toInt ≤ 10000 ∧ a0 < zn κ) (h : ∀ (κ' : zS), (zF (fun _ b => b = a0 ∨ zn κ ≤ b) κ κ' ∧ (zR κ' raTop a0 = zn κ ∧ zR κ' raBottom a0 = zn κ + 2) ∧ (zT κ' (zn κ) = 8 ∧ zT κ' (zn κ + 2) = 8 ∧ zT κ' a0 = 51) ∧ (nuI κ' (zn κ) (if a1 < (2 : Int32) then (2 : Int32) else a1).toNatClampNeg ∧ nuI κ' (zn κ + 2) (if a1 < (2 : Int32) then (2 : Int32) else a1).toNatClampNeg) ∧ (nT9 8 κ' ≤ nT9 8 κ + 2 ∧ nT9 11 κ' ≤ nT9 11 κ)) → Q κ') : zRun C 2 mRa_init [.ref a0, .int a1] κ (oV Q noX) := by
  refine Ra_init_run W Ta0 ?_
  replace W := W.lo (Nat.le_trans W.1.2.1 W.1.2.2) (Nat.le_refl (zn κ))
  unfold w_Ra_init_0
  obtain ⟨p1, p2⟩ := hp
  have mx := mx_9 p1
  intro κ_1 hκ_1
  intro W2
  intro T3
  refine Nu_init_c W2 T3  ?_ (fun κ_4 q5 => ?_)
  · exact p1  -- p1
  intro W6
  intro M7
  have A := mk_Nu9 (κ6 := nff κ_4 (zn κ)) W hκ_1 q5 rfl
  have r4 : zR κ_4 nuLimbs (zn κ) = zn κ_1 := by rw [q5]; exact if_pos ⟨rfl, rfl⟩
  have n1 : zn κ_1 = zn κ + 1 := by rw [hκ_1]; rfl
  refine ⟨?_, ?_⟩
  · refine zOk_8 ?_ ?_
    · rw [r4, q5]
      exact if_pos rfl
    · rw [r4, q5]
      exact if_pos rfl
  intro κ_8 hκ_8
  intro W9
  intro κ_10 hκ_10
  intro W11
  intro κ_12 hκ_12
  intro W13
  intro T14
  refine Nu_init_c W13 T14  ?_ (fun κ_15 q16 => ?_)
  · exact p1  -- p3
  intro W17
  intro M18
  rw [← hκ_8] at A
  obtain ⟨A1, ⟨A2, A3, A4, A5, A6, A7, A8⟩, A9⟩ := A
  have n10 : zn κ_10 = zn κ + 2 := by rw [hκ_10]; exact A6
  have Z10 : zF (fun _ b => b = a0 ∨ zn κ ≤ b) κ κ_10 := (A1.mono (fun _ b z => Or.inr z)).tr (by rw [hκ_10]; exact zF_ur (Or.inl rfl) (show zr raTop = some 8 by decide +kernel) (by decide))
  have B := mk_Nu9 (κ6 := nff κ_15 (zn κ_10)) W11 hκ_12 q16 rfl
  have r15 : zR κ_15 nuLimbs (zn κ_10) = zn κ_12 := by rw [q16]; exact if_pos ⟨rfl, rfl⟩
  refine ⟨?_, ?_⟩
  · refine zOk_8 ?_ ?_
    · rw [r15, q16]
      exact if_pos rfl
    · rw [r15, q16]
      exact if_pos rfl
  intro κ_19 hκ_19
  intro W20
  intro κ_21 hκ_21
  intro W22
  rw [← hκ_19] at B
  obtain ⟨B1, ⟨B2, B3, B4, B5, B6, B7, B8⟩, B9⟩ := B
  have e21 : zR κ_21 raBottom a0 = zn κ_10 := by rw [hκ_21]; exact if_pos ⟨rfl, rfl⟩
  have t21 : ∀ b, zT κ_21 b = zT κ_19 b := fun b => by rw [hκ_21]; rfl
  have Z21 : zF (fun _ b => b = a0 ∨ zn κ ≤ b) κ κ_21 := (Z10.tr (B1.mono (fun _ b z => Or.inr (by omega)))).tr (by rw [hκ_21]; exact zF_ur (Or.inl rfl) (show zr raBottom = some 8 by decide +kernel) (by decide))
  refine ⟨?_, ?_⟩
  · rw [e21, t21]; exact B2  -- b5
  intro T23
  have b21 := nu_new9 (κ := κ_21) (w := zn κ_10) (n := (if a1 < (2 : Int32) then (2 : Int32) else a1).toNatClampNeg) (by
    have q : zR κ_21 nuLimbs (zn κ_10) = zn κ_10 + 1 := by rw [hκ_21]; exact B3
    rw [q, hκ_21]
    exact B4) (by rw [hκ_21]; exact B5) mx.1
  refine Nu_put_c W22 T23 (if a1 < (2 : Int32) then (2 : Int32) else a1).toNatClampNeg ?_ (fun κ_24 q25 => ?_)
  · rw [e21]
    exact ⟨by decide, b21.1.1.2.1⟩
  intro W26
  intro M27
  refine h _ ?_
  · rw [e21] at q25
    obtain ⟨Fp, ⟨Rp, Np⟩, Ip, Vp⟩ := q25
    have n21 : zn κ_21 = zn κ + 4 := by rw [hκ_21]; show zn κ_19 = _; rw [B6, n10]
    have Zf : zF (fun _ b => b = a0 ∨ zn κ ≤ b) κ κ_24 := Z21.tr (Fp.mono (fun f b z => Or.inr (by rw [z.1, n10]; omega)))
    have ta21 : zT κ_21 a0 = 51 := by
      rw [t21, B9 a0 (by omega), hκ_10]
      show zT κ_8 a0 = 51
      rw [A9 a0 p2]
      exact Ta0
    have l8 : nuI κ_24 (zn κ) (if a1 < (2 : Int32) then (2 : Int32) else a1).toNatClampNeg := by
      have i8 := nu_new9 (κ := κ_8) (w := zn κ) (n := (if a1 < (2 : Int32) then (2 : Int32) else a1).toNatClampNeg) (by rw [A3]; exact A4) A5 mx.1
      have t10 : zT κ_10 (zn κ) = 8 := by rw [hκ_10]; exact A2
      have i10 : nuI κ_10 (zn κ) (if a1 < (2 : Int32) then (2 : Int32) else a1).toNatClampNeg := by
        have z : zF (fun f b => f = raTop) κ_8 κ_10 := by rw [hκ_10]; exact zF_ur rfl (show zr raTop = some 8 by decide +kernel) (by decide)
        exact (nuB_z W9 A2 z (by decide) (by decide)).2.1 i8.1
      have i19 := (nuB_z (c := (if a1 < (2 : Int32) then (2 : Int32) else a1).toNatClampNeg) W11 t10 B1 (by omega) (by omega)).2.1 i10
      have t19 : zT κ_19 (zn κ) = 8 := by rw [B9 _ (by omega)]; exact t10
      have i21 : nuI κ_21 (zn κ) (if a1 < (2 : Int32) then (2 : Int32) else a1).toNatClampNeg := by
        have z : zF (fun f b => f = raBottom) κ_19 κ_21 := by rw [hκ_21]; exact zF_ur rfl (show zr raBottom = some 8 by decide +kernel) (by decide)
        exact (nuB_z W20 t19 z (by decide) (by decide)).2.1 i19
      exact (nuB_z W22 (by rw [t21]; exact t19) Fp (fun z => by have := z.1; omega) (fun z => by have := z.1; omega)).2.1 i21
    have c8 : ∀ t, nT9 t κ_8 = nT9 t κ + (if 8 = t then 1 else 0) + (if 20 = t then 1 else 0) := fun t => by
      have q := nT_29 (t := t) (κ := κ) (τ := κ_8) A6 A9
      rw [A2, A7] at q
      exact q
    have c10 : ∀ t, nT9 t κ_10 = nT9 t κ_8 := fun t => nT_09 (by rw [hκ_10]; rfl) (fun b _ => by rw [hκ_10]; rfl)
    have c19 : ∀ t, nT9 t κ_19 = nT9 t κ_10 + (if 8 = t then 1 else 0) + (if 20 = t then 1 else 0) := fun t => by
      have q := nT_29 (t := t) (κ := κ_10) (τ := κ_19) B6 B9
      rw [B2, B7] at q
      exact q
    have c21 : ∀ t, nT9 t κ_21 = nT9 t κ_19 := fun t => nT_09 (by rw [hκ_21]; rfl) (fun b _ => by rw [hκ_21]; rfl)
    have c24 : ∀ t, 3 ≤ t ∧ t < 20 → nT9 t κ_24 ≤ nT9 t κ_21 := fun t ht => nT_z9 W22 Fp (fun b _ z => by rcases z.2 with q | q <;> exact absurd q (by decide)) ht
    have d8 := c24 8 (by decide)
    have d11 := c24 11 (by decide)
    rw [c21, c19, c10, c8] at d8 d11
    simp at d8 d11
    refine ⟨Zf, ⟨?_, ?_⟩, ⟨?_, ?_, ?_⟩, ⟨l8, by rw [← n10]; exact Ip⟩, by omega, by omega⟩
    · rw [Rp, hκ_21]
      show zR κ_19 raTop a0 = zn κ
      rw [B1.r (show ¬ zn κ_10 ≤ a0 by omega), hκ_10]
      exact if_pos ⟨rfl, rfl⟩
    · rw [Rp, e21, n10]
    · refine Fp.t ?_ (by decide)
      rw [t21, B9 _ (by omega), hκ_10]
      exact A2
    · rw [← n10]
      refine Fp.t ?_ (by decide)
      rw [t21]; exact B2
    · exact M27.1 a0 50 (Or.inl (by omega)) ta21
