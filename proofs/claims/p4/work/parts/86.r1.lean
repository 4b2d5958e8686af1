set_option maxHeartbeats 1600000
/-! the reference: the sum of fractions -/
def sgq (s : Int32) (q : Rat) : Rat := if s = 1 then q else -q
theorem sgq_1 {q : Rat} : sgq 1 q = q := if_pos rfl
theorem sgq_m {q : Rat} : sgq (-1) q = -q := if_neg (by decide)
theorem sgq_0 {s : Int32} : sgq s 0 = 0 := by
  unfold sgq
  split
  · rfl
  · exact Rat.neg_zero
theorem sgq_add {s : Int32} {p q : Rat} : sgq s (p + q) = sgq s p + sgq s q := by
  unfold sgq
  split
  · rfl
  · exact Rat.neg_add
theorem fQ_sum {σ τ : rS} (e8 : nV τ 8 = nV σ 4 * nV σ 7 + nV σ 6 * nV σ 5) (e10 : nV τ 10 = nV σ 5 * nV σ 7) (z5 : 0 < nV σ 5) (z7 : 0 < nV σ 7) : fQ τ 8 10 = fQ σ 4 5 + fQ σ 6 7 := by
  unfold fQ
  rw [Rat.mkRat_add_mkRat _ _ (by omega) (by omega), e8, e10, Int.natCast_add, Int.natCast_mul, Int.natCast_mul]
theorem fQ_d1 {σ τ : rS} (h : nV σ 6 * nV σ 5 ≤ nV σ 4 * nV σ 7) (e8 : nV τ 8 = nV σ 4 * nV σ 7 - nV σ 6 * nV σ 5) (e10 : nV τ 10 = nV σ 5 * nV σ 7) (z5 : 0 < nV σ 5) (z7 : 0 < nV σ 7) : fQ τ 8 10 = fQ σ 4 5 + -fQ σ 6 7 := by
  unfold fQ
  rw [Rat.neg_mkRat, Rat.mkRat_add_mkRat _ _ (by omega) (by omega), e8, e10, Int.neg_mul, ← Int.natCast_mul, ← Int.natCast_mul]
  congr 1
  omega
theorem fQ_d2 {σ τ : rS} (h : nV σ 4 * nV σ 7 ≤ nV σ 6 * nV σ 5) (e8 : nV τ 8 = nV σ 6 * nV σ 5 - nV σ 4 * nV σ 7) (e10 : nV τ 10 = nV σ 5 * nV σ 7) (z5 : 0 < nV σ 5) (z7 : 0 < nV σ 7) : fQ τ 8 10 = -fQ σ 4 5 + fQ σ 6 7 := by
  unfold fQ
  rw [Rat.neg_mkRat, Rat.mkRat_add_mkRat _ _ (by omega) (by omega), e8, e10, Int.neg_mul, ← Int.natCast_mul, ← Int.natCast_mul]
  congr 1
  omega
theorem sgq_d1 {s a : Int32} {A B : Rat} (hs : s = 1 ∨ s = -1) (ha : a = 1 ∨ a = -1) (h : ¬ a = s) : sgq s (A + -B) = sgq s A + sgq a B := by
  rcases hs with rfl | rfl <;> rcases ha with rfl | rfl
  · exact absurd rfl h
  · rw [sgq_1, sgq_1, sgq_m]
  · rw [sgq_m, sgq_m, sgq_1, Rat.neg_add, Rat.neg_neg]
  · exact absurd rfl h
theorem sgq_d2 {s a : Int32} {A B : Rat} (hs : s = 1 ∨ s = -1) (ha : a = 1 ∨ a = -1) (h : ¬ a = s) : sgq a (-A + B) = sgq s A + sgq a B := by
  rcases hs with rfl | rfl <;> rcases ha with rfl | rfl
  · exact absurd rfl h
  · rw [sgq_m, sgq_1, sgq_m, Rat.neg_add, Rat.neg_neg]
  · rw [sgq_1, sgq_m, sgq_1]
  · exact absurd rfl h
theorem fQ_z {σ : rS} {n d : Nat} (h : nV σ n = 0) : fQ σ n d = 0 := by
  unfold fQ
  rw [h]
  exact Rat.zero_mkRat _
def adJR9 (σ τ : rS) (P : Rat) : Prop := frS [8, 9, 10] σ τ ∧ (τ.1 92 = 1 ∨ τ.1 92 = -1) ∧ numO τ 8 ∧ numO τ 10 ∧ 0 < nV τ 10 ∧ nL τ 8 + 1 < 40000 ∧ nL τ 10 + 1 < 40000 ∧ sgq (τ.1 92) (fQ τ 8 10) = P
theorem add_c {C : rCx} (hC : cOK C)  {σ : rS} {a1 : Int32} {Q : rS → Prop} (hp : (a1 = 1 ∨ a1 = -1) ∧ (σ.1 92 = 1 ∨ σ.1 92 = -1) ∧ numO σ 4 ∧ numO σ 5 ∧ numO σ 6 ∧ numO σ 7 ∧ 0 < nV σ 5 ∧ 0 < nV σ 7 ∧ nL σ 4 + nL σ 7 + 3 < 40000 ∧ nL σ 6 + nL σ 5 + 3 < 40000 ∧ nL σ 5 + nL σ 7 + 3 < 40000) (h : ∀ (σ' : rS), (frS [0, 1, 2, 3, 4, 5, 8, 9, 10] σ σ' ∧ hS σ' (sgq (σ.1 92) (fQ σ 4 5) + sgq a1 (fQ σ 6 7))) → Q σ') : cV C 4 m_add [.ref (co C), .int a1] σ Q := by
  refine m_add_run hC ?_
  unfold w_add_0
  obtain ⟨ha, hs, h4, h5, h6, h7, z5, z7, l1, l2, l3⟩ := hp
  have hj117 : ∀  (τ : rS), (adJR9 σ τ (sgq (σ.1 92) (fQ σ 4 5) + sgq a1 (fQ σ 6 7))) → w_add_117 C Q   τ := by
    rintro  τ117 j117
    unfold w_add_117
    obtain ⟨F, w, o8, o10, z10, m8, m10, P⟩ := j117
    refine copy_v hC  ?_ (fun σ_1 q2 => ?_)
    · clear h; simp only [kn]
      exact ⟨by decide, by decide, by decide, by decide, by decide, o8⟩
    simp only [kn] at q2
    have g10 := nV_fr q2.1 (k := 10) (by decide) o10
    refine copy_v hC  ?_ (fun σ_3 q4 => ?_)
    · clear h; simp only [kn]
      exact ⟨by decide, by decide, by decide, by decide, by decide, g10.1⟩
    simp only [kn] at q4
    have g4 := nV_fr q4.1 (k := 4) (by decide) q2.2.1
    have e : fQ σ_3 4 5 = fQ τ117 8 10 := by unfold fQ; rw [g4.2.1, q2.2.2.1, q4.2.2.1, g10.2.1]
    have y5 : 0 < nV σ_3 5 := by rw [q4.2.2.1, g10.2.1]; exact z10
    refine reduce_c hC  ?_ (fun σ_5 q6 => ?_)
    · clear h; simp only [kn]
      exact ⟨by decide, by decide, by decide, by decide, by decide, g4.1, q4.2.1, y5, by omega, by omega⟩
    simp only [kn] at q6
    have R : hR σ_5 4 5 (fQ τ117 8 10) := by rw [← e]; exact hR_red q6.2.1 q6.2.2.1 y5 q6.2.2.2.1 q6.2.2.2.2
    have G : frN [0, 1, 2, 3, 4, 5] τ117 σ_5 := frN_tr (frN_mono q2.1 (sub_of rfl)) (frN_tr (frN_mono q4.1 (sub_of rfl)) (frN_mono q6.1 (sub_of rfl)))
    have GS : frS [0, 1, 2, 3, 4, 5, 8, 9, 10] σ σ_5 := frS_tr (frS_mono F (sub_of rfl)) (frS_of (frN_mono G (sub_of rfl)))
    have s5 : σ_5.1 92 = τ117.1 92 := by rw [G.1]
    refine isZero_c hC  ?_ (fun r7 q9 => ?_)
    · clear h; decide  -- p4
    refine ⟨fun c10 => ?_, fun c10 => ?_⟩
    · skip
      intro σ_11 hσ_11
      refine h _ ?_
      · clear h; rw [hσ_11]
        refine ⟨frS_tr GS frS_92, _, R, ?_⟩
        rcases w with w | w
        · exact Or.inl ⟨s5.trans w, by rw [← P, w, sgq_1]⟩
        · exact Or.inr ⟨s5.trans w, by rw [← P, w, sgq_m]⟩
    · skip
      intro σ_12 hσ_12
      refine h _ ?_
      · clear h; have nz := (z_1 (r := 4) R.1 q9).2 c10
        have q0 : fQ τ117 8 10 = 0 := Rat.num_eq_zero.mp (by rw [← R.2.2.1, nz]; rfl)
        rw [hσ_12]
        refine ⟨frS_tr GS frS_92, _, R, Or.inl ⟨rfl, ?_⟩⟩
        rw [← P, q0, sgq_0]
  have hj43 : ∀ (l1 : Int32) (τ : rS), (l1 = a1 ∧ frN [8, 9, 10] σ τ ∧ numO τ 8 ∧ numO τ 9 ∧ numO τ 10 ∧ nV τ 8 = nV σ 4 * nV σ 7 ∧ nV τ 9 = nV σ 6 * nV σ 5 ∧ nV τ 10 = nV σ 5 * nV σ 7 ∧ nL τ 8 + 3 < 40000 ∧ nL τ 9 + 3 < 40000 ∧ nL τ 10 + 3 < 40000 ∧ (a1 = σ.1 92 ∨ nV σ 4 = 0)) → w_add_43 C Q  l1 τ := by
    rintro y43_1 τ43 j43
    unfold w_add_43
    obtain ⟨e1, F, o8, o9, o10, v8, v9, v10, m8, m9, m10, w⟩ := j43
    refine plus_c hC  ?_ (fun σ_13 q14 => ?_)
    · clear h; simp only [kn]
      exact ⟨by decide, by decide, by decide, by decide, by decide, o8, o9, by omega, by omega⟩
    simp only [kn] at q14
    have FS : frN [8, 9, 10] σ σ_13 := frN_tr F (frN_mono q14.1 (sub_of rfl))
    have g4 := nV_fr FS (k := 4) (by decide) h4
    have g10 := nV_fr q14.1 (k := 10) (by decide) o10
    have SM := fQ_sum (σ := σ) (τ := σ_13) (by rw [q14.2.2.1, v8, v9]) (by rw [g10.2.1, v10]) z5 z7
    have PP : sgq a1 (fQ σ_13 8 10) = sgq (σ.1 92) (fQ σ 4 5) + sgq a1 (fQ σ 6 7) := by
      rw [SM, sgq_add]
      rcases w with w | w
      · rw [← w]
      · rw [fQ_z w, sgq_0, sgq_0]
    have y10 : 0 < nV σ_13 10 := by rw [g10.2.1, v10]; exact Nat.mul_pos z5 z7
    have N8 : nL σ_13 8 + 1 < 40000 := by have := q14.2.2.2; omega
    have N10 : nL σ_13 10 + 1 < 40000 := by omega
    refine isZero_c hC  ?_ (fun r15 q17 => ?_)
    · clear h; decide  -- p8
    have zz := z_1 (r := 4) g4.1 q17
    refine ⟨fun c18 => ?_, fun c18 => ?_⟩
    · skip
      intro σ_19 hσ_19
      refine hj117 _ ?_
      · clear h; have ws : a1 = σ.1 92 := by
          rcases w with w | w
          · exact w
          · have := zz.1 c18
            omega
        rw [hσ_19]
        refine ⟨frS_tr (frS_of FS) frS_92, ?_, q14.2.1, g10.1, y10, N8, N10, ?_⟩
        · show σ_13.1 92 = 1 ∨ σ_13.1 92 = -1
          rw [FS.1]; exact hs
        · show sgq (σ_13.1 92) (fQ σ_13 8 10) = _
          rw [FS.1, ← ws]
          rw [← ws] at PP
          exact PP
    · skip
      intro σ_20 hσ_20
      refine hj117 _ ?_
      · clear h; rw [hσ_20, e1]
        exact ⟨frS_tr (frS_of FS) frS_92, ha, q14.2.1, g10.1, y10, N8, N10, PP⟩
  refine times_c hC  ?_ (fun σ_21 q22 => ?_)
  · clear h; simp only [kn]
    exact ⟨by decide, by decide, by decide, by decide, by decide, by decide, by decide, by decide, h4, h7, by omega⟩
  simp only [kn] at q22
  have a5 := nV_fr q22.1 (k := 5) (by decide) h5
  have a6 := nV_fr q22.1 (k := 6) (by decide) h6
  have a7 := nV_fr q22.1 (k := 7) (by decide) h7
  refine times_c hC  ?_ (fun σ_23 q24 => ?_)
  · clear h; simp only [kn]
    exact ⟨by decide, by decide, by decide, by decide, by decide, by decide, by decide, by decide, a6.1, a5.1, by omega⟩
  simp only [kn] at q24
  have b5 := nV_fr q24.1 (k := 5) (by decide) a5.1
  have b7 := nV_fr q24.1 (k := 7) (by decide) a7.1
  have b8 := nV_fr q24.1 (k := 8) (by decide) q22.2.1
  refine times_c hC  ?_ (fun σ_25 q26 => ?_)
  · clear h; simp only [kn]
    exact ⟨by decide, by decide, by decide, by decide, by decide, by decide, by decide, by decide, b5.1, b7.1, by omega⟩
  simp only [kn] at q26
  have k8 := nV_fr q26.1 (k := 8) (by decide) b8.1
  have k9 := nV_fr q26.1 (k := 9) (by decide) q24.2.1
  have F : frN [8, 9, 10] σ σ_25 := frN_tr (frN_mono q22.1 (sub_of rfl)) (frN_tr (frN_mono q24.1 (sub_of rfl)) (frN_mono q26.1 (sub_of rfl)))
  have v8 : nV σ_25 8 = nV σ 4 * nV σ 7 := by rw [k8.2.1, b8.2.1, q22.2.2.1]
  have v9 : nV σ_25 9 = nV σ 6 * nV σ 5 := by rw [k9.2.1, q24.2.2.1, a6.2.1, a5.2.1]
  have v10 : nV σ_25 10 = nV σ 5 * nV σ 7 := by rw [q26.2.2.1, b5.2.1, a5.2.1, b7.2.1, a7.2.1]
  have N8 : nL σ_25 8 + 3 < 40000 := by have := q22.2.2.2; omega
  have N9 : nL σ_25 9 + 3 < 40000 := by have := q24.2.2.2; omega
  have N10 : nL σ_25 10 + 3 < 40000 := by have := q26.2.2.2; omega
  have s25 : σ_25.1 92 = σ.1 92 := by rw [F.1]
  refine ⟨fun c27 => ?_, fun c27 => ?_⟩
  · skip
    refine hj43 _ _ ?_
    · clear h; exact ⟨rfl, F, k8.1, k9.1, q26.2.1, v8, v9, v10, N8, N9, N10, Or.inl (c27.trans s25)⟩  -- k14
  · skip
    refine isZero_c hC  ?_ (fun r28 q30 => ?_)
    · clear h; decide  -- p15
    have d4 := nV_fr F (k := 4) (by decide) h4
    have zz := z_1 (r := 4) d4.1 q30
    have ne : ¬ a1 = σ.1 92 := fun z => c27 (z.trans s25.symm)
    refine ⟨fun c31 => ?_, fun c31 => ?_⟩
    · skip
      refine compare_c hC  ?_ (fun r32 q34 => ?_)
      · clear h; simp only [kn]
        exact ⟨by decide, by decide, by decide, by decide, k8.1, k9.1⟩
      simp only [kn] at q34
      refine ⟨fun c35 => ?_, fun c35 => ?_⟩
      · skip
        refine minus_c hC  ?_ (fun σ_36 q37 => ?_)
        · clear h; simp only [kn]
          refine ⟨by decide, by decide, by decide, by decide, by decide, k9.1, k8.1, ?_⟩
          rcases q34 with z | z | z
          · rw [z.1] at c35
            exact absurd c35 (by decide)
          · rw [z.1] at c35
            exact absurd c35 (by decide)
          · omega
        simp only [kn] at q37
        have e10 := nV_fr q37.1 (k := 10) (by decide) q26.2.1
        refine copy_v hC  ?_ (fun σ_38 q39 => ?_)
        · clear h; simp only [kn]
          exact ⟨by decide, by decide, by decide, by decide, by decide, q37.2.1⟩
        simp only [kn] at q39
        have f10 := nV_fr q39.1 (k := 10) (by decide) e10.1
        intro σ_40 hσ_40
        refine hj117 _ ?_
        · clear h; have lt : nV σ_25 8 < nV σ_25 9 := by
            rcases q34 with z | z | z
            · rw [z.1] at c35
              exact absurd c35 (by decide)
            · rw [z.1] at c35
              exact absurd c35 (by decide)
            · exact z.2
          have DD := fQ_d2 (σ := σ) (τ := σ_38) (by rw [v8, v9] at lt; omega) (by rw [q39.2.2.1, q37.2.2.1, v8, v9]) (by rw [f10.2.1, e10.2.1, v10]) z5 z7
          rw [hσ_40]
          refine ⟨frS_tr (frS_of (frN_tr F (frN_tr (frN_mono q37.1 (sub_of rfl)) (frN_mono q39.1 (sub_of rfl))))) frS_92, ha, q39.2.1, f10.1, ?_, ?_, ?_, ?_⟩
          · show 0 < nV σ_38 10
            rw [f10.2.1, e10.2.1, v10]; exact Nat.mul_pos z5 z7
          · show nL σ_38 8 + 1 < 40000
            have := q37.2.2.2
            omega
          · show nL σ_38 10 + 1 < 40000
            omega
          · show sgq a1 (fQ σ_38 8 10) = _
            rw [DD]; exact sgq_d2 hs ha ne
      · skip
        refine minus_c hC  ?_ (fun σ_41 q42 => ?_)
        · clear h; simp only [kn]
          refine ⟨by decide, by decide, by decide, by decide, by decide, k8.1, k9.1, ?_⟩
          rcases q34 with z | z | z
          · omega
          · omega
          · rw [z.1] at c35
            exact absurd (by decide) c35
        simp only [kn] at q42
        have e10 := nV_fr q42.1 (k := 10) (by decide) q26.2.1
        refine hj117 _ ?_
        · clear h; have ge : nV σ_25 9 ≤ nV σ_25 8 := by
            rcases q34 with z | z | z
            · omega
            · omega
            · rw [z.1] at c35
              exact absurd (by decide) c35
          have DD := fQ_d1 (σ := σ) (τ := σ_41) (by rw [v8, v9] at ge; omega) (by rw [q42.2.2.1, v8, v9]) (by rw [e10.2.1, v10]) z5 z7
          have s41 : σ_41.1 92 = σ.1 92 := by rw [q42.1.1]; exact s25
          refine ⟨frS_of (frN_tr F (frN_mono q42.1 (sub_of rfl))), by rw [s41]; exact hs, q42.2.1, e10.1, ?_, ?_, ?_, ?_⟩
          · rw [e10.2.1, v10]; exact Nat.mul_pos z5 z7
          · have := q42.2.2.2
            omega
          · omega
          · rw [s41, DD]; exact sgq_d1 hs ha ne
    · skip
      refine hj43 _ _ ?_
      · clear h; exact ⟨rfl, F, k8.1, k9.1, q26.2.1, v8, v9, v10, N8, N9, N10, Or.inr (by rw [← d4.2.1]; exact zz.2 c31)⟩  -- k22
