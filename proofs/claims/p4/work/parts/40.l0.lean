set_option maxHeartbeats 1600000
/-! the reference: arguments -/
abbrev aI (σ τ : rS) (B T : Int32) : Prop := ((∀ k, k ≠ 10 → k ≠ 11 → k ≠ 12 → k ≠ 13 → k ≠ 48 → k ≠ 49 → τ.1 k = σ.1 k) ∧ (∀ k,  τ.2.1 k = σ.2.1 k) ∧ (∀ k, k ≠ 39 → k ≠ 50 → k ≠ 51 → k ≠ 52 → τ.2.2.1 k = σ.2.2.1 k) ∧ (∀ k j, k ≠ 39 → k ≠ 50 → k ≠ 51 → k ≠ 52 → τ.2.2.1 k j = σ.2.2.1 k j) ∧ (∀ k j,  τ.2.2.2 k j = σ.2.2.2 k j)) ∧ p0 τ B T ∧ rLo (σ.2.2.1 39) (τ.2.2.1 39) (σ.1 10) ∧ (σ.1 11 ≠ 0 → τ.1 11 ≠ 0) ∧ rHi (σ.2.2.1 39) (τ.2.2.1 39) T
theorem aI_fr {σ τ υ : rS} {B T : Int32} (h : aI σ τ B T) (hT : tK υ B T) (hf : (∀ k, k ≠ 10 → k ≠ 11 → k ≠ 12 → k ≠ 13 → υ.1 k = τ.1 k) ∧ υ.2 = τ.2) (h11 : τ.1 11 ≠ 0 → υ.1 11 ≠ 0) : aI σ υ B T := by
  obtain ⟨h1, h2, h3, h4, h5⟩ := h
  refine ⟨by grind, p0_fr h2 hT (fun k z1 z2 z3 z4 _ _ => hf.1 k z1 z2 z3 z4) (fun k _ _ _ _ => by rw [hf.2]), by rw [hf.2]; exact h3, fun z => h11 (h4 z), by rw [hf.2]; exact h5⟩
theorem aI_ex {σ τ υ : rS} {B T : Int32} (h : aI σ τ B T) (hf : (∀ k, k ≠ 10 → k ≠ 11 → k ≠ 12 → k ≠ 13 → k ≠ 48 → k ≠ 49 → υ.1 k = τ.1 k) ∧ (∀ k,  υ.2.1 k = τ.2.1 k) ∧ (∀ k, k ≠ 39 → k ≠ 50 → k ≠ 51 → k ≠ 52 → υ.2.2.1 k = τ.2.2.1 k) ∧ (∀ k j, k ≠ 39 → k ≠ 50 → k ≠ 51 → k ≠ 52 → υ.2.2.1 k j = τ.2.2.1 k j) ∧ (∀ k j,  υ.2.2.2 k j = τ.2.2.2 k j)) (hp : p0 υ B T) (h11 : τ.1 11 ≠ 0 → υ.1 11 ≠ 0 ∧ υ.2 = τ.2) (hr : rLo (τ.2.2.1 39) (υ.2.2.1 39) (τ.1 10)) (hh : rHi (τ.2.2.1 39) (υ.2.2.1 39) T) (ha : τ.1 11 = 0 → σ.1 10 ≤ τ.1 10) : aI σ υ B T := by
  obtain ⟨h1, h2, h3, h4, h5⟩ := h
  refine ⟨by clear h2 hp h3 hr; grind, hp, ?_, fun z => (h11 (h4 z)).1, rHi_tr h5 hh⟩
  by_cases e : τ.1 11 = 0
  · exact rLo_tr h3 hr (ha e)
  · rw [(h11 e).2]; exact h3
theorem aI_refl {σ : rS} {B T : Int32} (h : p0 σ B T) : aI σ σ B T := ⟨⟨fun _ _ _ _ _ _ _ => rfl, fun _ => rfl, fun _ _ _ _ _ => rfl, fun _ _ _ _ _ _ => rfl, fun _ _ => rfl⟩, h, rLo_refl, fun z => z, rHi_refl⟩
theorem arguments_c {C : rCx} (hC : cOK C) (B T : Int32) {σ : rS}  {Q : rS → Prop} (hp : p0 σ B T ∧ (σ.1 11 = 0 → 0 ≤ σ.1 13 ∧ σ.1 13 ≤ 40)) (h : ∀ (σ' : rS), (aI σ σ' B T ∧ (σ'.1 11 = 0 → σ.1 11 = 0 ∧ σ.1 10 < σ'.1 10 ∧ σ'.1 13 = σ.1 13 ∧ sg (σ.2.2.1 5) (σ.2.2.1 7) (σ.1 10) 40 ∧ ∃ n, gN (σ.2.2.1 5) (σ.2.2.1 7) (σ'.2.2.1 39) (σ'.1 10) n (σ.1 10 + 1))) → Q σ') : cV C 7 m_arguments [.ref (co C)] σ Q := by
  refine m_arguments_run hC ?_
  unfold w_arguments_0
  obtain ⟨hP, hO⟩ := hp
  have hj77 : ∀  (τ : rS), (aI σ τ B T ∧ (τ.1 11 = 0 → σ.1 11 = 0 ∧ sg (σ.2.2.1 5) (σ.2.2.1 7) (σ.1 10) 40 ∧ σ.1 10 < τ.1 10 ∧ σ.1 13 < 40 ∧ τ.1 13 = σ.1 13 + 1 ∧ ((τ.1 10 = σ.1 10 + 1) ∨ ∃ i b, gP (σ.2.2.1 5) (σ.2.2.1 7) (τ.2.2.1 39) (σ.1 10 + 1) i b ∧ ePa (σ.2.2.1 5) (σ.2.2.1 7) (τ.2.2.1 39) b (τ.1 10) ∧ b ≤ τ.1 10))) → w_arguments_77 C Q   τ := by
    rintro  τ77 j77
    unfold w_arguments_77
    refine close_c hC B T ?_ (fun σ_1 q2 => ?_)
    · clear h; exact j77.1.2.1.1  -- p1
    refine sign_c hC B T ?_ (fun σ_3 q4 => ?_)
    · clear h; exact q2.2.1  -- p2
    refine h _ ?_
    · clear h; have a1 := aI_fr j77.1 q2.2.1 q2.1 (fun z e => z (q2.2.2.1.mp e).1)
      have a2 := aI_fr a1 q4.2.1 ⟨fun k z1 z2 z3 _ => q4.1.1 k z1 z2 z3, q4.1.2⟩ (fun z e => z (q4.2.2.2.1.mp e).1)
      refine ⟨a2, fun f => ?_⟩
      have f1 := (q4.2.2.2.1.mp f).1
      have f0 := q2.2.2.1.mp f1
      obtain ⟨n1, n2, n3, n4, n5, n6⟩ := j77.2 f0.1
      have r5 : τ77.2.2.1 5 = σ.2.2.1 5 := j77.1.1.2.2.1 5 (by decide) (by decide) (by decide) (by decide)
      have r7 : τ77.2.2.1 7 = σ.2.2.1 7 := j77.1.1.2.2.1 7 (by decide) (by decide) (by decide) (by decide)
      have sg41 : sg (σ.2.2.1 5) (σ.2.2.1 7) (τ77.1 10) 41 := ⟨by rw [← r5]; exact f0.2.1, by rw [← r7]; exact f0.2.2.1⟩
      have at1 := q2.2.2.2 f1
      have at3 := q4.2.2.2.2 f
      have R3 : σ_3.2.2.1 39 = τ77.2.2.1 39 := by rw [q4.1.2, q2.1.2]
      have lt : τ77.1 10 < σ_3.1 10 := by
        have t1 := j77.1.2.1.1
        clear j77 n6 q4 q2 a1 a2 hP hO
        grind [tK]
      refine ⟨n1, Int32.lt_trans n3 lt, by rw [q4.1.1 13 (by decide) (by decide) (by decide), at1.2, n5]; grind, n2, ?_⟩
      rw [R3]
      rcases n6 with e | ⟨i, b, m1, m2, m3⟩
      · exact ⟨0, by rw [← e]; exact ⟨sg41, lt⟩⟩
      · exact ⟨i + 0 + 1, gP_B (k := 0) m1 (Int32.le_trans m3 (Int32.le_of_lt lt)) ⟨τ77.1 10, m2, m3, lt, sg41⟩⟩
  have hh28 : ∀ (l1 : Int32) (τ : rS), (aI σ τ B T ∧ nb l1 ∧ (τ.1 11 = 0 → σ.1 11 = 0 ∧ sg (σ.2.2.1 5) (σ.2.2.1 7) (σ.1 10) 40 ∧ σ.1 10 < τ.1 10 ∧ σ.1 13 < 40 ∧ τ.1 13 = σ.1 13 + 1 ∧ (l1 ≠ 0 → ∃ i, gP (σ.2.2.1 5) (σ.2.2.1 7) (τ.2.2.1 39) (σ.1 10 + 1) i (τ.1 10)) ∧ (l1 = 0 → (τ.1 10 = σ.1 10 + 1) ∨ ∃ i b, gP (σ.2.2.1 5) (σ.2.2.1 7) (τ.2.2.1 39) (σ.1 10 + 1) i b ∧ ePa (σ.2.2.1 5) (σ.2.2.1 7) (τ.2.2.1 39) b (τ.1 10) ∧ b ≤ τ.1 10))) → w_arguments_28 C Q  l1 τ := by
    intro z1 τi hinit
    unfold w_arguments_28
    refine ⟨fun n l1 τ => n = eMs (τ.1 11) 0 (if l1 = 0 then 2 else 0) (τ.1 10) T ∧ (aI σ τ B T ∧ nb l1 ∧ (τ.1 11 = 0 → σ.1 11 = 0 ∧ sg (σ.2.2.1 5) (σ.2.2.1 7) (σ.1 10) 40 ∧ σ.1 10 < τ.1 10 ∧ σ.1 13 < 40 ∧ τ.1 13 = σ.1 13 + 1 ∧ (l1 ≠ 0 → ∃ i, gP (σ.2.2.1 5) (σ.2.2.1 7) (τ.2.2.1 39) (σ.1 10 + 1) i (τ.1 10)) ∧ (l1 = 0 → (τ.1 10 = σ.1 10 + 1) ∨ ∃ i b, gP (σ.2.2.1 5) (σ.2.2.1 7) (τ.2.2.1 39) (σ.1 10 + 1) i b ∧ ePa (σ.2.2.1 5) (σ.2.2.1 7) (τ.2.2.1 39) b (τ.1 10) ∧ b ≤ τ.1 10))), ⟨_, rfl, hinit⟩, ?_⟩
    clear hinit
    rintro n28 x28_1 σ28 ⟨hn28, i28⟩
    have hj65 : ∀ (s0 : Int32) (τ : rS), (σ28.1 11 = 0 ∧ x28_1 ≠ 0 ∧ aI σ τ B T ∧ nb s0 ∧ (τ.1 11 ≠ 0 → s0 = 0) ∧ (τ.1 11 = 0 → σ28.1 10 ≤ τ.1 10 ∧ σ.1 11 = 0 ∧ sg (σ.2.2.1 5) (σ.2.2.1 7) (σ.1 10) 40 ∧ σ.1 10 < τ.1 10 ∧ σ.1 13 < 40 ∧ τ.1 13 = σ.1 13 + 1 ∧ (s0 ≠ 0 → sg (σ.2.2.1 5) (σ.2.2.1 7) (τ.1 10) 44) ∧ ∃ i b, gP (σ.2.2.1 5) (σ.2.2.1 7) (τ.2.2.1 39) (σ.1 10 + 1) i b ∧ ePa (σ.2.2.1 5) (σ.2.2.1 7) (τ.2.2.1 39) b (τ.1 10) ∧ b ≤ τ.1 10)) → w_arguments_65 C Q (fun l1' τ => ∃ k < n28, (fun n l1 τ => n = eMs (τ.1 11) 0 (if l1 = 0 then 2 else 0) (τ.1 10) T ∧ (aI σ τ B T ∧ nb l1 ∧ (τ.1 11 = 0 → σ.1 11 = 0 ∧ sg (σ.2.2.1 5) (σ.2.2.1 7) (σ.1 10) 40 ∧ σ.1 10 < τ.1 10 ∧ σ.1 13 < 40 ∧ τ.1 13 = σ.1 13 + 1 ∧ (l1 ≠ 0 → ∃ i, gP (σ.2.2.1 5) (σ.2.2.1 7) (τ.2.2.1 39) (σ.1 10 + 1) i (τ.1 10)) ∧ (l1 = 0 → (τ.1 10 = σ.1 10 + 1) ∨ ∃ i b, gP (σ.2.2.1 5) (σ.2.2.1 7) (τ.2.2.1 39) (σ.1 10 + 1) i b ∧ ePa (σ.2.2.1 5) (σ.2.2.1 7) (τ.2.2.1 39) b (τ.1 10) ∧ b ≤ τ.1 10)))) k l1' τ) s0 τ := by
      rintro y65_s0 τ65 j65
      unfold w_arguments_65
      have a0 : 0 ≤ σ28.1 10 := Int32.le_trans i28.1.2.1.1.1 i28.1.2.1.1.2.2.2.2.1
      refine ⟨fun c5 => ?_, fun c5 => ?_⟩
      · skip
        refine ⟨_, ?_, rfl, ?_⟩
        · clear h; obtain ⟨k1, k2, k3, k4, k5, k6⟩ := j65
          show eMs (τ65.1 11) 0 (if y65_s0 = 0 then 2 else 0) (τ65.1 10) T < n28
          rw [if_pos c5, hn28, k1, if_neg k2]
          exact eMs_lt (by decide) (fun _ _ z => absurd rfl z) (Int32.le_trans i28.1.2.1.1.1 i28.1.2.1.1.2.2.2.2.1) k3.2.1.1.2.2.2.2.2
        · clear h; obtain ⟨k1, k2, k3, k4, k5, k6⟩ := j65
          refine ⟨k3, k4, fun f => ?_⟩
          obtain ⟨m1, m2, m3, m4, m5, m6, m7, i, b, m8, m9, m10⟩ := k6 f
          exact ⟨m2, m3, m4, m5, m6, fun z => absurd c5 z, fun _ => Or.inr ⟨i, b, m8, m9, m10⟩⟩
      · skip
        refine go_c hC B T ?_ (fun σ_6 q7 => ?_)
        · clear h; obtain ⟨k1, k2, k3, k4, k5, k6⟩ := j65
          refine ⟨k3.2.1.1, fun f => ?_⟩
          obtain ⟨m1, m2, m3, m4, m5, m6, m7, i, b, m8, m9, m10⟩ := k6 f
          have r5 : τ65.2.2.1 5 = σ.2.2.1 5 := k3.1.2.2.1 5 (by decide) (by decide) (by decide) (by decide)
          have := (m7 c5).1
          rw [rd, r5, this]; decide
        refine ⟨_, ?_, rfl, ?_⟩
        · clear h; obtain ⟨k1, k2, k3, k4, k5, k6⟩ := j65
          show eMs (σ_6.1 11) 0 (if y65_s0 = 0 then 2 else 0) (σ_6.1 10) T < n28
          have f0 : τ65.1 11 = 0 := Decidable.byContradiction (fun z => c5 (k5 z))
          obtain ⟨m1, -⟩ := k6 f0
          rw [if_neg c5, hn28, k1, if_neg k2]
          refine eMs_lt (by decide) (fun _ _ _ => ?_) (Int32.le_trans i28.1.2.1.1.1 i28.1.2.1.1.2.2.2.2.1) q7.2.1.2.2.2.2.2
          have t1 := k3.2.1.1
          have t2 := q7.2.2.2.1 f0
          rw [t2]
          clear q7 k3 k6 i28 hP hO
          grind [tK]
        · clear h; obtain ⟨k1, k2, k3, k4, k5, k6⟩ := j65
          have f0 : τ65.1 11 = 0 := Decidable.byContradiction (fun z => c5 (k5 z))
          obtain ⟨m1, m2, m3, m4, m5, m6, m7, i, b, m8, m9, m10⟩ := k6 f0
          have a2 := aI_fr k3 q7.2.1 ⟨fun k z1 z2 z3 _ => q7.1.1 k z1 z2 z3, q7.1.2⟩ (fun z => absurd f0 z)
          have t2 := q7.2.2.2.1 f0
          have lt : τ65.1 10 < σ_6.1 10 := by
            have t1 := k3.2.1.1
            rw [t2]
            clear q7 k3 k6 i28 hP hO m8 m9 a2
            grind [tK]
          refine ⟨a2, k4, fun f => ⟨m2, m3, Int32.lt_trans m4 lt, m5, by rw [q7.1.1 13 (by decide) (by decide) (by decide)]; exact m6, fun _ => ⟨i + 1, b, τ65.1 10, ?_, ?_, m10, lt, t2, m7 c5⟩, fun z => absurd z c5⟩⟩
          · rw [q7.1.2]; exact m8
          · rw [q7.1.2]; exact m9
    refine isRight_c hC  (fun r8 q10 => ?_)
    refine ⟨fun c11 => ?_, fun c11 => ?_⟩
    · skip
      refine hj77 _ ?_
      · clear h; exact ⟨i28.1, fun f => absurd c11 (q10.2.mpr f)⟩  -- k9
    · skip
      refine ⟨fun c12 => ?_, fun c12 => ?_⟩
      · skip
        refine hj77 _ ?_
        · clear h; exact ⟨i28.1, fun f => ⟨(i28.2.2 f).1, (i28.2.2 f).2.1, (i28.2.2 f).2.2.1, (i28.2.2 f).2.2.2.1, (i28.2.2 f).2.2.2.2.1, (i28.2.2 f).2.2.2.2.2.2 c12⟩⟩  -- k10
      · skip
        refine expr0_c hC B T ?_ (fun r13 σ_14 q15 => ?_)
        · clear h; refine ⟨i28.1.2.1, fun f => ?_⟩
          have z := i28.2.2 f
          have z2 := hO z.1
          rw [z.2.2.2.2.1]
          have z3 := z.2.2.2.1
          clear z i28 q10 hP
          grind
        have e11 : σ28.1 11 = 0 := q10.2.mp c11
        have i3 := i28.2.2 e11
        have aE := aI_ex i28.1 q15.1 q15.2.1 q15.2.2.1 q15.2.2.2.1 q15.2.2.2.2.2 (fun _ => Int32.le_of_lt i3.2.2.1)
        obtain ⟨i, hgp⟩ := i3.2.2.2.2.2.1 c12
        have r5 : σ28.2.2.1 5 = σ.2.2.1 5 := i28.1.1.2.2.1 5 (by decide) (by decide) (by decide) (by decide)
        have r7 : σ28.2.2.1 7 = σ.2.2.1 7 := i28.1.1.2.2.1 7 (by decide) (by decide) (by decide) (by decide)
        have A1 : 0 ≤ σ.1 10 + 1 := by
          have t1 := hP.1
          clear hP hO i28 i3 aE hgp q15
          grind [tK]
        have nx : σ_14.1 11 = 0 → (σ28.1 10 ≤ σ_14.1 10 ∧ σ.1 10 < σ_14.1 10 ∧ σ_14.1 13 = σ.1 13 + 1 ∧ gP (σ.2.2.1 5) (σ.2.2.1 7) (σ_14.2.2.1 39) (σ.1 10 + 1) i (σ28.1 10) ∧ ePa (σ.2.2.1 5) (σ.2.2.1 7) (σ_14.2.2.1 39) (σ28.1 10) (σ_14.1 10)) := fun f => by
          obtain ⟨z1, z2, z3, z4⟩ := q15.2.2.2.2.1 f
          exact ⟨z2, Int32.lt_of_lt_of_le i3.2.2.1 z2, by rw [z3]; exact i3.2.2.2.2.1, gP_R A1 hgp q15.2.2.2.1, by rw [← r5, ← r7]; exact z4⟩
        refine isRight_c hC  (fun r16 q18 => ?_)
        refine ⟨fun c19 => ?_, fun c19 => ?_⟩
        · skip
          refine hj65 _ _ ?_
          · clear h; exact ⟨e11, c12, aE, nb_0, fun _ => rfl, fun f => absurd c19 (q18.2.mpr f)⟩  -- k12
        · skip
          refine isAt_c hC  ?_ (fun r20 q22 => ?_)
          · clear h; exact ⟨Int32.le_trans aE.2.1.1.1 aE.2.1.1.2.2.2.2.1, by have := aE.2.1.1; clear i28 i3 aE hgp q15 hP nx; grind [tK]⟩  -- p13
          refine ⟨fun c23 => ?_, fun c23 => ?_⟩
          · skip
            refine hj65 _ _ ?_
            · clear h; exact ⟨e11, c12, aE, nb_0, fun _ => rfl, fun f => ⟨(nx f).1, i3.1, i3.2.1, (nx f).2.1, i3.2.2.2.1, (nx f).2.2.1, fun z => absurd rfl z, i, σ28.1 10, (nx f).2.2.2.1, (nx f).2.2.2.2, (nx f).1⟩⟩  -- k14
          · skip
            refine hj65 _ _ ?_
            · clear h; have s5 : σ_14.2.2.1 5 = σ.2.2.1 5 := aE.1.2.2.1 5 (by decide) (by decide) (by decide) (by decide)
              have s7 : σ_14.2.2.1 7 = σ.2.2.1 7 := aE.1.2.2.1 7 (by decide) (by decide) (by decide) (by decide)
              have sq : sg (σ.2.2.1 5) (σ.2.2.1 7) (σ_14.1 10) 44 := by
                have := q22.2.mp c23
                exact ⟨by rw [← s5]; exact this.1, by rw [← s7]; exact this.2⟩
              exact ⟨e11, c12, aE, nb_1, fun z => absurd (q18.2.mp c19) z, fun f => ⟨(nx f).1, i3.1, i3.2.1, (nx f).2.1, i3.2.2.2.1, (nx f).2.2.1, fun _ => sq, i, σ28.1 10, (nx f).2.2.2.1, (nx f).2.2.2.2, (nx f).1⟩⟩
  refine open_c hC B T ?_ (fun σ_24 q25 => ?_)
  · clear h; exact hP.1  -- p16
  have aO := aI_fr (aI_refl hP) q25.2.1 q25.1 (fun z e => z (q25.2.2.1.mp e).1)
  have nO : σ_24.1 11 = 0 → σ.1 11 = 0 ∧ sg (σ.2.2.1 5) (σ.2.2.1 7) (σ.1 10) 40 ∧ σ.1 10 < σ_24.1 10 ∧ σ.1 13 < 40 ∧ σ_24.1 13 = σ.1 13 + 1 ∧ σ_24.1 10 = σ.1 10 + 1 := fun f => by
    have z := q25.2.2.1.mp f
    have z2 := q25.2.2.2 f
    have t1 := hP.1
    have o1 := hO z.1
    refine ⟨z.1, ⟨z.2.1, z.2.2.1⟩, ?_, ?_, z2.2, z2.1⟩
    · rw [z2.1]; clear hP hO aO q25 z2 z o1; grind [tK]
    · have := z.2.2.2.2; clear hP hO aO q25 z2 z t1; grind
  refine isRight_c hC  (fun r26 q28 => ?_)
  refine ⟨fun c29 => ?_, fun c29 => ?_⟩
  · skip
    refine hh28 _ _ ?_
    · clear h; exact ⟨aO, nb_0, fun f => absurd c29 (q28.2.mpr f)⟩  -- j17
  · skip
    refine isAt_c hC  ?_ (fun r30 q32 => ?_)
    · clear h; exact ⟨Int32.le_trans aO.2.1.1.1 aO.2.1.1.2.2.2.2.1, by have := aO.2.1.1; clear aO q25 hP nO; grind [tK]⟩  -- p18
    refine ⟨fun c33 => ?_, fun c33 => ?_⟩
    · skip
      refine hh28 _ _ ?_
      · clear h; exact ⟨aO, nb_0, fun f => ⟨(nO f).1, (nO f).2.1, (nO f).2.2.1, (nO f).2.2.2.1, (nO f).2.2.2.2.1, fun z => absurd rfl z, fun _ => Or.inl (nO f).2.2.2.2.2⟩⟩  -- j19
    · skip
      refine hh28 _ _ ?_
      · clear h; exact ⟨aO, nb_1, fun f => ⟨(nO f).1, (nO f).2.1, (nO f).2.2.1, (nO f).2.2.2.1, (nO f).2.2.2.2.1, fun _ => ⟨0, (nO f).2.2.2.2.2⟩, fun z => absurd z (by decide)⟩⟩  -- j20
