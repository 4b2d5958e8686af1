set_option maxHeartbeats 1600000
/-! kinds of operators; the count of arguments along the tokens -/
def bp5 (K nu : Int32) : Prop := (f5_Pa_binary K = -1 ∧ rk5 nu = 0) ∨ (f5_Pa_binary K ≠ -1 ∧ 0 < (rk5 nu).toInt ∧ (rk5 nu).toInt ≤ 5 ∧ f5_Pa_rankOf (f5_Pa_binary K) = rk5 nu ∧ ¬ (nu = 1000 ∨ nu = 1001) ∧ nu ≠ 40 ∧ nu ≠ 91)
theorem bp_15 : ∀ n, n < 128 → ((f5_Pa_binary (Int32.ofNat n) = -1 ∧ rk5 (Int32.ofNat n) = 0) ∨ (f5_Pa_binary (Int32.ofNat n) ≠ -1 ∧ 0 < (rk5 (Int32.ofNat n)).toInt ∧ (rk5 (Int32.ofNat n)).toInt ≤ 5 ∧ f5_Pa_rankOf (f5_Pa_binary (Int32.ofNat n)) = rk5 (Int32.ofNat n) ∧ ¬ (Int32.ofNat n = 1000 ∨ Int32.ofNat n = 1001) ∧ Int32.ofNat n ≠ 40 ∧ Int32.ofNat n ≠ 91)) := by decide +kernel
theorem bp_25 : ∀ n, n < 4 → ((f5_Pa_binary (Int32.ofNat (128 + n)) = -1 ∧ rk5 (Int32.ofNat (256 + n)) = 0) ∨ (f5_Pa_binary (Int32.ofNat (128 + n)) ≠ -1 ∧ 0 < (rk5 (Int32.ofNat (256 + n))).toInt ∧ (rk5 (Int32.ofNat (256 + n))).toInt ≤ 5 ∧ f5_Pa_rankOf (f5_Pa_binary (Int32.ofNat (128 + n))) = rk5 (Int32.ofNat (256 + n)) ∧ ¬ (Int32.ofNat (256 + n) = 1000 ∨ Int32.ofNat (256 + n) = 1001) ∧ Int32.ofNat (256 + n) ≠ 40 ∧ Int32.ofNat (256 + n) ≠ 91)) := by decide +kernel
theorem bp_35 : ∀ n, n < 13 → f5_Pa_binary (Int32.ofNat (150 + n)) = -1 := by decide +kernel
theorem bi_5 {K so nu : Int32} (h : kd5 K so nu) : (so = 3 ∧ bp5 K nu) ∨ (¬ so = 3 ∧ f5_Pa_binary K = -1) := by
  rcases h with ⟨a, b⟩ | ⟨a, b⟩ | ⟨a, b⟩ | ⟨a, b⟩ | ⟨a, a2, b, d⟩ | ⟨b, d⟩
  · rw [a, b]; exact Or.inr (by decide)
  · rw [a, b]; exact Or.inr (by decide)
  · rw [a, b]; exact Or.inr (by decide)
  · rw [a, b]; exact Or.inr (by decide)
  · rw [b]
    refine Or.inr ⟨by decide, ?_⟩
    have z := bp_35 (K.toInt - 150).toNat (by omega)
    have e : Int32.ofNat (150 + (K.toInt - 150).toNat) = K := by
      rw [of_t5 (x := K) (by omega)]
      congr 1
      rw [← of_t5 (x := K) (by omega)]
      omega
    rw [e] at z
    exact z
  · refine Or.inl ⟨b, ?_⟩
    rcases d with ⟨d1, d2, d3⟩ | ⟨d1, d2, d3⟩
    · have z := bp_15 K.toInt.toNat (by omega)
      rw [← of_t5 (x := K) (by omega)] at z
      rw [d3]
      exact z
    · have z := bp_25 (K.toInt - 128).toNat (by omega)
      have e : Int32.ofNat (128 + (K.toInt - 128).toNat) = K := by
        apply Int32.toInt_inj.mp
        rw [ofn_i (by omega)]
        omega
      have e2 : Int32.ofNat (256 + (K.toInt - 128).toNat) = nu := by
        apply Int32.toInt_inj.mp
        have l : (128 : Int32).toInt = 128 := rfl
        rw [d3, ofn_i (by omega), add_i (by omega) (by omega), l]
        omega
      rw [e, e2] at z
      exact z
/-- one token more in the count -/
theorem ca_s5 {σ : rS} {m : Nat} {t d n : Int32} (h : ¬ (¬ 0 < d ∧ σ.2.2.1 5 t.toNatClampNeg = 3 ∧ σ.2.2.1 7 t.toNatClampNeg = 41)) : g5_countArguments_45 (m + 1) t d n σ = g5_countArguments_45 m (t + 1) (d + (if σ.2.2.1 5 t.toNatClampNeg = 3 ∧ (σ.2.2.1 7 t.toNatClampNeg = 40 ∨ σ.2.2.1 7 t.toNatClampNeg = 91) then 1 else if σ.2.2.1 5 t.toNatClampNeg = 3 ∧ (σ.2.2.1 7 t.toNatClampNeg = 41 ∨ σ.2.2.1 7 t.toNatClampNeg = 93) then -1 else 0)) (n + (if d + (if σ.2.2.1 5 t.toNatClampNeg = 3 ∧ (σ.2.2.1 7 t.toNatClampNeg = 40 ∨ σ.2.2.1 7 t.toNatClampNeg = 91) then 1 else if σ.2.2.1 5 t.toNatClampNeg = 3 ∧ (σ.2.2.1 7 t.toNatClampNeg = 41 ∨ σ.2.2.1 7 t.toNatClampNeg = 93) then -1 else 0) = 0 ∧ σ.2.2.1 5 t.toNatClampNeg = 3 ∧ σ.2.2.1 7 t.toNatClampNeg = 44 then 1 else 0)) σ := by
  rw [g5_countArguments_45]
  generalize hs : σ.2.2.1 5 t.toNatClampNeg = so at h ⊢
  generalize hn : σ.2.2.1 7 t.toNatClampNeg = nu at h ⊢
  have p184 : ∀ a s0 s1, g5_countArguments_184 (g5_countArguments_45 m) t a s0 s1 σ = g5_countArguments_45 m (t + 1) a (s0 + s1) σ := fun _ _ _ => rfl
  have p71 : g5_countArguments_71 (g5_countArguments_45 m) t d n σ = g5_countArguments_45 m (t + 1) (d + (if so = 3 ∧ (nu = 40 ∨ nu = 91) then 1 else if so = 3 ∧ (nu = 41 ∨ nu = 93) then -1 else 0)) (n + (if d + (if so = 3 ∧ (nu = 40 ∨ nu = 91) then 1 else if so = 3 ∧ (nu = 41 ∨ nu = 93) then -1 else 0) = 0 ∧ so = 3 ∧ nu = 44 then 1 else 0)) σ := by
    have p153 : ∀ a6 s1 : Int32, (a6 = if so = 3 then 1 else 0) → g5_countArguments_153 (g5_countArguments_45 m) t n a6 d s1 σ = g5_countArguments_45 m (t + 1) (d + s1) (n + (if d + s1 = 0 ∧ so = 3 ∧ nu = 44 then 1 else 0)) σ := fun a6 s1 ha => by
      unfold g5_countArguments_153
      dsimp only [pb5]
      rw [hn, p184, p184]
      by_cases c1 : d + s1 = 0
      · rw [if_pos c1]
        by_cases c2 : so = 3
        · rw [ha, if_pos c2, if_neg (by decide)]
          by_cases c3 : nu = 44
          · rw [if_pos c3, if_pos ⟨c1, c2, c3⟩]
          · rw [if_neg c3, if_neg (fun q => c3 q.2.2)]
        · rw [ha, if_neg c2, if_pos rfl, if_neg (fun q => c2 q.2.1)]
      · rw [if_neg c1, if_neg (fun q => c1 q.1)]
    unfold g5_countArguments_71 g5_countArguments_86 g5_countArguments_121
    rw [hs, hn]
    by_cases c2 : so = 3
    · rw [if_pos c2, if_neg ne105, if_neg ne105]
      by_cases d1 : nu = 40
      · rw [if_pos d1, p153 1 1 (if_pos c2).symm, if_pos (show so = 3 ∧ (nu = 40 ∨ nu = 91) from ⟨c2, Or.inl d1⟩)]
      · rw [if_neg d1]
        by_cases d2 : nu = 91
        · rw [if_pos d2, p153 1 1 (if_pos c2).symm, if_pos (show so = 3 ∧ (nu = 40 ∨ nu = 91) from ⟨c2, Or.inr d2⟩)]
        · rw [if_neg d2]
          have n1 : ¬ (so = 3 ∧ (nu = 40 ∨ nu = 91)) := fun q => by rcases q.2 with q | q; exact d1 q; exact d2 q
          by_cases d3 : nu = 41
          · rw [if_pos d3, p153 1 (-1) (if_pos c2).symm, if_neg n1, if_pos (show so = 3 ∧ (nu = 41 ∨ nu = 93) from ⟨c2, Or.inl d3⟩)]
          · rw [if_neg d3]
            by_cases d4 : nu = 93
            · rw [if_pos d4, p153 1 (-1) (if_pos c2).symm, if_neg n1, if_pos (show so = 3 ∧ (nu = 41 ∨ nu = 93) from ⟨c2, Or.inr d4⟩)]
            · rw [if_neg d4, p153 1 0 (if_pos c2).symm, if_neg n1, if_neg (fun (q : so = 3 ∧ (nu = 41 ∨ nu = 93)) => by rcases q.2 with q | q; exact d3 q; exact d4 q)]
    · rw [if_neg c2, if_pos rfl, if_pos rfl, p153 0 0 (if_neg c2).symm, if_neg (fun (q : so = 3 ∧ (nu = 40 ∨ nu = 91)) => c2 q.1), if_neg (fun (q : so = 3 ∧ (nu = 41 ∨ nu = 93)) => c2 q.1)]
  by_cases c : 0 < d
  · rw [if_pos c]; exact p71
  · rw [if_neg c]
    by_cases c2 : so = 3
    · rw [if_pos c2, if_neg (fun q => h ⟨c, c2, q⟩)]; exact p71
    · rw [if_neg c2]; exact p71
/-- the count goes from token a0 to token a, at depth d, with n' counted of n -/
def sc5 (X : X5) (Bk a0 a d : Nat) (n n' : Int32) : Prop := a0 ≤ a ∧ ∀ (σ : rS) (m : Nat), sx5 σ = X → g5_countArguments_45 (m + (a - a0)) (Int32.ofNat (Bk + a0)) 0 n σ = g5_countArguments_45 m (Int32.ofNat (Bk + a)) (Int32.ofNat d) n' σ
theorem sc_r5 {X : X5} {Bk a : Nat} {n : Int32} : sc5 X Bk a a 0 n n := ⟨Nat.le_refl a, fun σ m _ => by rw [Nat.sub_self]; rfl⟩
theorem sc_s5 {T : T5} {X : X5} {Bk N a0 a d d' : Nat} {Z n n' n'' : Int32} (H : TR5 T X Bk N Z) (h : sc5 X Bk a0 a d n n') (ha : a < N) (hd : d ≤ 65537) (hK : (T.2.1 a = 40 ∨ T.2.1 a = 91) ∧ d' = d + 1 ∧ n'' = n' ∨ (T.2.1 a = 41 ∨ T.2.1 a = 93) ∧ d = d' + 1 ∧ n'' = n' ∨ (T.2.1 a ≠ 40 ∧ T.2.1 a ≠ 91 ∧ T.2.1 a ≠ 41 ∧ T.2.1 a ≠ 93) ∧ d' = d ∧ (T.2.1 a ≠ 44 ∧ n'' = n' ∨ T.2.1 a = 44 ∧ d = 0 ∧ n'' = n' + 1)) (hn : T.2.1 a = 41 ∨ T.2.1 a = 93 → 44 ≠ T.2.1 a) : sc5 X Bk a0 (a + 1) d' n n'' := by
  have h1 := H.1
  have kd := H.2.2.1 a ha
  have k40 := kd_s5 (c := 40) kd (by decide) (by decide)
  have k91 := kd_s5 (c := 91) kd (by decide) (by decide)
  have k41 := kd_s5 (c := 41) kd (by decide) (by decide)
  have k93 := kd_s5 (c := 93) kd (by decide) (by decide)
  have k44 := kd_s5 (c := 44) kd (by decide) (by decide)
  refine ⟨by have := h.1; omega, fun σ m hx => ?_⟩
  have h0 := h.1
  have hm := h.2 σ (m + 1) hx
  rw [show m + (a + 1 - a0) = m + 1 + (a - a0) by omega, hm]
  have e5 : σ.2.2.1 5 (Int32.ofNat (Bk + a)).toNatClampNeg = X.1 (Bk + a) := by rw [cl_5 (by omega), ← hx]; rfl
  have e7 : σ.2.2.1 7 (Int32.ofNat (Bk + a)).toNatClampNeg = X.2.2.1 (Bk + a) := by rw [cl_5 (by omega), ← hx]; rfl
  have ld := ofn_i (n := d) (by omega)
  have hd0 : (0 : Int32) < Int32.ofNat d ↔ 0 < d := by rw [lti, t0i, ld]; omega
  have i40 : (X.1 (Bk + a) = 3 ∧ (X.2.2.1 (Bk + a) = 40 ∨ X.2.2.1 (Bk + a) = 91)) ↔ (T.2.1 a = 40 ∨ T.2.1 a = 91) := ⟨fun q => by rcases q.2 with w | w; exact Or.inl (k40.mp ⟨q.1, w⟩); exact Or.inr (k91.mp ⟨q.1, w⟩), fun q => by rcases q with w | w; exact ⟨(k40.mpr w).1, Or.inl (k40.mpr w).2⟩; exact ⟨(k91.mpr w).1, Or.inr (k91.mpr w).2⟩⟩
  have i41 : (X.1 (Bk + a) = 3 ∧ (X.2.2.1 (Bk + a) = 41 ∨ X.2.2.1 (Bk + a) = 93)) ↔ (T.2.1 a = 41 ∨ T.2.1 a = 93) := ⟨fun q => by rcases q.2 with w | w; exact Or.inl (k41.mp ⟨q.1, w⟩); exact Or.inr (k93.mp ⟨q.1, w⟩), fun q => by rcases q with w | w; exact ⟨(k41.mpr w).1, Or.inl (k41.mpr w).2⟩; exact ⟨(k93.mpr w).1, Or.inr (k93.mpr w).2⟩⟩
  have en0 : ∀ x : Int32, x + 0 = x := fun x => Int32.add_zero x
  rcases hK with ⟨q, rfl, rfl⟩ | ⟨q, rfl, rfl⟩ | ⟨⟨q1, q2, q3, q4⟩, rfl, q⟩
  · have n44 : ¬ (Int32.ofNat d + 1 = 0 ∧ X.1 (Bk + a) = 3 ∧ X.2.2.1 (Bk + a) = 44) := fun w => by
      have y := k44.mp w.2
      rcases q with q | q <;> rw [y] at q <;> exact absurd q (by decide)
    rw [ca_s5 (by rw [e5, e7]; intro w; have y := k41.mp w.2; rcases q with q | q <;> rw [y] at q <;> exact absurd q (by decide)), e5, e7, if_pos (i40.mpr q), if_neg n44, en0, on_15 (by omega), on_15 (by omega)]
    rfl
  · have n40 : ¬ (T.2.1 a = 40 ∨ T.2.1 a = 91) := fun w => by
      rcases q with q | q <;> rw [q] at w <;> exact absurd w (by decide)
    have ed : Int32.ofNat (d' + 1) + -1 = Int32.ofNat d' := by
      apply Int32.toInt_inj.mp
      have l1 := ofn_i (n := d') (by omega)
      have lm : (-1 : Int32).toInt = -1 := rfl
      rw [add_i (by omega) (by omega), l1, lm]
      omega
    have n44 : ¬ (Int32.ofNat (d' + 1) + -1 = 0 ∧ X.1 (Bk + a) = 3 ∧ X.2.2.1 (Bk + a) = 44) := fun w => hn q (k44.mp w.2).symm
    rw [ca_s5 (by rw [hd0]; intro w; exact w.1 (by omega)), e5, e7, if_neg (fun w => n40 (i40.mp w)), if_pos (i41.mpr q), if_neg n44, en0, ed, on_15 (by omega)]
    rfl
  · have n40 : ¬ (T.2.1 a = 40 ∨ T.2.1 a = 91) := fun w => by rcases w with w | w; exact q1 w; exact q2 w
    have n41 : ¬ (T.2.1 a = 41 ∨ T.2.1 a = 93) := fun w => by rcases w with w | w; exact q3 w; exact q4 w
    rw [ca_s5 (by rw [e5, e7]; intro w; exact q3 (k41.mp w.2)), e5, e7, if_neg (fun w => n40 (i40.mp w)), if_neg (fun w => n41 (i41.mp w)), en0, on_15 (by omega)]
    rcases q with ⟨q5, rfl⟩ | ⟨q5, rfl, rfl⟩
    · rw [if_neg (fun w => q5 (k44.mp w.2)), en0]
      rfl
    · rw [if_pos ⟨rfl, k44.mpr q5⟩]
      rfl
