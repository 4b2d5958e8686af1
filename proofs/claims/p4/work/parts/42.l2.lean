set_option maxHeartbeats 1600000
/-! the reference: what is drawn -/
abbrev dB0 (σ τ : rS) : Prop := σ.1 11 = 0 ∧ σ.1 10 < τ.1 10 ∧ σ.1 13 ≠ 40 ∧ τ.1 13 = σ.1 13 + 1 ∧ ¬ (rd σ 5 (σ.1 10) = 6 ∧ (rd σ 7 (σ.1 10) = 11 ∨ rd σ 7 (σ.1 10) = 12))
theorem oc_up {x : Int32} (h0 : 0 ≤ x) (h1 : x ≤ 40) (h2 : x ≠ 40) : 0 ≤ x + 1 ∧ x + 1 ≤ 40 := by grind
theorem oc_dn {x : Int32} : x + 1 - 1 = x := by grind
theorem up_2 {a : Int32} : a + 1 + 1 = a + 2 := by grind
theorem lt_up {a : Int32} (h0 : 0 ≤ a) (h1 : a < 131074) : a < a + 1 := by grind
theorem le9 {x : Int32} (h0 : 0 ≤ x) (h1 : x ≤ 8) : 0 ≤ x + 1 := by grind
theorem lt8 {x : Int32} (h1 : x < 8) : x + 1 ≤ 8 := by grind
theorem ne8 {x : Int32} (h1 : x ≤ 8) (h : ¬ x = 8) : x < 8 := by grind
theorem tellDraw_c {C : rCx} (hC : cOK C) (B T : Int32) {σ : rS}  {Q : rS → Prop} (hp : p0 σ B T ∧ (σ.1 11 = 0 → 0 ≤ σ.1 13 ∧ σ.1 13 ≤ 40)) (h : ∀ (σ' : rS), (aI σ σ' B T ∧ (σ'.1 11 = 0 → σ.1 11 = 0 ∧ σ.1 10 < σ'.1 10 ∧ σ'.1 13 = σ.1 13 ∧ drO (σ.2.2.1 5) (σ.2.2.1 7) (σ'.2.2.1 39) (σ'.1 10) (σ.1 10))) → Q σ') : cV C 7 m_tellDraw [.ref (co C)] σ Q := by
  refine m_tellDraw_run hC ?_
  unfold w_tellDraw_0
  obtain ⟨hP, hO⟩ := hp
  have hS := aI_refl hP
  have hj172 : ∀  (τ : rS), (aI σ τ B T ∧ (τ.1 11 = 0 → dB0 σ τ ∧ ∃ i p e, i < 8 ∧ prP (σ.2.2.1 5) (σ.2.2.1 7) (τ.2.2.1 39) (σ.1 10) i p ∧ p < p + 1 ∧ ePa (σ.2.2.1 5) (σ.2.2.1 7) (τ.2.2.1 39) (p + 1) e ∧ p + 1 ≤ e ∧ e < e + 1 ∧ ePa (σ.2.2.1 5) (σ.2.2.1 7) (τ.2.2.1 39) (e + 1) (τ.1 10) ∧ e + 1 ≤ τ.1 10 ∧ ¬ sg (σ.2.2.1 5) (σ.2.2.1 7) (τ.1 10) 44)) → w_tellDraw_172 C Q   τ := by
    rintro  τ172 j172
    unfold w_tellDraw_172
    refine close_c hC B T ?_ (fun σ_1 q2 => ?_)
    · clear h; exact j172.1.2.1.1  -- p1
    refine sign_c hC B T ?_ (fun σ_3 q4 => ?_)
    · clear h; exact q2.2.1  -- p2
    refine h _ ?_
    · clear h; have a1 := aI_close j172.1 q2
      have a2 := aI_sign a1.1 q4
      refine ⟨a2.1, fun f => ?_⟩
      obtain ⟨f1, l1, e1, o1, -⟩ := a2.2.2 f
      obtain ⟨f0, l0, e0, o0, -⟩ := a1.2.2 f1
      obtain ⟨d0, i, p, e, m1, m2, m3, m4, m5, m6, m7, m8, m9⟩ := j172.2 f0
      have lP := Int32.lt_trans l0 l1
      refine ⟨d0.1, Int32.lt_trans d0.2.1 lP, by rw [o1, o0, d0.2.2.2.1]; exact oc_dn, fun z => absurd ⟨z.1, Or.inl z.2⟩ d0.2.2.2.2, fun z => absurd ⟨z.1, Or.inr z.2⟩ d0.2.2.2.2, fun _ => ⟨i + 0, m1, ?_⟩⟩
      rw [a2.2.1, a1.2.1]
      exact prP_B (k := 0) m2 (Int32.lt_of_lt_of_le m3 (Int32.le_trans m5 (Int32.le_trans (Int32.le_of_lt m6) (Int32.le_trans m8 (Int32.le_of_lt lP))))) ⟨e, τ172.1 10, m4, m5, m3, m7, m6, m8, lP, m9⟩
  have hj55 : ∀  (τ : rS), (aI σ τ B T ∧ (τ.1 11 = 0 → σ.1 11 = 0 ∧ σ.1 10 < τ.1 10 ∧ τ.1 13 = σ.1 13 + 1 ∧ rd σ 5 (σ.1 10) = 6 ∧ (rd σ 7 (σ.1 10) = 11 ∨ rd σ 7 (σ.1 10) = 12) ∧ (rd σ 7 (σ.1 10) = 11 → ePa (σ.2.2.1 5) (σ.2.2.1 7) (τ.2.2.1 39) (σ.1 10 + 2) (τ.1 10)) ∧ (rd σ 7 (σ.1 10) = 12 → ∃ e, ePa (σ.2.2.1 5) (σ.2.2.1 7) (τ.2.2.1 39) (σ.1 10 + 2) e ∧ e < e + 1 ∧ e + 1 ≤ τ.1 10 ∧ ePa (σ.2.2.1 5) (σ.2.2.1 7) (τ.2.2.1 39) (e + 1) (τ.1 10)))) → w_tellDraw_55 C Q   τ := by
    rintro  τ55 j55
    unfold w_tellDraw_55
    refine close_c hC B T ?_ (fun σ_5 q6 => ?_)
    · clear h; exact j55.1.2.1.1  -- p4
    refine sign_c hC B T ?_ (fun σ_7 q8 => ?_)
    · clear h; exact q6.2.1  -- p5
    refine h _ ?_
    · clear h; have a1 := aI_close j55.1 q6
      have a2 := aI_sign a1.1 q8
      refine ⟨a2.1, fun f => ?_⟩
      obtain ⟨f1, l1, e1, o1, -⟩ := a2.2.2 f
      obtain ⟨f0, l0, e0, o0, -⟩ := a1.2.2 f1
      obtain ⟨n1, n2, n3, n4, n5, n6, n7⟩ := j55.2 f0
      have lP := Int32.lt_trans l0 l1
      rw [a2.2.1, a1.2.1]
      refine ⟨n1, Int32.lt_trans n2 lP, by rw [o1, o0, n3]; exact oc_dn, fun z => ⟨τ55.1 10, n6 z.2, lP⟩, fun z => ?_, fun z => absurd ⟨n4, n5⟩ z⟩
      obtain ⟨e, m1, m2, m3, m4⟩ := n7 z.2
      exact ⟨e, τ55.1 10, m1, m2, m3, m4, lP⟩
  have hj18 : ∀  (τ : rS), (σ = τ ∧ rd σ 5 (σ.1 10) = 6 ∧ (rd σ 7 (σ.1 10) = 11 ∨ rd σ 7 (σ.1 10) = 12)) → w_tellDraw_18 C Q   τ := by
    rintro  _ ⟨rfl, j18⟩
    unfold w_tellDraw_18
    refine isWord_c hC  ?_ (fun r9 q11 => ?_)
    · clear h; exact (aI_at hS).2.2.2  -- p7
    refine go_c hC B T ?_ (fun σ_12 q13 => ?_)
    · clear h; exact ⟨hP.1, fun _ => by rw [j18.1]; decide⟩  -- p8
    refine open_c hC B T ?_ (fun σ_14 q15 => ?_)
    · clear h; exact q13.2.1  -- p9
    have b1 := aI_go hS q13
    have b2 := aI_open b1.1 q15
    have nx : σ_14.1 11 = 0 → σ.1 11 = 0 ∧ σ.1 10 < σ_14.1 10 ∧ σ_14.1 10 = σ.1 10 + 2 ∧ σ_14.1 13 = σ.1 13 + 1 ∧ 0 ≤ σ_14.1 13 ∧ σ_14.1 13 ≤ 40 := fun f => by
      obtain ⟨f1, l1, e1, o1, s1, o2⟩ := b2.2.2 f
      obtain ⟨f0, l0, e0, o0⟩ := b1.2.2 f1
      have z := hO f0
      rw [o0] at o2 o1
      have w := oc_up z.1 z.2 o2
      exact ⟨f0, Int32.lt_trans l0 l1, by rw [e1, e0]; exact up_2, o1, by rw [o1]; exact w.1, by rw [o1]; exact w.2⟩
    refine expr0_c hC B T ?_ (fun r16 σ_17 q18 => ?_)
    · clear h; exact ⟨b2.1.2.1, fun f => (nx f).2.2.2.2⟩  -- p10
    have b3 := aI_expr b2.1 q18 (fun f => Int32.le_of_lt (nx f).2.1)
    have ny : σ_17.1 11 = 0 → σ.1 11 = 0 ∧ σ.1 10 < σ_17.1 10 ∧ σ_17.1 13 = σ.1 13 + 1 ∧ 0 ≤ σ_17.1 13 ∧ σ_17.1 13 ≤ 40 ∧ ePa (σ.2.2.1 5) (σ.2.2.1 7) (σ_17.2.2.1 39) (σ.1 10 + 2) (σ_17.1 10) ∧ 0 ≤ σ.1 10 + 2 := fun f => by
      obtain ⟨g1, g2, g3, g4⟩ := b3.2.2 f
      have w := nx g1
      rw [w.2.2.1] at g4
      refine ⟨w.1, Int32.lt_of_lt_of_le w.2.1 g2, by rw [g3]; exact w.2.2.2.1, by rw [g3]; exact w.2.2.2.2.1, by rw [g3]; exact w.2.2.2.2.2, g4, ?_⟩
      rw [← w.2.2.1]; exact Int32.le_trans (aI_at hS).2.2.2.1 (Int32.le_of_lt w.2.1)
    refine ⟨fun c19 => ?_, fun c19 => ?_⟩
    · skip
      refine hj55 _ ?_
      · clear h; refine ⟨b3.1, fun f => ?_⟩
        have w := ny f
        exact ⟨w.1, w.2.1, w.2.2.1, j18.1, j18.2, fun _ => w.2.2.2.2.2.1, fun z => absurd c19 (q11.2.mpr ⟨j18.1, z⟩)⟩
    · skip
      refine sign_c hC B T ?_ (fun σ_20 q21 => ?_)
      · clear h; exact q18.2.1.1  -- p12
      have b4 := aI_sign b3.1 q21
      refine expr0_c hC B T ?_ (fun r22 σ_23 q24 => ?_)
      · clear h; exact ⟨b4.1.2.1, fun f => by obtain ⟨f1, l1, e1, o1, -⟩ := b4.2.2 f; have w := ny f1; rw [o1]; exact ⟨w.2.2.2.1, w.2.2.2.2.1⟩⟩  -- p13
      refine hj55 _ ?_
      · clear h; have b5 := aI_expr b4.1 q24 (fun f => by obtain ⟨f1, l1, -⟩ := b4.2.2 f; exact Int32.le_of_lt (Int32.lt_trans (ny f1).2.1 l1))
        refine ⟨b5.1, fun f => ?_⟩
        obtain ⟨g1, g2, g3, g4⟩ := b5.2.2 f
        obtain ⟨f1, l1, e1, o1, -⟩ := b4.2.2 g1
        have w := ny f1
        have r9c := q11.2.mp c19
        refine ⟨w.1, Int32.lt_of_lt_of_le (Int32.lt_trans w.2.1 l1) g2, by rw [g3, o1]; exact w.2.2.1, j18.1, j18.2, fun z => absurd (z.symm.trans r9c.2) (by decide), fun _ => ⟨σ_17.1 10, ?_, by rw [← e1]; exact l1, by rw [← e1]; exact g2, by rw [← e1]; exact g4⟩⟩
        have hw := w.2.2.2.2.2.1
        have hb := b5.2.1
        rw [b4.2.1] at hb
        exact ePa_lo hw w.2.2.2.2.2.2 hb (Int32.le_of_lt l1)
  refine isWord_c hC  ?_ (fun r25 q27 => ?_)
  · clear h; exact (aI_at hS).2.2.2  -- p15
  refine ⟨fun c28 => ?_, fun c28 => ?_⟩
  · skip
    refine hj18 _ ?_
    · clear h; exact ⟨rfl, (q27.2.mp c28).1, Or.inl (q27.2.mp c28).2⟩  -- k16
  · skip
    refine isWord_c hC  ?_ (fun r29 q31 => ?_)
    · clear h; exact (aI_at hS).2.2.2  -- p17
    refine ⟨fun c32 => ?_, fun c32 => ?_⟩
    · skip
      refine open_c hC B T ?_ (fun σ_33 q34 => ?_)
      · clear h; exact hP.1  -- p18
      refine isRight_c hC  (fun r35 q37 => ?_)
      unfold w_tellDraw_77
      refine ⟨fun n l1 l2 τ => n = eMs (τ.1 11) 0 (if l2 = 0 then 2 else 0) (τ.1 10) T ∧ (aI σ τ B T ∧ nb l2 ∧ 0 ≤ l1 ∧ (τ.1 11 = 0 → dB0 σ τ ∧ l1 ≤ 8 ∧ (l2 ≠ 0 → ∃ p, prP (σ.2.2.1 5) (σ.2.2.1 7) (τ.2.2.1 39) (σ.1 10) l1.toNatClampNeg p ∧ τ.1 10 = p + 1 ∧ p < p + 1) ∧ (l2 = 0 → ∃ i p e, i < 8 ∧ prP (σ.2.2.1 5) (σ.2.2.1 7) (τ.2.2.1 39) (σ.1 10) i p ∧ p < p + 1 ∧ ePa (σ.2.2.1 5) (σ.2.2.1 7) (τ.2.2.1 39) (p + 1) e ∧ p + 1 ≤ e ∧ e < e + 1 ∧ ePa (σ.2.2.1 5) (σ.2.2.1 7) (τ.2.2.1 39) (e + 1) (τ.1 10) ∧ e + 1 ≤ τ.1 10 ∧ ¬ sg (σ.2.2.1 5) (σ.2.2.1 7) (τ.1 10) 44))), ⟨_, rfl, ?_⟩, ?_⟩
      · clear h; have b1 := aI_open hS q34
        refine ⟨b1.1, q37.1, by decide, fun f => ?_⟩
        obtain ⟨f0, l0, e0, o0, s0, o2⟩ := b1.2.2 f
        refine ⟨⟨f0, l0, o2, o0, fun z => by rcases z.2 with w | w; exact (q27.2.mpr ⟨z.1, w⟩) c28; exact (q31.2.mpr ⟨z.1, w⟩) c32⟩, by decide, fun _ => ⟨σ.1 10, ?_, e0, by rw [← e0]; exact l0⟩, fun z => absurd z (q37.2.mpr f)⟩
        rw [show (0 : Int32).toNatClampNeg = 0 from rfl]
        rfl
      rintro n77 x77_1 x77_2 σ77 ⟨hn77, i77⟩
      have hj160 : ∀ (l1 : Int32) (s0 : Int32) (τ : rS), (σ77.1 11 = 0 ∧ x77_2 ≠ 0 ∧ 0 ≤ x77_1 ∧ x77_1 ≤ 8 ∧ l1 = x77_1 + 1 ∧ aI σ τ B T ∧ nb s0 ∧ (τ.1 11 ≠ 0 → s0 = 0) ∧ (τ.1 11 = 0 → dB0 σ τ ∧ σ77.1 10 < τ.1 10 ∧ x77_1 < 8 ∧ (s0 ≠ 0 ↔ sg (σ.2.2.1 5) (σ.2.2.1 7) (τ.1 10) 44) ∧ ∃ p e, prP (σ.2.2.1 5) (σ.2.2.1 7) (τ.2.2.1 39) (σ.1 10) x77_1.toNatClampNeg p ∧ p < p + 1 ∧ ePa (σ.2.2.1 5) (σ.2.2.1 7) (τ.2.2.1 39) (p + 1) e ∧ p + 1 ≤ e ∧ e < e + 1 ∧ ePa (σ.2.2.1 5) (σ.2.2.1 7) (τ.2.2.1 39) (e + 1) (τ.1 10) ∧ e + 1 ≤ τ.1 10)) → w_tellDraw_160 C Q (fun l1' l2' τ => ∃ k < n77, (fun n l1 l2 τ => n = eMs (τ.1 11) 0 (if l2 = 0 then 2 else 0) (τ.1 10) T ∧ (aI σ τ B T ∧ nb l2 ∧ 0 ≤ l1 ∧ (τ.1 11 = 0 → dB0 σ τ ∧ l1 ≤ 8 ∧ (l2 ≠ 0 → ∃ p, prP (σ.2.2.1 5) (σ.2.2.1 7) (τ.2.2.1 39) (σ.1 10) l1.toNatClampNeg p ∧ τ.1 10 = p + 1 ∧ p < p + 1) ∧ (l2 = 0 → ∃ i p e, i < 8 ∧ prP (σ.2.2.1 5) (σ.2.2.1 7) (τ.2.2.1 39) (σ.1 10) i p ∧ p < p + 1 ∧ ePa (σ.2.2.1 5) (σ.2.2.1 7) (τ.2.2.1 39) (p + 1) e ∧ p + 1 ≤ e ∧ e < e + 1 ∧ ePa (σ.2.2.1 5) (σ.2.2.1 7) (τ.2.2.1 39) (e + 1) (τ.1 10) ∧ e + 1 ≤ τ.1 10 ∧ ¬ sg (σ.2.2.1 5) (σ.2.2.1 7) (τ.1 10) 44)))) k l1' l2' τ) l1 s0 τ := by
        rintro y160_1 y160_s0 τ160 j160
        unfold w_tellDraw_160
        refine ⟨fun c38 => ?_, fun c38 => ?_⟩
        · skip
          refine ⟨_, ?_, rfl, ?_⟩
          · clear h; obtain ⟨k1, k2, k3, k9, k4, k5, k6, k7, k8⟩ := j160
            show eMs (τ160.1 11) 0 (if y160_s0 = 0 then 2 else 0) (τ160.1 10) T < n77
            rw [if_pos c38, hn77, k1, if_neg k2]
            exact eMs_lt (by decide) (fun _ _ z => absurd rfl z) (Int32.le_trans i77.1.2.1.1.1 i77.1.2.1.1.2.2.2.2.1) k5.2.1.1.2.2.2.2.2
          · clear h; obtain ⟨k1, k2, k3, k9, k4, k5, k6, k7, k8⟩ := j160
            refine ⟨k5, k6, by rw [k4]; exact le9 k3 k9, fun f => ?_⟩
            obtain ⟨m1, m2, m3, m4, p, e, m5, m6, m7, m8, m9, m10, m11⟩ := k8 f
            exact ⟨m1, by rw [k4]; exact lt8 m3, fun z => absurd c38 z, fun _ => ⟨x77_1.toNatClampNeg, p, e, Nat.lt_of_lt_of_eq (cn_lt k3 m3) rfl, m5, m6, m7, m8, m9, m10, m11, fun z => (m4.mpr z) c38⟩⟩
        · skip
          refine go_c hC B T ?_ (fun σ_39 q40 => ?_)
          · clear h; obtain ⟨k1, k2, k3, k9, k4, k5, k6, k7, k8⟩ := j160
            refine ⟨k5.2.1.1, fun f => ?_⟩
            obtain ⟨m1, m2, m3, m4, -⟩ := k8 f
            rw [rd, (aI_at k5).1, (m4.mp c38).1]; decide
          refine ⟨_, ?_, rfl, ?_⟩
          · clear h; obtain ⟨k1, k2, k3, k9, k4, k5, k6, k7, k8⟩ := j160
            have b := aI_go k5 q40
            have f0 : τ160.1 11 = 0 := Decidable.byContradiction (fun z => c38 (k7 z))
            show eMs (σ_39.1 11) 0 (if y160_s0 = 0 then 2 else 0) (σ_39.1 10) T < n77
            rw [if_neg c38, hn77, k1, if_neg k2]
            exact eMs_lt (by decide) (fun f _ _ => Int32.lt_trans (k8 f0).2.1 (b.2.2 f).2.1) (Int32.le_trans i77.1.2.1.1.1 i77.1.2.1.1.2.2.2.2.1) b.1.2.1.1.2.2.2.2.2
          · clear h; obtain ⟨k1, k2, k3, k9, k4, k5, k6, k7, k8⟩ := j160
            have b := aI_go k5 q40
            refine ⟨b.1, k6, by rw [k4]; exact le9 k3 k9, fun f => ?_⟩
            obtain ⟨f0, l0, e0, o0⟩ := b.2.2 f
            obtain ⟨m1, m2, m3, m4, p, e, m5, m6, m7, m8, m9, m10, m11⟩ := k8 f0
            refine ⟨⟨m1.1, Int32.lt_trans m1.2.1 l0, m1.2.2.1, by rw [o0]; exact m1.2.2.2.1, m1.2.2.2.2⟩, by rw [k4]; exact lt8 m3, fun _ => ⟨τ160.1 10, ?_, e0, by rw [← e0]; exact l0⟩, fun z => absurd z c38⟩
            rw [b.2.1, k4, cn_succ k3 (Int32.lt_trans m3 (by decide))]
            exact ⟨p, e, m5, m6, m7, m8, m9, m10, m11, m4.mp c38⟩
      have hj125 : ∀ (l1 : Int32) (τ : rS), (σ77.1 11 = 0 ∧ x77_2 ≠ 0 ∧ 0 ≤ x77_1 ∧ x77_1 ≤ 8 ∧ l1 = x77_1 ∧ aI σ τ B T ∧ (τ.1 11 = 0 → dB0 σ τ ∧ σ77.1 10 ≤ τ.1 10 ∧ (sg (σ.2.2.1 5) (σ.2.2.1 7) (τ.1 10) 58 → l1 < 8) ∧ ∃ p, prP (σ.2.2.1 5) (σ.2.2.1 7) (τ.2.2.1 39) (σ.1 10) l1.toNatClampNeg p ∧ p < p + 1 ∧ σ77.1 10 = p + 1 ∧ ePa (σ.2.2.1 5) (σ.2.2.1 7) (τ.2.2.1 39) (p + 1) (τ.1 10))) → w_tellDraw_125 C Q (fun l1' l2' τ => ∃ k < n77, (fun n l1 l2 τ => n = eMs (τ.1 11) 0 (if l2 = 0 then 2 else 0) (τ.1 10) T ∧ (aI σ τ B T ∧ nb l2 ∧ 0 ≤ l1 ∧ (τ.1 11 = 0 → dB0 σ τ ∧ l1 ≤ 8 ∧ (l2 ≠ 0 → ∃ p, prP (σ.2.2.1 5) (σ.2.2.1 7) (τ.2.2.1 39) (σ.1 10) l1.toNatClampNeg p ∧ τ.1 10 = p + 1 ∧ p < p + 1) ∧ (l2 = 0 → ∃ i p e, i < 8 ∧ prP (σ.2.2.1 5) (σ.2.2.1 7) (τ.2.2.1 39) (σ.1 10) i p ∧ p < p + 1 ∧ ePa (σ.2.2.1 5) (σ.2.2.1 7) (τ.2.2.1 39) (p + 1) e ∧ p + 1 ≤ e ∧ e < e + 1 ∧ ePa (σ.2.2.1 5) (σ.2.2.1 7) (τ.2.2.1 39) (e + 1) (τ.1 10) ∧ e + 1 ≤ τ.1 10 ∧ ¬ sg (σ.2.2.1 5) (σ.2.2.1 7) (τ.1 10) 44)))) k l1' l2' τ) l1 τ := by
        rintro y125_1 τ125 j125
        unfold w_tellDraw_125
        obtain ⟨k1, k2, k3, k9, k4, k5, k6⟩ := j125
        refine sign_c hC B T ?_ (fun σ_41 q42 => ?_)
        · clear h; exact k5.2.1.1  -- p25
        have b1 := aI_sign k5 q42
        refine expr0_c hC B T ?_ (fun r43 σ_44 q45 => ?_)
        · clear h; exact ⟨b1.1.2.1, fun f => by obtain ⟨f1, l1, e1, o1, -⟩ := b1.2.2 f; have w := (k6 f1).1; have z := hO w.1; rw [o1, w.2.2.2.1]; exact oc_up z.1 z.2 w.2.2.1⟩  -- p26
        intro x46 hx46
        have b2 := aI_expr b1.1 q45 (fun f => by obtain ⟨f1, l1, -⟩ := b1.2.2 f; exact Int32.le_of_lt (Int32.lt_trans (k6 f1).1.2.1 l1))
        have ny : σ_44.1 11 = 0 → dB0 σ σ_44 ∧ σ77.1 10 < σ_44.1 10 ∧ x77_1 < 8 ∧ ∃ p e, prP (σ.2.2.1 5) (σ.2.2.1 7) (σ_44.2.2.1 39) (σ.1 10) x77_1.toNatClampNeg p ∧ p < p + 1 ∧ ePa (σ.2.2.1 5) (σ.2.2.1 7) (σ_44.2.2.1 39) (p + 1) e ∧ p + 1 ≤ e ∧ e < e + 1 ∧ ePa (σ.2.2.1 5) (σ.2.2.1 7) (σ_44.2.2.1 39) (e + 1) (σ_44.1 10) ∧ e + 1 ≤ σ_44.1 10 := fun f => by
          obtain ⟨g1, g2, g3, g4⟩ := b2.2.2 f
          obtain ⟨f1, l1, e1, o1, s58⟩ := b1.2.2 g1
          obtain ⟨m1, m2, m3, p, m4, m5, m6, m7⟩ := k6 f1
          have hR := b2.2.1
          rw [b1.2.1] at hR
          have p0 : 0 ≤ p := Int32.le_trans (aI_at hS).2.2.2.1 (prP_ge m4)
          have pl : p + 1 ≤ τ125.1 10 := by rw [← m6]; exact m2
          have pl2 : p ≤ σ_41.1 10 := Int32.le_trans (Int32.le_of_lt m5) (Int32.le_trans pl (Int32.le_of_lt l1))
          refine ⟨⟨m1.1, Int32.lt_of_lt_of_le (Int32.lt_trans m1.2.1 l1) g2, m1.2.2.1, by rw [g3, o1]; exact m1.2.2.2.1, m1.2.2.2.2⟩, Int32.lt_of_le_of_lt m2 (Int32.lt_of_lt_of_le l1 g2), by rw [← k4]; exact m3 s58, p, τ125.1 10, ?_, m5, ?_, pl, by rw [← e1]; exact l1, by rw [← e1]; exact g4, by rw [← e1]; exact g2⟩
          · rw [← k4]
            exact prP_R (aI_at hS).2.2.2.1 m4 (fun t ht ht2 => hR t ht (Int32.lt_of_lt_of_le ht2 pl2))
          · exact ePa_lo m7 (Int32.le_trans p0 (Int32.le_of_lt m5)) hR (Int32.le_of_lt l1)
        have kx : x46 = x77_1 + 1 := by rw [hx46, k4]
        refine isRight_c hC  (fun r47 q49 => ?_)
        refine ⟨fun c50 => ?_, fun c50 => ?_⟩
        · skip
          refine hj160 _ _ _ ?_
          · clear h; exact ⟨k1, k2, k3, k9, kx, b2.1, nb_0, fun _ => rfl, fun f => absurd c50 (q49.2.mpr f)⟩  -- k27
        · skip
          refine isAt_c hC  ?_ (fun r51 q53 => ?_)
          · clear h; exact (aI_at b2.1).2.2.2  -- p28
          refine ⟨fun c54 => ?_, fun c54 => ?_⟩
          · skip
            refine hj160 _ _ _ ?_
            · clear h; refine ⟨k1, k2, k3, k9, kx, b2.1, nb_0, fun _ => rfl, fun f => ?_⟩
              obtain ⟨w1, w2, w3, w4⟩ := ny f
              refine ⟨w1, w2, w3, ⟨fun z => absurd rfl z, fun z => absurd c54 (q53.2.mpr ?_)⟩, w4⟩
              rw [← (aI_at b2.1).1, ← (aI_at b2.1).2.1] at z
              exact z
          · skip
            refine hj160 _ _ _ ?_
            · clear h; refine ⟨k1, k2, k3, k9, kx, b2.1, nb_1, fun z => absurd (q49.2.mp c50) z, fun f => ?_⟩
              obtain ⟨w1, w2, w3, w4⟩ := ny f
              refine ⟨w1, w2, w3, ⟨fun _ => ?_, fun _ => by decide⟩, w4⟩
              rw [← (aI_at b2.1).1, ← (aI_at b2.1).2.1]
              exact q53.2.mp c54
      refine isRight_c hC  (fun r55 q57 => ?_)
      refine ⟨fun c58 => ?_, fun c58 => ?_⟩
      · skip
        refine hj172 _ ?_
        · clear h; exact ⟨i77.1, fun f => absurd c58 (q57.2.mpr f)⟩  -- k31
      · skip
        refine ⟨fun c59 => ?_, fun c59 => ?_⟩
        · skip
          refine hj172 _ ?_
          · clear h; exact ⟨i77.1, fun f => ⟨(i77.2.2.2 f).1, (i77.2.2.2 f).2.2.2 c59⟩⟩  -- k32
        · skip
          have e11 : σ77.1 11 = 0 := q57.2.mp c58
          have i3 := i77.2.2.2 e11
          refine expr0_c hC B T ?_ (fun r60 σ_61 q62 => ?_)
          · clear h; exact ⟨i77.1.2.1, fun _ => by have z := hO i3.1.1; rw [i3.1.2.2.2.1]; exact oc_up z.1 z.2 i3.1.2.2.1⟩  -- p33
          have b := aI_expr i77.1 q62 (fun _ => Int32.le_of_lt i3.1.2.1)
          obtain ⟨p, hp1, hp2, hp3⟩ := i3.2.2.1 c59
          have ny : σ_61.1 11 = 0 → dB0 σ σ_61 ∧ σ77.1 10 ≤ σ_61.1 10 ∧ ∃ p, prP (σ.2.2.1 5) (σ.2.2.1 7) (σ_61.2.2.1 39) (σ.1 10) x77_1.toNatClampNeg p ∧ p < p + 1 ∧ σ77.1 10 = p + 1 ∧ ePa (σ.2.2.1 5) (σ.2.2.1 7) (σ_61.2.2.1 39) (p + 1) (σ_61.1 10) := fun f => by
            obtain ⟨g1, g2, g3, g4⟩ := b.2.2 f
            refine ⟨⟨i3.1.1, Int32.lt_of_lt_of_le i3.1.2.1 g2, i3.1.2.2.1, by rw [g3]; exact i3.1.2.2.2.1, i3.1.2.2.2.2⟩, g2, p, ?_, hp3, hp2, by rw [← hp2]; exact g4⟩
            exact prP_R (aI_at hS).2.2.2.1 hp1 (fun t ht ht2 => b.2.1 t ht (Int32.lt_trans ht2 (by rw [hp2]; exact hp3)))
          refine isRight_c hC  (fun r63 q65 => ?_)
          refine ⟨fun c66 => ?_, fun c66 => ?_⟩
          · skip
            refine hj125 _ _ ?_
            · clear h; exact ⟨e11, c59, i77.2.2.1, i3.2.1, rfl, b.1, fun f => absurd c66 (q65.2.mpr f)⟩  -- k34
          · skip
            refine isAt_c hC  ?_ (fun r67 q69 => ?_)
            · clear h; exact (aI_at b.1).2.2.2  -- p35
            refine ⟨fun c70 => ?_, fun c70 => ?_⟩
            · skip
              refine hj125 _ _ ?_
              · clear h; refine ⟨e11, c59, i77.2.2.1, i3.2.1, rfl, b.1, fun f => ?_⟩
                obtain ⟨w1, w2, w3⟩ := ny f
                refine ⟨w1, w2, fun z => absurd c70 (q69.2.mpr ?_), w3⟩
                rw [← (aI_at b.1).1, ← (aI_at b.1).2.1] at z
                exact z
            · skip
              refine ⟨fun c71 => ?_, fun c71 => ?_⟩
              · skip
                refine hj125 _ _ ?_
                · clear h; refine ⟨e11, c59, i77.2.2.1, i3.2.1, rfl, b.1, fun f => ?_⟩
                  obtain ⟨w1, w2, w3⟩ := ny f
                  exact ⟨w1, w2, fun _ => ne8 i3.2.1 c71, w3⟩
              · skip
                refine flaw_c hC  ?_ (fun σ_72 q73 => ?_)
                · clear h; exact ⟨(aI_at b.1).2.2.2.1, (aI_at b.1).2.2.2.2, by decide⟩  -- p38
                refine hj125 _ _ ?_
                · clear h; have b' := aI_flaw b.1 q73
                  exact ⟨e11, c59, i77.2.2.1, i3.2.1, rfl, b'.1, fun f => absurd f b'.2.2⟩
    · skip
      refine hj18 _ ?_
      · clear h; exact ⟨rfl, (q31.2.mp c32).1, Or.inr (q31.2.mp c32).2⟩  -- k40
