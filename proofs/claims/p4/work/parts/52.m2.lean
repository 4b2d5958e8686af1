set_option maxHeartbeats 1600000
/-! the reference: calls are looked up (the method) -/
def outR (R R' : Nat → Int32) (B P : Int32) : Prop := ∀ t : Int32, 0 ≤ t → (t < B ∨ P ≤ t) → R' t.toNatClampNeg = R t.toNatClampNeg
abbrev kAll (σ τ : rS) (P n : Int32) : Prop := ∀ s : Int32, 0 ≤ s → s < n → rd σ 30 s = 5 → kO (σ.2.2.1 5) (σ.2.2.1 7) (τ.2.2.1 39) (σ.2.2.1 26) (σ.1 18) P (rd σ 32 s)
theorem rC_upd {S N R : Nat → Int32} {x v : Int32} (h0 : 0 ≤ x) (hs : sg S N (x + 1) 40) : rC S N R (upd R x.toNatClampNeg v) := fun t ht hn => upd_ne (fun e => hn (by rw [cn_inj ht h0 e]; exact hs))
theorem kO_new {S N R G : Nat → Int32} {funcs P x f : Int32} (h0 : 0 ≤ x) (hs : sg S N (x + 1) 40) (hP : P < 131074) (h2 : 0 ≤ x + 2) (f0 : 0 ≤ f) (f1 : f < funcs) (f2 : funcs ≤ 10) (hg : gN S N R P (G f.toNatClampNeg).toNatClampNeg (x + 2)) : kO S N (upd R x.toNatClampNeg (300 + f)) G funcs P x := by
  have u := f300 f0 (Int32.lt_of_lt_of_le f1 (Int32.le_trans f2 (by decide)))
  refine ⟨by rw [upd_eq]; exact u.1, by rw [upd_eq]; exact f300b f0 f1 f2, ?_⟩
  rw [upd_eq, u.2]
  exact gN_C hP h2 hg (rC_upd h0 hs)
theorem kO_old {S N R G : Nat → Int32} {funcs P x y f : Int32} (h0 : 0 ≤ x) (hs : sg S N (x + 1) 40) (hP : P < 131074) (h2 : 0 ≤ x + 2) (f0 : 0 ≤ f) (f1 : f < funcs) (f2 : funcs ≤ 10) (hg : gN S N R P (G f.toNatClampNeg).toNatClampNeg (x + 2)) (hy : 0 ≤ y) (hy2 : 0 ≤ y + 2) (h : kO S N R G funcs P y) : kO S N (upd R x.toNatClampNeg (300 + f)) G funcs P y := by
  by_cases e : y.toNatClampNeg = x.toNatClampNeg
  · rw [cn_inj hy h0 e]; exact kO_new h0 hs hP h2 f0 f1 f2 hg
  · obtain ⟨k1, k2, k3⟩ := h
    refine ⟨by rw [upd_ne e]; exact k1, by rw [upd_ne e]; exact k2, ?_⟩
    rw [upd_ne e]
    exact gN_C hP hy2 k3 (rC_upd h0 hs)
theorem m1_0 {x : Int32} (h : -1 ≤ x) (h2 : x ≠ -1) : 0 ≤ x := by grind
theorem m1_f {x : Int32} (h : 0 ≤ x) : -1 ≤ x := by grind
theorem lookAtCalls_c {C : rCx} (hC : cOK C) (B P : Int32) {σ : rS}  {Q : rS → Prop} (hp : tF σ ∧ tN σ ∧ tS σ ∧ eB (σ.2.2.1 37) (-1) 150 ∧ stA σ B P ∧ 0 ≤ B ∧ P < 131074 ∧ σ.1 11 = 0) (h : ∀ (σ' : rS), (((∀ k, k ≠ 11 → k ≠ 12 → k ≠ 40 → σ'.1 k = σ.1 k) ∧ (∀ k,  σ'.2.1 k = σ.2.1 k) ∧ (∀ k, k ≠ 37 → k ≠ 39 → σ'.2.2.1 k = σ.2.2.1 k) ∧ (∀ k j, k ≠ 37 → k ≠ 39 → σ'.2.2.1 k j = σ.2.2.1 k j) ∧ (∀ k j,  σ'.2.2.2 k j = σ.2.2.2 k j)) ∧ -1 ≤ σ'.1 40 ∧ σ'.1 40 < 10 ∧ (eB (σ'.2.2.1 37) (-1) 150 ∧ ∀ s : Int32, 0 ≤ s → s < σ.1 19 → rd σ' 37 s < σ.1 19) ∧ (outR (σ.2.2.1 39) (σ'.2.2.1 39) B P ∧ 0 ≤ σ'.1 11) ∧ (σ'.1 11 = 0 → rC (σ.2.2.1 5) (σ.2.2.1 7) (σ.2.2.1 39) (σ'.2.2.1 39) ∧ 0 ≤ σ'.1 40 ∧ σ'.1 40 < σ.1 18 ∧ kAll σ σ' P (σ.1 19))) → Q σ') : cV C 2 m_lookAtCalls [.ref (co C)] σ Q := by
  refine m_lookAtCalls_run hC ?_
  unfold w_lookAtCalls_0
  obtain ⟨hF, hN, hS, h37, hst, hB, hP, h11⟩ := hp
  have fb : 0 ≤ σ.1 18 ∧ σ.1 18 ≤ 10 ∧ 0 ≤ σ.1 19 ∧ σ.1 19 ≤ 150 := by clear hst; grind [tyF]
  have hh204 : ∀ (l1 : Int32) (τ : rS), (((∀ k, k ≠ 11 → k ≠ 12 → k ≠ 40 → τ.1 k = σ.1 k) ∧ (∀ k,  τ.2.1 k = σ.2.1 k) ∧ (∀ k, k ≠ 37 → k ≠ 39 → τ.2.2.1 k = σ.2.2.1 k) ∧ (∀ k j, k ≠ 37 → k ≠ 39 → τ.2.2.1 k j = σ.2.2.1 k j) ∧ (∀ k j,  τ.2.2.2 k j = σ.2.2.2 k j)) ∧ 0 ≤ l1 ∧ l1 ≤ σ.1 19 ∧ -1 ≤ τ.1 40 ∧ τ.1 40 < σ.1 18 ∧ (eB (τ.2.2.1 37) (-1) 150 ∧ ∀ s : Int32, 0 ≤ s → s < l1 → rd τ 37 s < σ.1 19) ∧ (outR (σ.2.2.1 39) (τ.2.2.1 39) B P ∧ 0 ≤ τ.1 11) ∧ rC (σ.2.2.1 5) (σ.2.2.1 7) (σ.2.2.1 39) (τ.2.2.1 39) ∧ (τ.1 11 = 0 → kAll σ τ P (σ.1 19) ∧ τ.1 40 ≠ -1)) → w_lookAtCalls_204 C Q  l1 τ := by
    intro z1 τi hinit
    unfold w_lookAtCalls_204
    refine ⟨fun n l1 τ => n = (σ.1 19 - l1).toNatClampNeg ∧ (((∀ k, k ≠ 11 → k ≠ 12 → k ≠ 40 → τ.1 k = σ.1 k) ∧ (∀ k,  τ.2.1 k = σ.2.1 k) ∧ (∀ k, k ≠ 37 → k ≠ 39 → τ.2.2.1 k = σ.2.2.1 k) ∧ (∀ k j, k ≠ 37 → k ≠ 39 → τ.2.2.1 k j = σ.2.2.1 k j) ∧ (∀ k j,  τ.2.2.2 k j = σ.2.2.2 k j)) ∧ 0 ≤ l1 ∧ l1 ≤ σ.1 19 ∧ -1 ≤ τ.1 40 ∧ τ.1 40 < σ.1 18 ∧ (eB (τ.2.2.1 37) (-1) 150 ∧ ∀ s : Int32, 0 ≤ s → s < l1 → rd τ 37 s < σ.1 19) ∧ (outR (σ.2.2.1 39) (τ.2.2.1 39) B P ∧ 0 ≤ τ.1 11) ∧ rC (σ.2.2.1 5) (σ.2.2.1 7) (σ.2.2.1 39) (τ.2.2.1 39) ∧ (τ.1 11 = 0 → kAll σ τ P (σ.1 19) ∧ τ.1 40 ≠ -1)), ⟨_, rfl, hinit⟩, ?_⟩
    clear hinit
    rintro n204 x204_1 σ204 ⟨hn204, i204⟩
    obtain ⟨g1, g2, g3, g4, g5, g6, g7, g8, g9⟩ := i204
    have rr := g1.2.2.1
    have hj290 : ∀ (l1 : Int32) (s1 : Int32) (s2 : Int32) (τ : rS), (σ204 = τ ∧ ¬ σ.1 19 ≤ x204_1 ∧ l1 = x204_1 ∧ s1 = x204_1 ∧ -1 ≤ s2 ∧ s2 < σ.1 19) → w_lookAtCalls_290 C Q (fun l1' τ => ∃ k < n204, (fun n l1 τ => n = (σ.1 19 - l1).toNatClampNeg ∧ (((∀ k, k ≠ 11 → k ≠ 12 → k ≠ 40 → τ.1 k = σ.1 k) ∧ (∀ k,  τ.2.1 k = σ.2.1 k) ∧ (∀ k, k ≠ 37 → k ≠ 39 → τ.2.2.1 k = σ.2.2.1 k) ∧ (∀ k j, k ≠ 37 → k ≠ 39 → τ.2.2.1 k j = σ.2.2.1 k j) ∧ (∀ k j,  τ.2.2.2 k j = σ.2.2.2 k j)) ∧ 0 ≤ l1 ∧ l1 ≤ σ.1 19 ∧ -1 ≤ τ.1 40 ∧ τ.1 40 < σ.1 18 ∧ (eB (τ.2.2.1 37) (-1) 150 ∧ ∀ s : Int32, 0 ≤ s → s < l1 → rd τ 37 s < σ.1 19) ∧ (outR (σ.2.2.1 39) (τ.2.2.1 39) B P ∧ 0 ≤ τ.1 11) ∧ rC (σ.2.2.1 5) (σ.2.2.1 7) (σ.2.2.1 39) (τ.2.2.1 39) ∧ (τ.1 11 = 0 → kAll σ τ P (σ.1 19) ∧ τ.1 40 ≠ -1))) k l1' τ) l1 s1 s2 τ := by
      rintro y290_1 y290_s1 y290_s2 τ290 j290
      unfold w_lookAtCalls_290
      obtain ⟨e, hn', e1, es, l, u⟩ := j290
      have su := s_up g2 hn' fb.2.2.2
      refine ⟨ib_150.mpr ?_, ?_⟩
      · clear h; rw [es]; exact ⟨g2, su.2.2.2.2.2⟩  -- b1
      intro σ_1 hσ_1
      intro x2 hx2
      refine ⟨_, cn_lt2 hn204 ?_ ?_, rfl, ?_⟩
      · clear h; rw [hx2, e1]; exact su.2.2.2.1  -- d2
      · clear h; rw [hx2, e1]; exact su.2.2.1  -- d3
      · clear h; have ff : ∀ k, σ_1.1 k = σ204.1 k := fun k => by rw [hσ_1, ri1, ← e]
        have r' : ∀ k, k ≠ 37 → σ_1.2.2.1 k = σ204.2.2.1 k := fun k hk => by rw [hσ_1, ri3 hk, ← e]
        have r39 := r' 39 (by decide)
        refine ⟨⟨fun k z1 z2 z3 => (ff k).trans (g1.1 k z1 z2 z3), fun k => by rw [hσ_1, ri2, ← e]; exact g1.2.1 k, fun k z1 z2 => (r' k z1).trans (g1.2.2.1 k z1 z2), fun k j z1 z2 => (congrFun (r' k z1) j).trans (g1.2.2.2.1 k j z1 z2), fun k j => by rw [hσ_1, ri5, ← e]; exact g1.2.2.2.2 k j⟩, by rw [hx2, e1]; exact su.1, by rw [hx2, e1]; exact su.2.1, by rw [ff]; exact g4, by rw [ff]; exact g5, ⟨by rw [hσ_1, ri_row, ← e]; exact eB_upd g6.1 l (Int32.lt_of_lt_of_le u fb.2.2.2), ?_⟩, ⟨by rw [r39]; exact g7.1, by rw [ff]; exact g7.2⟩, by rw [r39]; exact g8, fun f => ?_⟩
        · intro s s0 s1
          rw [hx2, e1] at s1
          rw [rd, hσ_1, ri_row, ← e, es]
          by_cases ee : s.toNatClampNeg = x204_1.toNatClampNeg
          · rw [ee, upd_eq]; exact u
          · rw [upd_ne ee]
            refine g6.2 s s0 ?_
            rcases s_lt1 g2 su.2.2.2.2.2 s1 with z | z
            · exact absurd (by rw [z]) ee
            · exact z
        rw [ff] at f
        exact ⟨by simp only [kAll]; rw [r39]; exact (g9 f).1, by rw [ff]; exact (g9 f).2⟩
    have hj260 : ∀ (l1 : Int32) (l2 : Int32) (τ : rS), (σ204 = τ ∧ ¬ σ.1 19 ≤ x204_1 ∧ l1 = x204_1 ∧ 0 ≤ l2 ∧ l2 < σ.1 19) → w_lookAtCalls_260 C Q (fun l1' τ => ∃ k < n204, (fun n l1 τ => n = (σ.1 19 - l1).toNatClampNeg ∧ (((∀ k, k ≠ 11 → k ≠ 12 → k ≠ 40 → τ.1 k = σ.1 k) ∧ (∀ k,  τ.2.1 k = σ.2.1 k) ∧ (∀ k, k ≠ 37 → k ≠ 39 → τ.2.2.1 k = σ.2.2.1 k) ∧ (∀ k j, k ≠ 37 → k ≠ 39 → τ.2.2.1 k j = σ.2.2.1 k j) ∧ (∀ k j,  τ.2.2.2 k j = σ.2.2.2 k j)) ∧ 0 ≤ l1 ∧ l1 ≤ σ.1 19 ∧ -1 ≤ τ.1 40 ∧ τ.1 40 < σ.1 18 ∧ (eB (τ.2.2.1 37) (-1) 150 ∧ ∀ s : Int32, 0 ≤ s → s < l1 → rd τ 37 s < σ.1 19) ∧ (outR (σ.2.2.1 39) (τ.2.2.1 39) B P ∧ 0 ≤ τ.1 11) ∧ rC (σ.2.2.1 5) (σ.2.2.1 7) (σ.2.2.1 39) (τ.2.2.1 39) ∧ (τ.1 11 = 0 → kAll σ τ P (σ.1 19) ∧ τ.1 40 ≠ -1))) k l1' τ) l1 l2 τ := by
      rintro y260_1 y260_2 τ260 j260
      unfold w_lookAtCalls_260
      obtain ⟨e, hn', e1, l0, l1⟩ := j260
      have lt150 : y260_2 < 150 := Int32.lt_of_lt_of_le l1 fb.2.2.2
      refine ⟨ib_150.mpr ?_, ?_⟩
      · clear h; exact ⟨l0, lt150⟩  -- b5
      refine ⟨fun c3 => ?_, fun c3 => ?_⟩
      · skip
        refine ⟨ib_150.mpr ?_, ?_⟩
        · clear h; exact ⟨l0, lt150⟩  -- b6
        refine hj290 _ _ _ _ ?_
        · clear h; exact ⟨e, hn', e1, e1, by rw [← e, rr 36 (by decide) (by decide)]; exact (hS.2.2.2.2.1 _).1, by rw [← e, rr 36 (by decide) (by decide)]; exact Int32.lt_trans (hst y260_2 l0 l1).2.1 l1⟩  -- k7
      · skip
        refine ⟨ib_150.mpr ?_, ?_⟩
        · clear h; exact ⟨l0, lt150⟩  -- b8
        refine hj290 _ _ _ _ ?_
        · clear h; exact ⟨e, hn', e1, e1, by rw [← e, rr 35 (by decide) (by decide)]; exact (hS.2.2.2.1 _).1, by rw [← e, rr 35 (by decide) (by decide)]; exact (hst y260_2 l0 l1).2.2.2.2⟩  -- k9
    refine ⟨fun c4 => ?_, fun c4 => ?_⟩
    · skip
      refine h _ ?_
      · clear h; exact ⟨g1, g4, Int32.lt_of_lt_of_le g5 fb.2.1, ⟨g6.1, fun s s0 s1 => g6.2 s s0 (Int32.lt_of_lt_of_le s1 (by rw [← g1.1 19 (by decide) (by decide) (by decide)]; exact c4))⟩, g7, fun f => ⟨g8, m1_0 g4 (g9 f).2, g5, (g9 f).1⟩⟩  -- q10
    · skip
      have c4' : ¬ σ.1 19 ≤ x204_1 := by rw [← g1.1 19 (by decide) (by decide) (by decide)]; exact c4
      unfold w_lookAtCalls_214
      refine ⟨fun n l1 l2 τ => n = (l2).toNatClampNeg ∧ (σ204 = τ ∧ l1 = x204_1 ∧ 0 ≤ l2 ∧ l2 < σ.1 19), ⟨_, rfl, ?_⟩, ?_⟩
      · clear h; exact ⟨rfl, rfl, g2, Int32.not_le.mp c4'⟩  -- j11
      rintro n214 x214_1 x214_2 σ214 ⟨hn214, i214⟩
      obtain ⟨e214, i214⟩ := i214
      have r36 : σ214.2.2.1 36 = σ.2.2.1 36 := by rw [← e214]; exact rr 36 (by decide) (by decide)
      have lt150 : x214_2 < 150 := Int32.lt_of_lt_of_le i214.2.2 fb.2.2.2
      refine ⟨ib_150.mpr ?_, ?_⟩
      · clear h; exact ⟨i214.2.1, lt150⟩  -- b12
      refine ⟨fun c5 => ?_, fun c5 => ?_⟩
      · skip
        refine hj260 _ _ _ ?_
        · clear h; exact ⟨e214, c4', i214.1, i214.2.1, i214.2.2⟩  -- k13
      · skip
        refine ⟨ib_150.mpr ?_, ?_⟩
        · clear h; exact ⟨i214.2.1, lt150⟩  -- b14
        refine ⟨fun c6 => ?_, fun c6 => ?_⟩
        · skip
          refine hj260 _ _ _ ?_
          · clear h; exact ⟨e214, c4', i214.1, i214.2.1, i214.2.2⟩  -- k15
        · skip
          refine ⟨ib_150.mpr ?_, ?_⟩
          · clear h; exact ⟨i214.2.1, lt150⟩  -- b16
          have p36 : 0 ≤ σ214.2.2.1 36 x214_2.toNatClampNeg := m1_0 (by rw [r36]; exact (hS.2.2.2.2.1 _).1) c6
          have q36 : σ214.2.2.1 36 x214_2.toNatClampNeg < x214_2 := by rw [r36]; exact (hst x214_2 i214.2.1 i214.2.2).2.1
          refine ⟨ib_150.mpr ?_, ?_⟩
          · clear h; exact ⟨p36, Int32.lt_trans q36 lt150⟩  -- b17
          refine ⟨fun c7 => ?_, fun c7 => ?_⟩
          · skip
            refine hj260 _ _ _ ?_
            · clear h; exact ⟨e214, c4', i214.1, i214.2.1, i214.2.2⟩  -- k18
          · skip
            refine ⟨ib_150.mpr ?_, ?_⟩
            · clear h; exact ⟨i214.2.1, lt150⟩  -- b19
            intro x8 hx8
            refine ⟨_, cn_lt2 hn214 ?_ ?_, rfl, ?_⟩
            · clear h; rw [hx8]; exact p36  -- d20
            · clear h; rw [hx8]; exact q36  -- d21
            · clear h; exact ⟨e214, i214.1, by rw [hx8]; exact p36, by rw [hx8]; exact Int32.lt_trans q36 i214.2.2⟩  -- i22
  unfold w_lookAtCalls_2
  refine ⟨fun n l1 τ => n = (σ.1 19 - l1).toNatClampNeg ∧ (((∀ k, k ≠ 11 → k ≠ 12 → τ.1 k = σ.1 k) ∧ (∀ k,  τ.2.1 k = σ.2.1 k) ∧ (∀ k, k ≠ 39 → τ.2.2.1 k = σ.2.2.1 k) ∧ (∀ k j, k ≠ 39 → τ.2.2.1 k j = σ.2.2.1 k j) ∧ (∀ k j,  τ.2.2.2 k j = σ.2.2.2 k j)) ∧ 0 ≤ l1 ∧ l1 ≤ σ.1 19 ∧ (outR (σ.2.2.1 39) (τ.2.2.1 39) B P ∧ 0 ≤ τ.1 11) ∧ rC (σ.2.2.1 5) (σ.2.2.1 7) (σ.2.2.1 39) (τ.2.2.1 39) ∧ (τ.1 11 = 0 → kAll σ τ P l1)), ⟨_, rfl, ?_⟩, ?_⟩
  · clear h; exact ⟨⟨fun _ _ _ => rfl, fun _ => rfl, fun _ _ => rfl, fun _ _ _ => rfl, fun _ _ => rfl⟩, by decide, fb.2.2.1, ⟨fun _ _ _ => rfl, by rw [h11]; decide⟩, rC_refl, fun _ s s0 s1 => absurd s1 (Int32.not_lt.mpr s0)⟩  -- j23
  rintro n2 x2_1 σ2 ⟨hn2, i2⟩
  obtain ⟨g1, g2, g3, g4, g5, g6⟩ := i2
  have rr := g1.2.2.1
  have e19 : σ2.1 19 = σ.1 19 := g1.1 19 (by decide) (by decide)
  have hj74 : ∀ (l1 : Int32) (l2 : Int32) (l3 : Int32) (τ : rS), (((∀ k, k ≠ 11 → k ≠ 12 → τ.1 k = σ.1 k) ∧ (∀ k,  τ.2.1 k = σ.2.1 k) ∧ (∀ k, k ≠ 39 → τ.2.2.1 k = σ.2.2.1 k) ∧ (∀ k j, k ≠ 39 → τ.2.2.1 k j = σ.2.2.1 k j) ∧ (∀ k j,  τ.2.2.2 k j = σ.2.2.2 k j)) ∧ l1 = x2_1 ∧ ¬ σ.1 19 ≤ x2_1 ∧ l2 = rd σ 32 x2_1 ∧ rd σ 30 x2_1 = 5 ∧ cO (σ.2.2.1 5) (σ.2.2.1 7) (σ.2.2.1 39) B P l2 ∧ (outR (σ.2.2.1 39) (τ.2.2.1 39) B P ∧ 0 ≤ τ.1 11) ∧ rC (σ.2.2.1 5) (σ.2.2.1 7) (σ.2.2.1 39) (τ.2.2.1 39) ∧ (τ.1 11 = 0 → kAll σ τ P x2_1 ∧ 0 ≤ l3 ∧ l3 < σ.1 18 ∧ gN (σ.2.2.1 5) (σ.2.2.1 7) (τ.2.2.1 39) P (rd σ 26 l3).toNatClampNeg (l2 + 2))) → w_lookAtCalls_74 C Q (fun l1' τ => ∃ k < n2, (fun n l1 τ => n = (σ.1 19 - l1).toNatClampNeg ∧ (((∀ k, k ≠ 11 → k ≠ 12 → τ.1 k = σ.1 k) ∧ (∀ k,  τ.2.1 k = σ.2.1 k) ∧ (∀ k, k ≠ 39 → τ.2.2.1 k = σ.2.2.1 k) ∧ (∀ k j, k ≠ 39 → τ.2.2.1 k j = σ.2.2.1 k j) ∧ (∀ k j,  τ.2.2.2 k j = σ.2.2.2 k j)) ∧ 0 ≤ l1 ∧ l1 ≤ σ.1 19 ∧ (outR (σ.2.2.1 39) (τ.2.2.1 39) B P ∧ 0 ≤ τ.1 11) ∧ rC (σ.2.2.1 5) (σ.2.2.1 7) (σ.2.2.1 39) (τ.2.2.1 39) ∧ (τ.1 11 = 0 → kAll σ τ P l1))) k l1' τ) l1 l2 l3 τ := by
    rintro y74_1 y74_2 y74_3 τ74 j74
    unfold w_lookAtCalls_74
    obtain ⟨m1, m2, m3, m4, m5, m6, m7, m8, m9⟩ := j74
    have su := s_up g2 m3 fb.2.2.2
    obtain ⟨o1, o2, o3, o4, -⟩ := m6
    have x0 : 0 ≤ y74_2 := Int32.le_trans hB o1
    have x2' := (lt2 x0 o2 hP).1
    refine ⟨ib_131074.mpr ?_, ?_⟩
    · clear h; exact ⟨x0, Int32.lt_trans o2 hP⟩  -- b24
    intro σ_9 hσ_9
    intro x10 hx10
    refine ⟨_, cn_lt2 hn2 ?_ ?_, rfl, ?_⟩
    · clear h; rw [hx10, m2]; exact su.2.2.2.1  -- d25
    · clear h; rw [hx10, m2]; exact su.2.2.1  -- d26
    · clear h; have ff : ∀ k, σ_9.1 k = τ74.1 k := fun k => by rw [hσ_9, ri1]
      have r' : ∀ k, k ≠ 39 → σ_9.2.2.1 k = τ74.2.2.1 k := fun k hk => by rw [hσ_9, ri3 hk]
      have r39 : σ_9.2.2.1 39 = upd (τ74.2.2.1 39) y74_2.toNatClampNeg (300 + y74_3) := by rw [hσ_9, ri_row]
      refine ⟨⟨fun k z1 z2 => (ff k).trans (m1.1 k z1 z2), fun k => by rw [hσ_9, ri2]; exact m1.2.1 k, fun k z1 => (r' k z1).trans (m1.2.2.1 k z1), fun k j z1 => (congrFun (r' k z1) j).trans (m1.2.2.2.1 k j z1), fun k j => by rw [hσ_9, ri5]; exact m1.2.2.2.2 k j⟩, by rw [hx10, m2]; exact su.1, by rw [hx10, m2]; exact su.2.1, ⟨fun t t0 ht => ?_, by rw [ff]; exact m7.2⟩, ?_, fun f => ?_⟩
      · rw [r39, upd_ne ?_]
        · exact m7.1 t t0 ht
        · rcases ht with z | z
          · exact cn_ne t0 (Int32.lt_of_lt_of_le z o1)
          · exact (cn_ne x0 (Int32.lt_of_lt_of_le o2 z)).symm
      · rw [r39]; exact rC_tr m8 (rC_upd x0 o4)
      · rw [ff] at f
        obtain ⟨n1, n2, n3, n4⟩ := m9 f
        rw [hx10, m2]
        intro s s0 s1 s5
        rw [r39]
        rcases s_lt1 g2 su.2.2.2.2.2 s1 with e | e
        · rw [e, ← m4]
          exact kO_new x0 o4 hP x2' n2 n3 fb.2.1 n4
        · obtain ⟨y1, y2, -⟩ := stK_call (hst s s0 (Int32.lt_trans e su.2.2.2.2.1)).1 s5
          have y0 := Int32.le_trans hB y1
          exact kO_old x0 o4 hP x2' n2 n3 fb.2.1 n4 y0 (lt2 y0 y2 hP).1 (n1 s s0 e s5)
  have hj58 : ∀ (l1 : Int32) (l2 : Int32) (l3 : Int32) (τ : rS), (((∀ k, k ≠ 11 → k ≠ 12 → τ.1 k = σ.1 k) ∧ (∀ k,  τ.2.1 k = σ.2.1 k) ∧ (∀ k, k ≠ 39 → τ.2.2.1 k = σ.2.2.1 k) ∧ (∀ k j, k ≠ 39 → τ.2.2.1 k j = σ.2.2.1 k j) ∧ (∀ k j,  τ.2.2.2 k j = σ.2.2.2 k j)) ∧ l1 = x2_1 ∧ ¬ σ.1 19 ≤ x2_1 ∧ l2 = rd σ 32 x2_1 ∧ rd σ 30 x2_1 = 5 ∧ cO (σ.2.2.1 5) (σ.2.2.1 7) (σ.2.2.1 39) B P l2 ∧ (outR (σ.2.2.1 39) (τ.2.2.1 39) B P ∧ 0 ≤ τ.1 11) ∧ rC (σ.2.2.1 5) (σ.2.2.1 7) (σ.2.2.1 39) (τ.2.2.1 39)) → w_lookAtCalls_58 C Q (fun l1' τ => ∃ k < n2, (fun n l1 τ => n = (σ.1 19 - l1).toNatClampNeg ∧ (((∀ k, k ≠ 11 → k ≠ 12 → τ.1 k = σ.1 k) ∧ (∀ k,  τ.2.1 k = σ.2.1 k) ∧ (∀ k, k ≠ 39 → τ.2.2.1 k = σ.2.2.1 k) ∧ (∀ k j, k ≠ 39 → τ.2.2.1 k j = σ.2.2.1 k j) ∧ (∀ k j,  τ.2.2.2 k j = σ.2.2.2 k j)) ∧ 0 ≤ l1 ∧ l1 ≤ σ.1 19 ∧ (outR (σ.2.2.1 39) (τ.2.2.1 39) B P ∧ 0 ≤ τ.1 11) ∧ rC (σ.2.2.1 5) (σ.2.2.1 7) (σ.2.2.1 39) (τ.2.2.1 39) ∧ (τ.1 11 = 0 → kAll σ τ P l1))) k l1' τ) l1 l2 l3 τ := by
    rintro y58_1 y58_2 y58_3 τ58 j58
    unfold w_lookAtCalls_58
    intro σ_11 hσ_11
    obtain ⟨m1, m2, m3, m4, m5, m6, m7, m8⟩ := j58
    refine ⟨ib_131074.mpr ?_, ?_⟩
    · clear h; exact ⟨Int32.le_trans hB m6.1, Int32.lt_trans m6.2.1 hP⟩  -- b28
    intro σ_12 hσ_12
    refine hj74 _ _ _ _ ?_
    · clear h; have e11 : σ_12.1 11 = 16 := by rw [hσ_12, si1, if_neg (by decide), hσ_11, si1, if_pos rfl]
      have s12 : σ_12.2 = τ58.2 := by rw [hσ_12, si2, hσ_11, si2]
      refine ⟨⟨fun k z1 z2 => by rw [hσ_12, si1, if_neg z2, hσ_11, si1, if_neg z1]; exact m1.1 k z1 z2, fun k => by rw [s12]; exact m1.2.1 k, fun k z => by rw [s12]; exact m1.2.2.1 k z, fun k j z => by rw [s12]; exact m1.2.2.2.1 k j z, fun k j => by rw [s12]; exact m1.2.2.2.2 k j⟩, m2, m3, m4, m5, m6, ⟨by rw [s12]; exact m7.1, by rw [e11]; decide⟩, by rw [s12]; exact m8, fun f => ?_⟩
      rw [e11] at f; exact absurd f (by decide)
  refine ⟨fun c13 => ?_, fun c13 => ?_⟩
  · skip
    intro σ_14 hσ_14
    unfold w_lookAtCalls_98
    refine ⟨fun n l1 τ => n = (σ.1 18 - l1).toNatClampNeg ∧ (((∀ k, k ≠ 11 → k ≠ 12 → k ≠ 40 → τ.1 k = σ.1 k) ∧ (∀ k,  τ.2.1 k = σ.2.1 k) ∧ (∀ k, k ≠ 39 → τ.2.2.1 k = σ.2.2.1 k) ∧ (∀ k j, k ≠ 39 → τ.2.2.1 k j = σ.2.2.1 k j) ∧ (∀ k j,  τ.2.2.2 k j = σ.2.2.2 k j)) ∧ 0 ≤ l1 ∧ l1 ≤ σ.1 18 ∧ -1 ≤ τ.1 40 ∧ τ.1 40 < σ.1 18 ∧ (outR (σ.2.2.1 39) (τ.2.2.1 39) B P ∧ 0 ≤ τ.1 11) ∧ rC (σ.2.2.1 5) (σ.2.2.1 7) (σ.2.2.1 39) (τ.2.2.1 39) ∧ (τ.1 11 = 0 → kAll σ τ P (σ.1 19))), ⟨_, rfl, ?_⟩, ?_⟩
    · clear h; have s14 : σ_14.2 = σ2.2 := by rw [hσ_14, si2]
      have ee : ∀ k, k ≠ 40 → σ_14.1 k = σ2.1 k := fun k hk => by rw [hσ_14, si1, if_neg hk]
      have e40 : σ_14.1 40 = -1 := by rw [hσ_14, si1, if_pos rfl]
      refine ⟨⟨fun k z1 z2 z3 => (ee k z3).trans (g1.1 k z1 z2), fun k => by rw [s14]; exact g1.2.1 k, fun k z => by rw [s14]; exact g1.2.2.1 k z, fun k j z => by rw [s14]; exact g1.2.2.2.1 k j z, fun k j => by rw [s14]; exact g1.2.2.2.2 k j⟩, by decide, fb.1, by rw [e40]; decide, by rw [e40]; exact Int32.lt_of_lt_of_le (by decide) fb.1, ⟨by rw [s14]; exact g4.1, by rw [ee 11 (by decide)]; exact g4.2⟩, by rw [s14]; exact g5, fun f s s0 s1 s5 => ?_⟩
      rw [ee 11 (by decide)] at f
      rw [s14]
      exact g6 f s s0 (Int32.lt_of_lt_of_le s1 (by rw [← e19]; exact c13)) s5
    rintro n98 x98_1 σ98 ⟨hn98, i98⟩
    obtain ⟨k1, k2, k3, k4, k5, k6, k7, k8⟩ := i98
    have e18 : σ98.1 18 = σ.1 18 := k1.1 18 (by decide) (by decide) (by decide)
    have hj164 : ∀ (l1 : Int32) (s1 : Int32) (τ : rS), (τ = σ98 ∧ l1 = x98_1 ∧ ¬ σ.1 18 ≤ x98_1 ∧ -1 ≤ s1 ∧ s1 < σ.1 18) → w_lookAtCalls_164 C Q (fun l1' τ => ∃ k < n98, (fun n l1 τ => n = (σ.1 18 - l1).toNatClampNeg ∧ (((∀ k, k ≠ 11 → k ≠ 12 → k ≠ 40 → τ.1 k = σ.1 k) ∧ (∀ k,  τ.2.1 k = σ.2.1 k) ∧ (∀ k, k ≠ 39 → τ.2.2.1 k = σ.2.2.1 k) ∧ (∀ k j, k ≠ 39 → τ.2.2.1 k j = σ.2.2.1 k j) ∧ (∀ k j,  τ.2.2.2 k j = σ.2.2.2 k j)) ∧ 0 ≤ l1 ∧ l1 ≤ σ.1 18 ∧ -1 ≤ τ.1 40 ∧ τ.1 40 < σ.1 18 ∧ (outR (σ.2.2.1 39) (τ.2.2.1 39) B P ∧ 0 ≤ τ.1 11) ∧ rC (σ.2.2.1 5) (σ.2.2.1 7) (σ.2.2.1 39) (τ.2.2.1 39) ∧ (τ.1 11 = 0 → kAll σ τ P (σ.1 19)))) k l1' τ) l1 s1 τ := by
      rintro y164_1 y164_s1 τ164 j164
      unfold w_lookAtCalls_164
      intro σ_15 hσ_15
      intro x16 hx16
      obtain ⟨e, m2, m3, m4, m5⟩ := j164
      have su := f_up2 k2 m3 fb.2.1
      refine ⟨_, cn_lt2 hn98 ?_ ?_, rfl, ?_⟩
      · clear h; rw [hx16, m2]; exact su.2.2.2.1  -- d31
      · clear h; rw [hx16, m2]; exact su.2.2.1  -- d32
      · clear h; have s15 : σ_15.2 = σ98.2 := by rw [hσ_15, si2, e]
        have ee : ∀ k, k ≠ 40 → σ_15.1 k = σ98.1 k := fun k hk => by rw [hσ_15, si1, if_neg hk, e]
        have e40 : σ_15.1 40 = y164_s1 := by rw [hσ_15, si1, if_pos rfl]
        refine ⟨⟨fun k z1 z2 z3 => (ee k z3).trans (k1.1 k z1 z2 z3), fun k => by rw [s15]; exact k1.2.1 k, fun k z => by rw [s15]; exact k1.2.2.1 k z, fun k j z => by rw [s15]; exact k1.2.2.2.1 k j z, fun k j => by rw [s15]; exact k1.2.2.2.2 k j⟩, by rw [hx16, m2]; exact su.1, by rw [hx16, m2]; exact su.2.1, by rw [e40]; exact m4, by rw [e40]; exact m5, ⟨by rw [s15]; exact k6.1, by rw [ee 11 (by decide)]; exact k6.2⟩, by rw [s15]; exact k7, fun f => ?_⟩
        rw [ee 11 (by decide)] at f
        simp only [kAll]; rw [s15]; exact k8 f
    have fr : ((∀ k, k ≠ 11 → k ≠ 12 → k ≠ 40 → σ98.1 k = σ.1 k) ∧ (∀ k,  σ98.2.1 k = σ.2.1 k) ∧ (∀ k, k ≠ 37 → k ≠ 39 → σ98.2.2.1 k = σ.2.2.1 k) ∧ (∀ k j, k ≠ 37 → k ≠ 39 → σ98.2.2.1 k j = σ.2.2.1 k j) ∧ (∀ k j,  σ98.2.2.2 k j = σ.2.2.2 k j)) := ⟨k1.1, k1.2.1, fun k _ z => k1.2.2.1 k z, fun k j _ z => k1.2.2.2.1 k j z, k1.2.2.2.2⟩
    have e37 : eB (σ98.2.2.1 37) (-1) 150 ∧ ∀ s : Int32, 0 ≤ s → s < 0 → rd σ98 37 s < σ.1 19 := ⟨by rw [k1.2.2.1 37 (by decide)]; exact h37, fun s s0 s1 => absurd s1 (Int32.not_lt.mpr s0)⟩
    refine ⟨fun c17 => ?_, fun c17 => ?_⟩
    · skip
      refine isRight_c hC  (fun r18 q20 => ?_)
      refine ⟨fun c21 => ?_, fun c21 => ?_⟩
      · skip
        refine hh204 _ _ ?_
        · clear h; exact ⟨fr, by decide, fb.2.2.1, k4, k5, e37, k6, k7, fun f => absurd c21 (q20.2.mpr f)⟩  -- j34
      · skip
        refine ⟨fun c22 => ?_, fun c22 => ?_⟩
        · skip
          refine hh204 _ _ ?_
          · clear h; exact ⟨fr, by decide, fb.2.2.1, k4, k5, e37, k6, k7, fun f => ⟨k8 f, c22⟩⟩  -- j35
        · skip
          intro σ_23 hσ_23
          intro σ_24 hσ_24
          refine hh204 _ _ ?_
          · clear h; have s24 : σ_24.2 = σ98.2 := by rw [hσ_24, si2, hσ_23, si2]
            have ee : ∀ k, k ≠ 11 → k ≠ 12 → σ_24.1 k = σ98.1 k := fun k z1 z2 => by rw [hσ_24, si1, if_neg z2, hσ_23, si1, if_neg z1]
            have e11 : σ_24.1 11 = 17 := by rw [hσ_24, si1, if_neg (by decide), hσ_23, si1, if_pos rfl]
            refine ⟨⟨fun k z1 z2 z3 => (ee k z1 z2).trans (k1.1 k z1 z2 z3), fun k => by rw [s24]; exact k1.2.1 k, fun k _ z => by rw [s24]; exact k1.2.2.1 k z, fun k j _ z => by rw [s24]; exact k1.2.2.2.1 k j z, fun k j => by rw [s24]; exact k1.2.2.2.2 k j⟩, by decide, fb.2.2.1, by rw [ee 40 (by decide) (by decide)]; exact k4, by rw [ee 40 (by decide) (by decide)]; exact k5, ⟨by rw [s24]; exact e37.1, fun s s0 s1 => absurd s1 (Int32.not_lt.mpr s0)⟩, ⟨by rw [s24]; exact k6.1, by rw [e11]; decide⟩, by rw [s24]; exact k7, fun f => ?_⟩
            rw [e11] at f; exact absurd f (by decide)
    · skip
      have c17' : ¬ σ.1 18 ≤ x98_1 := by rw [← e18]; exact c17
      have su := f_up2 k2 c17' fb.2.1
      refine ⟨ib_10.mpr ?_, ?_⟩
      · clear h; exact ⟨k2, su.2.2.2.2.2⟩  -- b37
      intro x25 hx25
      have t25 : 0 ≤ x25 ∧ x25 < 131074 := by rw [hx25, k1.2.2.1 25 (by decide)]; exact hN.2.2.1 _
      refine ⟨ib_131074.mpr ?_, ?_⟩
      · clear h; exact t25  -- b38
      refine word_c hC  (fun r26 q28 => ?_)
      refine ⟨fun c29 => ?_, fun c29 => ?_⟩
      · skip
        refine hj164 _ _ _ ?_
        · clear h; exact ⟨rfl, rfl, c17', k4, k5⟩  -- k39
      · skip
        refine ⟨ib_131074.mpr ?_, ?_⟩
        · clear h; exact t25  -- b40
        refine ⟨fun c30 => ?_, fun c30 => ?_⟩
        · skip
          refine hj164 _ _ _ ?_
          · clear h; exact ⟨rfl, rfl, c17', k4, k5⟩  -- k41
        · skip
          refine ⟨ib_10.mpr ?_, ?_⟩
          · clear h; exact ⟨k2, su.2.2.2.2.2⟩  -- b42
          refine ⟨fun c31 => ?_, fun c31 => ?_⟩
          · skip
            refine hj164 _ _ _ ?_
            · clear h; exact ⟨rfl, rfl, c17', k4, k5⟩  -- k43
          · skip
            refine hj164 _ _ _ ?_
            · clear h; exact ⟨rfl, rfl, c17', m1_f k2, su.2.2.2.2.1⟩  -- k44
  · skip
    have c13' : ¬ σ.1 19 ≤ x2_1 := by rw [← e19]; exact c13
    have su := s_up g2 c13' fb.2.2.2
    refine ⟨ib_150.mpr ?_, ?_⟩
    · clear h; exact ⟨g2, su.2.2.2.2.2⟩  -- b45
    refine ⟨fun c32 => ?_, fun c32 => ?_⟩
    · skip
      intro x33 hx33
      refine ⟨_, cn_lt2 hn2 ?_ ?_, rfl, ?_⟩
      · clear h; rw [hx33]; exact su.2.2.2.1  -- d46
      · clear h; rw [hx33]; exact su.2.2.1  -- d47
      · clear h; refine ⟨g1, by rw [hx33]; exact su.1, by rw [hx33]; exact su.2.1, g4, g5, fun f s s0 s1 s5 => ?_⟩
        rw [hx33] at s1
        rcases s_lt1 g2 su.2.2.2.2.2 s1 with e | e
        · rw [e, rd, ← rr 30 (by decide)] at s5
          exact absurd s5 c32
        · exact g6 f s s0 e s5
    · skip
      refine isRight_c hC  (fun r34 q36 => ?_)
      refine ⟨fun c37 => ?_, fun c37 => ?_⟩
      · skip
        intro x38 hx38
        refine ⟨_, cn_lt2 hn2 ?_ ?_, rfl, ?_⟩
        · clear h; rw [hx38]; exact su.2.2.2.1  -- d49
        · clear h; rw [hx38]; exact su.2.2.1  -- d50
        · clear h; exact ⟨g1, by rw [hx38]; exact su.1, by rw [hx38]; exact su.2.1, g4, g5, fun f => absurd c37 (q36.2.mpr f)⟩  -- i51
      · skip
        refine calledBy_c hC  ?_ (fun r39 q41 => ?_)
        · clear h; exact ⟨g2, su.2.2.2.2.2⟩  -- p52
        have f2 := q36.2.mp c37
        have k5' : rd σ 30 x2_1 = 5 := by rw [rd, ← rr 30 (by decide)]; exact c32
        have er : r39 = rd σ 32 x2_1 := by rw [q41, rd, rr 32 (by decide)]
        have hc : cO (σ.2.2.1 5) (σ.2.2.1 7) (σ.2.2.1 39) B P r39 := by rw [er]; exact stK_call (hst x2_1 g2 su.2.2.2.2.1).1 k5'
        have x0 := Int32.le_trans hB hc.1
        refine functionOf_c hC  ?_ (fun r42 q44 => ?_)
        · clear h; refine ⟨?_, ?_, x0, Int32.lt_trans hc.2.1 hP⟩
          · show tyF _ _ _ _ _ _ _ _
            rw [g1.1 15 (by decide) (by decide), g1.1 16 (by decide) (by decide), g1.1 17 (by decide) (by decide), g1.1 18 (by decide) (by decide), g1.1 19 (by decide) (by decide), g1.1 40 (by decide) (by decide), g1.1 41 (by decide) (by decide), g1.1 42 (by decide) (by decide)]
            exact hF
          · show tyN _ _ _ _ _ _
            rw [rr 20 (by decide), rr 22 (by decide), rr 25 (by decide), rr 28 (by decide), rr 26 (by decide), rr 27 (by decide)]
            exact hN
        refine ⟨fun c45 => ?_, fun c45 => ?_⟩
        · skip
          refine hj58 _ _ _ _ ?_
          · clear h; exact ⟨g1, rfl, c13', er, k5', hc, g4, g5⟩  -- k54
        · skip
          have fr : 0 ≤ r42 ∧ r42 < σ.1 18 := by
            rw [g1.1 18 (by decide) (by decide)] at q44
            rcases q44 with z | z
            · exact absurd z c45
            · exact z
          refine ⟨ib_10.mpr ?_, ?_⟩
          · clear h; exact ⟨fr.1, Int32.lt_of_lt_of_le fr.2 fb.2.1⟩  -- b55
          obtain ⟨nn, hg⟩ := hc.2.2.2.2
          have xp := (lt2 x0 hc.2.1 hP).1
          have hb := gN_b hP xp hg
          have hg2 := gN_C hP xp hg g5
          refine countArguments_c hC P nn (σ2.2.2.1 39) ?_ (fun r46 q48 => ?_)
          · clear h; exact ⟨x0, hc.2.1, hP, by rw [rr 5 (by decide), rr 7 (by decide)]; exact hg2, hb.2, hb.1⟩  -- p56
          refine ⟨fun c49 => ?_, fun c49 => ?_⟩
          · skip
            refine hj74 _ _ _ _ ?_
            · clear h; refine ⟨g1, rfl, c13', er, k5', hc, g4, g5, fun f => ⟨g6 f, fr.1, fr.2, ?_⟩⟩
              have e26 : rd σ 26 r42 = r46 := by rw [rd, ← rr 26 (by decide)]; exact c49
              rw [e26, q48.2]; exact hg2
          · skip
            refine hj58 _ _ _ _ ?_
            · clear h; exact ⟨g1, rfl, c13', er, k5', hc, g4, g5⟩  -- k58
