set_option maxHeartbeats 1600000
/-! the reference: a whole text is read -/
abbrev pFF : List Nat := [10, 11, 12, 13, 15, 16, 17, 18, 19, 41, 42, 48, 49]
abbrev pRR : List Nat := [20, 21, 22, 23, 24, 25, 26, 27, 28, 29, 30, 31, 32, 33, 34, 35, 36, 38, 39, 43, 44, 45, 50, 51, 52]
abbrev qFF : List Nat := [3, 4, 10, 11, 12, 13, 15, 16, 17, 18, 19, 40, 41, 42, 46, 47, 48, 49]
abbrev qRR : List Nat := [5, 6, 7, 9, 20, 21, 22, 23, 24, 25, 26, 27, 28, 29, 30, 31, 32, 33, 34, 35, 36, 37, 38, 39, 43, 44, 45, 50, 51, 52]
/-- fields and rows, long ones of row 8 aside -/
def frH (F R : List Nat) (σ τ : rS) : Prop := (∀ k, k ∉ F → τ.1 k = σ.1 k) ∧ (∀ k, τ.2.1 k = σ.2.1 k) ∧ (∀ k, k ∉ R → τ.2.2.1 k = σ.2.2.1 k) ∧ (∀ k j, k ≠ 8 → τ.2.2.2 k j = σ.2.2.2 k j)
theorem frH_tr {F R : List Nat} {σ τ υ : rS} (h : frH F R σ τ) (g : frH F R τ υ) : frH F R σ υ := ⟨fun k z => (g.1 k z).trans (h.1 k z), fun k => (g.2.1 k).trans (h.2.1 k), fun k z => (g.2.2.1 k z).trans (h.2.2.1 k z), fun k j z => (g.2.2.2 k j z).trans (h.2.2.2 k j z)⟩
theorem frG_mono {F F' R R' : List Nat} {σ τ : rS} (h : frG F R σ τ) (hF : ∀ k, k ∈ F → k ∈ F') (hR : ∀ k, k ∈ R → k ∈ R') : frG F' R' σ τ := ⟨fun k z => h.1 k (fun e => z (hF k e)), h.2.1, fun k z => h.2.2.1 k (fun e => z (hR k e)), h.2.2.2⟩
theorem frH_G {F F' R R' : List Nat} {σ τ : rS} (h : frG F R σ τ) (hF : ∀ k, k ∈ F → k ∈ F') (hR : ∀ k, k ∈ R → k ∈ R') : frH F' R' σ τ := ⟨fun k z => h.1 k (fun e => z (hF k e)), h.2.1, fun k z => h.2.2.1 k (fun e => z (hR k e)), fun k j _ => h.2.2.2 k j⟩
/-- a program in order: its tokens from B to T -/
def progOK (σ : rS) (B T : Int32) : Prop := 0 ≤ B ∧ B ≤ T ∧ T < 131074 ∧ T.toInt - B.toInt ≤ 65536 ∧ rd σ 5 T = 5 ∧ stA σ B T ∧ 0 ≤ σ.1 40 ∧ σ.1 40 < σ.1 18 ∧ kAll σ σ T (σ.1 19) ∧ fA σ (σ.1 18) ∧ ∀ s : Int32, 0 ≤ s → s < σ.1 19 → rd σ 37 s < σ.1 19
/-- ranges that always hold of a program's tables -/
def tyAll (σ : rS) : Prop := tF σ ∧ tN σ ∧ tA σ ∧ tS σ ∧ eB (σ.2.2.1 37) (-1) 150
/-- while declarations are read -/
def dI (σ τ : rS) (B T : Int32) : Prop := frG pFF pRR σ τ ∧ p0 τ B T ∧ tS τ ∧ rHi (σ.2.2.1 39) (τ.2.2.1 39) T ∧ rLo (σ.2.2.1 39) (τ.2.2.1 39) B ∧ (τ.1 11 = 0 → τ.1 13 = 0 ∧ stA τ B (τ.1 10) ∧ fA τ (τ.1 18))
theorem dI_F {σ τ υ : rS} {B T : Int32} (h : dI σ τ B T) (f : fI τ υ B T) (ho : υ.1 11 = 0 → υ.1 13 = 0 ∧ fA υ (υ.1 18)) : dI σ υ B T := by
  obtain ⟨h1, h2, h3, h4, h5, h6⟩ := h
  obtain ⟨f1, f2, f3, f4, f5, f6⟩ := f
  exact ⟨frG_tr h1 (frG_mono f1 (by decide) (by decide)), f2, f3, rHi_tr h4 f4, rLo_tr h5 f5 (Int32.le_refl _), fun z => ⟨(ho z).1, (f6 z).2.1, (ho z).2⟩⟩
theorem dI_V {σ τ υ : rS} {B T : Int32} (h : dI σ τ B T) (hf : frG [10, 11, 12, 13, 15, 16, 17] [20, 21, 22, 23, 24] τ υ) (hT : tK υ B T) (hF : tF υ) (hN : tN υ) (hA : tA υ) (hl : υ.1 11 = 0 → τ.1 11 = 0 ∧ τ.1 10 ≤ υ.1 10 ∧ υ.1 13 = τ.1 13) : dI σ υ B T := by
  obtain ⟨h1, h2, h3, h4, h5, h6⟩ := h
  have hA2 := aI_at (aI_refl h2)
  have rr := hf.2.2.1
  have r39 := rr 39 (by decide)
  refine ⟨frG_tr h1 (frG_mono hf (by decide) (by decide)), ⟨hT, h2.2.1, hF, hN, hA, by rw [hf.1 46 (by decide)]; exact h2.2.2.2.2.2.1, by rw [hf.1 47 (by decide)]; exact h2.2.2.2.2.2.2⟩, ?_, by rw [r39]; exact h4, by rw [r39]; exact h5, fun f => ?_⟩
  · show tyS _ _ _ _ _ _ _ _
    rw [rr 29 (by decide), rr 33 (by decide), rr 34 (by decide), rr 35 (by decide), rr 36 (by decide), rr 38 (by decide), rr 43 (by decide), rr 44 (by decide)]
    exact h3
  · obtain ⟨l1, l2, l3⟩ := hl f
    obtain ⟨m1, m2, m3⟩ := h6 l1
    exact ⟨by rw [l3]; exact m1, stA_up h2.1.1 hA2.2.2.2.2 m2 (rr 5 (by decide)) (rr 7 (by decide)) (hf.1 19 (by decide)) ⟨rr 30 (by decide), rr 31 (by decide), rr 32 (by decide), rr 36 (by decide), rr 33 (by decide), rr 34 (by decide), rr 35 (by decide)⟩ (by rw [r39]; exact rLo_refl) l2, by rw [hf.1 18 (by decide)]; exact fA_lk m3 (lkF_o (rr 29 (by decide)) (hf.1 19 (by decide)))⟩
/-- where the reading of a text began -/
def LK (σ τ : rS) (B T : Int32) : Prop := frH qFF qRR σ τ ∧ τ.1 3 = B ∧ (B = 0 ∨ B = 65537) ∧ B ≠ σ.1 3 ∧ T ≤ B + 65536 ∧ τ.2.2.1 39 = σ.2.2.1 39 ∧ τ.2.2.1 37 = σ.2.2.1 37 ∧ (∀ k, (k = 5 ∨ k = 6 ∨ k = 7 ∨ k = 9) → ∀ t : Int32, 0 ≤ t → (t < B ∨ B + 65536 < t) → rd τ k t = rd σ k t)
theorem frH_si {σ : rS} {k : Nat} {x : Int32} (hk : k ∈ qFF) : frH qFF qRR σ (siU σ k x) := ⟨fun q z => if_neg (fun e => z (by rw [e]; exact hk)), fun _ => rfl, fun _ _ => rfl, fun _ _ _ => rfl⟩
theorem stA_C {σ τ : rS} {B P : Int32} (h0 : 0 ≤ B) (hP2 : P < 131074) (h : stA σ B P) (h5 : τ.2.2.1 5 = σ.2.2.1 5) (h7 : τ.2.2.1 7 = σ.2.2.1 7) (h19 : τ.1 19 = σ.1 19) (hr : τ.2.2.1 30 = σ.2.2.1 30 ∧ τ.2.2.1 31 = σ.2.2.1 31 ∧ τ.2.2.1 32 = σ.2.2.1 32 ∧ τ.2.2.1 36 = σ.2.2.1 36 ∧ τ.2.2.1 33 = σ.2.2.1 33 ∧ τ.2.2.1 34 = σ.2.2.1 34 ∧ τ.2.2.1 35 = σ.2.2.1 35) (hC : rC (σ.2.2.1 5) (σ.2.2.1 7) (σ.2.2.1 39) (τ.2.2.1 39)) : stA τ B P := by
  intro s hs0 hs1
  rw [h19] at hs1
  have := h s hs0 hs1
  simp only [rd] at this ⊢
  rw [h5, h7, hr.1, hr.2.1, hr.2.2.1, hr.2.2.2.1, h19]
  exact ⟨stK_C h0 hP2 this.1 hC, this.2.1, lkS_o this.2.2 hr.2.2.2.2.1 hr.2.2.2.2.2.1 hr.2.2.2.2.2.2⟩
theorem dI_all {σ τ υ : rS} {B T : Int32} (l : LK σ τ B T) (h : dI τ υ B T) (h37 : eB (σ.2.2.1 37) (-1) 150) : frH qFF qRR σ υ ∧ tyAll υ ∧ (υ.1 3 = 0 ∨ υ.1 3 = 65537) ∧ υ.1 3 ≠ σ.1 3 ∧ υ.1 3 = B ∧ (∀ k, (k = 5 ∨ k = 6 ∨ k = 7 ∨ k = 9 ∨ k = 39) → ∀ t : Int32, 0 ≤ t → (t < B ∨ B + 65536 < t) → rd υ k t = rd σ k t) := by
  obtain ⟨l1, l2, l3, l4, l5, l6, l7, l8⟩ := l
  obtain ⟨d1, d2, d3, d4, d5, d6⟩ := h
  have e3 : υ.1 3 = B := (d1.1 3 (by decide)).trans l2
  refine ⟨frH_tr l1 (frH_G d1 (by decide) (by decide)), ⟨d2.2.2.1, d2.2.2.2.1, d2.2.2.2.2.1, d3, ?_⟩, by rw [e3]; exact l3, by rw [e3]; exact l4, e3, fun k hk t ht hh => ?_⟩
  · rw [d1.2.2.1 37 (by decide), l7]; exact h37
  · rcases hk with rfl | rfl | rfl | rfl | rfl
    · rw [rd, d1.2.2.1 5 (by decide)]; exact l8 5 (by decide) t ht hh
    · rw [rd, d1.2.2.1 6 (by decide)]; exact l8 6 (by decide) t ht hh
    · rw [rd, d1.2.2.1 7 (by decide)]; exact l8 7 (by decide) t ht hh
    · rw [rd, d1.2.2.1 9 (by decide)]; exact l8 9 (by decide) t ht hh
    · have : rd υ 39 t = rd τ 39 t := by
        rcases hh with z | z
        · exact d5 t ht z
        · exact d4 t (Int32.lt_of_le_of_lt l5 z)
      rw [this, rd, l6]
theorem bk_bR9 {s t : Int32} (hs : s = 0 ∨ s = 65537) (h0 : 0 ≤ t) (h1 : t ≤ 65536) : 0 ≤ s ∧ s < 131074 ∧ s ≤ s + t ∧ s + t < 131074 ∧ s + t ≤ s + 65536 ∧ (s + t).toInt - s.toInt ≤ 65536 := by
  have hs0 : 0 ≤ s := by rcases hs with rfl | rfl <;> decide
  have hs1 : s.toInt ≤ 65537 := by rcases hs with rfl | rfl <;> decide
  have t1 := Int32.le_iff_toInt_le.mp h1
  rw [show (65536 : Int32).toInt = 65536 from rfl] at t1
  have e := i_add hs0 h0 (by omega)
  refine ⟨hs0, by rcases hs with rfl | rfl <;> decide, by clear t1 e hs1; grind, by clear t1 e hs1; grind, by clear t1 e hs1; grind, by rw [e]; omega⟩
theorem tellProgram_c {C : rCx} (hC : cOK C)  {σ : rS}  {Q : rS → Prop} (hp : (σ.1 3 = 0 ∨ σ.1 3 = 65537) ∧ 0 ≤ σ.1 2 ∧ σ.1 2 ≤ 65536 ∧ tyAll σ) (h : ∀ (σ' : rS), (frH qFF qRR σ σ' ∧ tyAll σ' ∧ (σ'.1 3 = 0 ∨ σ'.1 3 = 65537) ∧ σ'.1 3 ≠ σ.1 3 ∧ (∀ k, (k = 5 ∨ k = 6 ∨ k = 7 ∨ k = 9 ∨ k = 39) → ∀ t : Int32, 0 ≤ t → (t < σ'.1 3 ∨ σ'.1 3 + 65536 < t) → rd σ' k t = rd σ k t) ∧ (σ'.1 11 = 0 → ∃ T, progOK σ' (σ'.1 3) T) ∧ 0 ≤ σ'.1 11) → Q σ') : cV C 12 m_tellProgram [.ref (co C)] σ Q := by
  refine m_tellProgram_run hC ?_
  unfold w_tellProgram_0
  obtain ⟨hb, hs0, hs1, hF, hN, hA, hS, h37⟩ := hp
  have hj161 : ∀  (τ : rS), (∃ SS BB TT, LK σ SS BB TT ∧ dI SS τ BB TT) → w_tellProgram_161 C Q   τ := by
    rintro  τ161 j161
    unfold w_tellProgram_161
    obtain ⟨SS, BB, TT, lk, di⟩ := j161
    have dA := dI_all lk di h37
    refine isRight_c hC  (fun r1 q3 => ?_)
    refine ⟨fun c4 => ?_, fun c4 => ?_⟩
    · skip
      refine h _ ?_
      · clear h; refine ⟨dA.1, dA.2.1, dA.2.2.1, dA.2.2.2.1, by rw [dA.2.2.2.2.1]; exact dA.2.2.2.2.2, fun f => absurd c4 (q3.2.mpr f), di.2.1.1.2.2.2.1.2.1⟩  -- q1
    · skip
      have f := q3.2.mp c4
      have tk := di.2.1.1
      have TT2 : TT < 131074 := tk.2.2.1
      have st : stA τ161 BB TT := stA_up tk.1 (Int32.lt_of_le_of_lt tk.2.2.2.2.2 TT2) (di.2.2.2.2.2 f).2.1 rfl rfl rfl ⟨rfl, rfl, rfl, rfl, rfl, rfl, rfl⟩ rLo_refl tk.2.2.2.2.2
      refine lookAtCalls_c hC BB TT ?_ (fun σ_5 q6 => ?_)
      · clear h; exact ⟨dA.2.1.1, dA.2.1.2.1, dA.2.1.2.2.2.1, dA.2.1.2.2.2.2, st, tk.1, TT2, f⟩  -- p2
      refine h _ ?_
      · clear h; obtain ⟨r1, r2, r3, r4, r5, r6⟩ := q6
        have rr := r1.2.2.1
        have ff := r1.1
        have fH : frH qFF qRR τ161 σ_5 := ⟨fun k z => ff k (fun e => z (by rw [e]; decide)) (fun e => z (by rw [e]; decide)) (fun e => z (by rw [e]; decide)), r1.2.1, fun k z => rr k (fun e => z (by rw [e]; decide)) (fun e => z (by rw [e]; decide)), fun k j _ => r1.2.2.2.2 k j⟩
        have e3 : σ_5.1 3 = BB := (ff 3 (by decide) (by decide) (by decide)).trans dA.2.2.2.2.1
        refine ⟨frH_tr dA.1 fH, ⟨?_, ?_, ?_, ?_, r4.1⟩, by rw [e3, ← dA.2.2.2.2.1]; exact dA.2.2.1, by rw [e3, ← dA.2.2.2.2.1]; exact dA.2.2.2.1, ?_, fun f5 => ⟨TT, ?_⟩, r5.2⟩
        · show tyF _ _ _ _ _ _ _ _
          rw [ff 15 (by decide) (by decide) (by decide), ff 16 (by decide) (by decide) (by decide), ff 17 (by decide) (by decide) (by decide), ff 18 (by decide) (by decide) (by decide), ff 19 (by decide) (by decide) (by decide), ff 41 (by decide) (by decide) (by decide), ff 42 (by decide) (by decide) (by decide)]
          have t := dA.2.1.1
          clear dA di lk st r1 r4 r5 r6 rr ff fH hF hN hA hS h37 q3 tk
          grind [tyF]
        · show tyN _ _ _ _ _ _
          rw [rr 20 (by decide) (by decide), rr 22 (by decide) (by decide), rr 25 (by decide) (by decide), rr 28 (by decide) (by decide), rr 26 (by decide) (by decide), rr 27 (by decide) (by decide)]
          exact dA.2.1.2.1
        · show tyA _ _
          rw [rr 23 (by decide) (by decide), rr 24 (by decide) (by decide)]
          exact dA.2.1.2.2.1
        · show tyS _ _ _ _ _ _ _ _
          rw [rr 29 (by decide) (by decide), rr 33 (by decide) (by decide), rr 34 (by decide) (by decide), rr 35 (by decide) (by decide), rr 36 (by decide) (by decide), rr 38 (by decide) (by decide), rr 43 (by decide) (by decide), rr 44 (by decide) (by decide)]
          exact dA.2.1.2.2.2.1
        · intro k hk t ht hh
          rw [e3] at hh
          have base := dA.2.2.2.2.2 k hk t ht hh
          rcases hk with rfl | rfl | rfl | rfl | rfl
          · rw [rd, rr 5 (by decide) (by decide)]; exact base
          · rw [rd, rr 6 (by decide) (by decide)]; exact base
          · rw [rd, rr 7 (by decide) (by decide)]; exact base
          · rw [rd, rr 9 (by decide) (by decide)]; exact base
          · refine (r5.1 t ht ?_).trans base
            rcases hh with z | z
            · exact Or.inl z
            · exact Or.inr (Int32.le_of_lt (Int32.lt_of_le_of_lt lk.2.2.2.2.1 z))
        · obtain ⟨w1, w2, w3, w4⟩ := r6 f5
          rw [e3]
          refine ⟨tk.1, tk.2.1, tk.2.2.1, di.2.1.2.1, by rw [rd, rr 5 (by decide) (by decide)]; exact tk.2.2.2.1.1, ?_, w2, by rw [ff 18 (by decide) (by decide) (by decide)]; exact w3, ?_, by rw [ff 18 (by decide) (by decide) (by decide)]; exact fA_lk (di.2.2.2.2.2 f).2.2 (lkF_o (rr 29 (by decide) (by decide)) (ff 19 (by decide) (by decide) (by decide))), by rw [ff 19 (by decide) (by decide) (by decide)]; exact r4.2⟩
          · exact stA_C tk.1 TT2 st (rr 5 (by decide) (by decide)) (rr 7 (by decide) (by decide)) (ff 19 (by decide) (by decide) (by decide)) ⟨rr 30 (by decide) (by decide), rr 31 (by decide) (by decide), rr 32 (by decide) (by decide), rr 36 (by decide) (by decide), rr 33 (by decide) (by decide), rr 34 (by decide) (by decide), rr 35 (by decide) (by decide)⟩ w1
          · intro s s0 s1 s5
            rw [ff 19 (by decide) (by decide) (by decide)] at s1
            rw [rd, rr 30 (by decide) (by decide)] at s5
            have := w4 s s0 s1 s5
            simp only [rd] at this ⊢
            rw [rr 5 (by decide) (by decide), rr 7 (by decide) (by decide), rr 26 (by decide) (by decide), rr 32 (by decide) (by decide), ff 18 (by decide) (by decide) (by decide)]
            exact this
  have hj65 : ∀ (s1 : Int32) (τ : rS), (frH qFF qRR σ τ ∧ τ.2 = σ.2 ∧ (s1 = 0 ∨ s1 = 65537) ∧ s1 ≠ σ.1 3 ∧ τ.1 11 = 0 ∧ τ.1 13 = 0 ∧ τ.1 46 = 0 ∧ τ.1 47 = 0 ∧ τ.1 19 = 0 ∧ tF τ ∧ τ.1 18 = 0) → w_tellProgram_65 C Q  s1 τ := by
    rintro y65_s1 τ65 j65
    unfold w_tellProgram_65
    intro σ_7 hσ_7
    obtain ⟨j1, j2, j3, j4, j5, j6, j7, j8, j9, j10, j11⟩ := j65
    have e7 : ∀ k, k ≠ 3 → σ_7.1 k = τ65.1 k := fun k hk => by rw [hσ_7, si1, if_neg hk]
    have e73 : σ_7.1 3 = y65_s1 := by rw [hσ_7, si1, if_pos rfl]
    have s7 : σ_7.2 = σ.2 := by rw [hσ_7, si2]; exact j2
    have e2 : σ_7.1 2 = σ.1 2 := (e7 2 (by decide)).trans (j1.1 2 (by decide))
    refine cutTape_c hC  ?_ (fun σ_8 q9 => ?_)
    · clear h; exact ⟨by rw [e73]; exact j3, by rw [e2]; exact hs0, by rw [e2]; exact hs1⟩  -- p4
    intro σ_10 hσ_10
    obtain ⟨t1, t2, t3, t4, t5⟩ := q9
    rw [e73] at t2 t5
    have bk := bk_bR9 j3 t3 t4
    have e10 : ∀ k, k ≠ 10 → σ_10.1 k = σ_8.1 k := fun k hk => by rw [hσ_10, si1, if_neg hk]
    have e83 : σ_8.1 3 = y65_s1 := (t1.1 3 (by decide)).trans e73
    have e1010 : σ_10.1 10 = y65_s1 := by rw [hσ_10, si1, if_pos rfl, e83]
    have s10 : σ_10.2 = σ_8.2 := by rw [hσ_10, si2]
    refine readNext_c hC  ?_ (fun σ_11 q12 => ?_)
    · clear h; rw [e1010]; exact ⟨bk.1, bk.2.1⟩  -- p5
    have fz : ∀ k, k ≠ 3 → k ≠ 4 → k ≠ 10 → k ≠ 11 → k ≠ 12 → σ_11.1 k = τ65.1 k := fun k z1 z2 z3 z4 z5 => (q12.1.1 k z4 z5).trans ((e10 k z3).trans ((t1.1 k z2).trans (e7 k z1)))
    have s11 : σ_11.2 = σ_8.2 := q12.1.2.trans s10
    have rz : ∀ k, k ≠ 5 → k ≠ 6 → k ≠ 7 → k ≠ 9 → σ_11.2.2.1 k = σ.2.2.1 k := fun k z1 z2 z3 z4 => by rw [s11, t1.2.2.1 k z1 z2 z3 z4, s7]
    have e3' : σ_11.1 3 = y65_s1 := (q12.1.1 3 (by decide) (by decide)).trans ((e10 3 (by decide)).trans e83)
    have at11 : σ_11.1 10 = y65_s1 := (q12.1.1 10 (by decide) (by decide)).trans e1010
    have lk : LK σ σ_11 y65_s1 (y65_s1 + σ_8.1 4) := by
      refine ⟨?_, e3', j3, j4, bk.2.2.2.2.1, rz 39 (by decide) (by decide) (by decide) (by decide), rz 37 (by decide) (by decide) (by decide) (by decide), fun k hk t ht hh => ?_⟩
      · have u1 : frH qFF qRR τ65 σ_7 := by rw [hσ_7]; exact frH_si (by decide)
        have u2 : frH qFF qRR σ_7 σ_8 := ⟨fun k z => t1.1 k (fun e => z (by rw [e]; decide)), t1.2.1, fun k z => t1.2.2.1 k (fun e => z (by rw [e]; decide)) (fun e => z (by rw [e]; decide)) (fun e => z (by rw [e]; decide)) (fun e => z (by rw [e]; decide)), t1.2.2.2.2⟩
        have u3 : frH qFF qRR σ_8 σ_10 := by rw [hσ_10]; exact frH_si (by decide)
        have u4 : frH qFF qRR σ_10 σ_11 := ⟨fun k z => q12.1.1 k (fun e => z (by rw [e]; decide)) (fun e => z (by rw [e]; decide)), fun k => by rw [q12.1.2], fun k _ => by rw [q12.1.2], fun k j _ => by rw [q12.1.2]⟩
        exact frH_tr j1 (frH_tr u1 (frH_tr u2 (frH_tr u3 u4)))
      · have z := t2.1 k t ht hh
        simp only [rd] at z ⊢
        rw [s11, z, s7]
    unfold w_tellProgram_84
    refine ⟨fun n  τ => n = eMs (τ.1 11) 0 0 (τ.1 10) (y65_s1 + σ_8.1 4) ∧ (dI σ_11 τ y65_s1 (y65_s1 + σ_8.1 4)), ⟨_, rfl, ?_⟩, ?_⟩
    · clear h; refine ⟨frG_refl, ⟨⟨bk.1, bk.2.2.1, bk.2.2.2.1, ⟨by rw [rd, s11]; exact t5, q12.2.2.2 (by rw [e10 11 (by decide), t1.1 11 (by decide), e7 11 (by decide), j5]; decide), by rw [fz 47 (by decide) (by decide) (by decide) (by decide) (by decide), j8]; decide⟩, by rw [at11]; exact Int32.le_refl _, by rw [at11]; exact bk.2.2.1⟩, bk.2.2.2.2.2, ?_, ?_, ?_, (fz 46 (by decide) (by decide) (by decide) (by decide) (by decide)).trans j7, (fz 47 (by decide) (by decide) (by decide) (by decide) (by decide)).trans j8⟩, ?_, rHi_refl, rLo_refl, fun f => ⟨(fz 13 (by decide) (by decide) (by decide) (by decide) (by decide)).trans j6, fun s s0 s1 => ?_, fun s s0 s1 => ?_⟩⟩
      · show tyF _ _ _ _ _ _ _ _
        rw [fz 15 (by decide) (by decide) (by decide) (by decide) (by decide), fz 16 (by decide) (by decide) (by decide) (by decide) (by decide), fz 17 (by decide) (by decide) (by decide) (by decide) (by decide), fz 18 (by decide) (by decide) (by decide) (by decide) (by decide), fz 19 (by decide) (by decide) (by decide) (by decide) (by decide), fz 40 (by decide) (by decide) (by decide) (by decide) (by decide), fz 41 (by decide) (by decide) (by decide) (by decide) (by decide), fz 42 (by decide) (by decide) (by decide) (by decide) (by decide)]
        exact j10
      · show tyN _ _ _ _ _ _
        rw [rz 20 (by decide) (by decide) (by decide) (by decide), rz 22 (by decide) (by decide) (by decide) (by decide), rz 25 (by decide) (by decide) (by decide) (by decide), rz 28 (by decide) (by decide) (by decide) (by decide), rz 26 (by decide) (by decide) (by decide) (by decide), rz 27 (by decide) (by decide) (by decide) (by decide)]
        exact hN
      · show tyA _ _
        rw [rz 23 (by decide) (by decide) (by decide) (by decide), rz 24 (by decide) (by decide) (by decide) (by decide)]
        exact hA
      · show tyS _ _ _ _ _ _ _ _
        rw [rz 29 (by decide) (by decide) (by decide) (by decide), rz 33 (by decide) (by decide) (by decide) (by decide), rz 34 (by decide) (by decide) (by decide) (by decide), rz 35 (by decide) (by decide) (by decide) (by decide), rz 36 (by decide) (by decide) (by decide) (by decide), rz 38 (by decide) (by decide) (by decide) (by decide), rz 43 (by decide) (by decide) (by decide) (by decide), rz 44 (by decide) (by decide) (by decide) (by decide)]
        exact hS
      · rw [fz 19 (by decide) (by decide) (by decide) (by decide) (by decide), j9] at s1
        exact absurd s1 (Int32.not_lt.mpr s0)
      · rw [fz 18 (by decide) (by decide) (by decide) (by decide) (by decide), j11] at s1
        exact absurd s1 (Int32.not_lt.mpr s0)
    rintro n84  σ84 ⟨hn84, i84⟩
    refine isRight_c hC  (fun r13 q15 => ?_)
    refine ⟨fun c16 => ?_, fun c16 => ?_⟩
    · skip
      refine hj161 _ ?_
      · clear h; exact ⟨σ_11, y65_s1, _, lk, i84⟩  -- k7
    · skip
      refine ⟨ib_131074.mpr ?_, ?_⟩
      · clear h; exact (aI_at (aI_refl i84.2.1)).2.2.2  -- b8
      refine ⟨fun c17 => ?_, fun c17 => ?_⟩
      · skip
        refine hj161 _ ?_
        · clear h; exact ⟨σ_11, y65_s1, _, lk, i84⟩  -- k9
      · skip
        have f := q15.2.mp c16
        have hA4 := aI_at (aI_refl i84.2.1)
        refine isWord_c hC  ?_ (fun r18 q20 => ?_)
        · clear h; exact hA4.2.2.2  -- p10
        refine ⟨fun c21 => ?_, fun c21 => ?_⟩
        · skip
          refine isWord_c hC  ?_ (fun r22 q24 => ?_)
          · clear h; exact hA4.2.2.2  -- p11
          refine ⟨fun c25 => ?_, fun c25 => ?_⟩
          · skip
            refine isWord_c hC  ?_ (fun r26 q28 => ?_)
            · clear h; exact hA4.2.2.2  -- p12
            refine ⟨fun c29 => ?_, fun c29 => ?_⟩
            · skip
              refine flaw_c hC  ?_ (fun σ_30 q31 => ?_)
              · clear h; exact ⟨hA4.2.2.2.1, hA4.2.2.2.2, by decide⟩  -- p13
              refine ⟨_, ?_, rfl, ?_⟩
              · clear h; show eMs (σ_30.1 11) 0 0 (σ_30.1 10) (y65_s1 + σ_8.1 4) < n84
                rw [hn84, f]
                exact eMs_lt (by decide) (fun f1 _ _ => absurd f1 q31.2.2.1) hA4.2.2.2.1 (by rw [q31.1.1 10 (by decide) (by decide)]; exact i84.2.1.1.2.2.2.2.2)
              · clear h; have a := aI_flaw (aI_refl i84.2.1) q31
                exact dI_V i84 ⟨fun k z => q31.1.1 k (fun e => z (by rw [e]; decide)) (fun e => z (by rw [e]; decide)), fun k => by rw [q31.1.2], fun k _ => by rw [q31.1.2], fun k j => by rw [q31.1.2]⟩ a.1.2.1.1 a.1.2.1.2.2.1 a.1.2.1.2.2.2.1 a.1.2.1.2.2.2.2.1 (fun f' => absurd f' q31.2.2.1)
            · skip
              refine tellFunc_c hC y65_s1 (y65_s1 + σ_8.1 4) ?_ (fun σ_32 q33 => ?_)
              · clear h; exact ⟨i84.2.1, i84.2.2.1, f, (i84.2.2.2.2.2 f).1, (i84.2.2.2.2.2 f).2.1, c17, (i84.2.2.2.2.2 f).2.2⟩  -- p16
              refine ⟨_, ?_, rfl, ?_⟩
              · clear h; show eMs (σ_32.1 11) 0 0 (σ_32.1 10) (y65_s1 + σ_8.1 4) < n84
                rw [hn84, f]
                exact eMs_lt (by decide) (fun f' _ _ => (q33.1.2.2.2.2.2 f').1) hA4.2.2.2.1 q33.1.2.1.1.2.2.2.2.2
              · clear h; exact dI_F i84 q33.1 q33.2  -- i18
          · skip
            refine tellArr_c hC y65_s1 (y65_s1 + σ_8.1 4) ?_ (fun σ_34 q35 => ?_)
            · clear h; exact ⟨i84.2.1.1, i84.2.1.2.2.1, i84.2.1.2.2.2.1, i84.2.1.2.2.2.2.1, c17⟩  -- p19
            refine ⟨_, ?_, rfl, ?_⟩
            · clear h; show eMs (σ_34.1 11) 0 0 (σ_34.1 10) (y65_s1 + σ_8.1 4) < n84
              rw [hn84, f]
              exact eMs_lt (by decide) (fun f' _ _ => (q35.2.2.2.2.2 f').2.1) hA4.2.2.2.1 q35.2.1.2.2.2.2.2
            · clear h; exact dI_V i84 ⟨fun k z => q35.1.1 k (fun e => z (by rw [e]; decide)) (fun e => z (by rw [e]; decide)) (fun e => z (by rw [e]; decide)) (fun e => z (by rw [e]; decide)) (fun e => z (by rw [e]; decide)) (fun e => z (by rw [e]; decide)), q35.1.2.1, fun k z => q35.1.2.2.1 k (fun e => z (by rw [e]; decide)) (fun e => z (by rw [e]; decide)) (fun e => z (by rw [e]; decide)), q35.1.2.2.2.2⟩ q35.2.1 q35.2.2.1 q35.2.2.2.1 q35.2.2.2.2.1 (fun f' => ⟨(q35.2.2.2.2.2 f').1, Int32.le_of_lt (q35.2.2.2.2.2 f').2.1, (q35.2.2.2.2.2 f').2.2⟩)  -- i21
        · skip
          refine tellVar_c hC y65_s1 (y65_s1 + σ_8.1 4) ?_ (fun σ_36 q37 => ?_)
          · clear h; exact ⟨i84.2.1.1, i84.2.1.2.2.1, i84.2.1.2.2.2.1, c17⟩  -- p22
          refine ⟨_, ?_, rfl, ?_⟩
          · clear h; show eMs (σ_36.1 11) 0 0 (σ_36.1 10) (y65_s1 + σ_8.1 4) < n84
            rw [hn84, f]
            exact eMs_lt (by decide) (fun f' _ _ => (q37.2.2.2.2 f').2) hA4.2.2.2.1 q37.2.1.2.2.2.2.2
          · clear h; have ta : tA σ_36 := by
              show tyA _ _
              rw [q37.1.2.2.1 23 (by decide) (by decide), q37.1.2.2.1 24 (by decide) (by decide)]
              exact i84.2.1.2.2.2.2.1
            exact dI_V i84 ⟨fun k z => q37.1.1 k (fun e => z (by rw [e]; decide)) (fun e => z (by rw [e]; decide)) (fun e => z (by rw [e]; decide)) (fun e => z (by rw [e]; decide)), q37.1.2.1, fun k z => q37.1.2.2.1 k (fun e => z (by rw [e]; decide)) (fun e => z (by rw [e]; decide)), q37.1.2.2.2.2⟩ q37.2.1 q37.2.2.1 q37.2.2.2.1 ta (fun f' => ⟨(q37.2.2.2.2 f').1, Int32.le_of_lt (q37.2.2.2.2 f').2, q37.1.1 13 (by decide) (by decide) (by decide) (by decide)⟩)
  intro σ_38 hσ_38
  intro σ_39 hσ_39
  intro σ_40 hσ_40
  intro σ_41 hσ_41
  intro σ_42 hσ_42
  intro σ_43 hσ_43
  intro σ_44 hσ_44
  intro σ_45 hσ_45
  intro σ_46 hσ_46
  intro σ_47 hσ_47
  refine ⟨fun c48 => ?_, fun c48 => ?_⟩
  · skip
    refine hj65 _ _ ?_
    · clear h; have fr : frH qFF qRR σ σ_47 := frH_tr (frH_tr (frH_tr (frH_tr (frH_tr (frH_tr (frH_tr (frH_tr (frH_tr (by rw [hσ_38]; exact frH_si (by decide) : frH qFF qRR σ σ_38) (by rw [hσ_39]; exact frH_si (by decide) : frH qFF qRR σ_38 σ_39)) (by rw [hσ_40]; exact frH_si (by decide) : frH qFF qRR σ_39 σ_40)) (by rw [hσ_41]; exact frH_si (by decide) : frH qFF qRR σ_40 σ_41)) (by rw [hσ_42]; exact frH_si (by decide) : frH qFF qRR σ_41 σ_42)) (by rw [hσ_43]; exact frH_si (by decide) : frH qFF qRR σ_42 σ_43)) (by rw [hσ_44]; exact frH_si (by decide) : frH qFF qRR σ_43 σ_44)) (by rw [hσ_45]; exact frH_si (by decide) : frH qFF qRR σ_44 σ_45)) (by rw [hσ_46]; exact frH_si (by decide) : frH qFF qRR σ_45 σ_46)) (by rw [hσ_47]; exact frH_si (by decide) : frH qFF qRR σ_46 σ_47)
      have s47 : σ_47.2 = σ.2 := by rw [hσ_47, si2, hσ_46, si2, hσ_45, si2, hσ_44, si2, hσ_43, si2, hσ_42, si2, hσ_41, si2, hσ_40, si2, hσ_39, si2, hσ_38, si2]
      have v11 : σ_47.1 11 = 0 := by rw [hσ_47, si1, if_neg (by decide), hσ_46, si1, if_neg (by decide), hσ_45, si1, if_neg (by decide), hσ_44, si1, if_neg (by decide), hσ_43, si1, if_neg (by decide), hσ_42, si1, if_neg (by decide), hσ_41, si1, if_neg (by decide), hσ_40, si1, if_pos rfl]
      have v13 : σ_47.1 13 = 0 := by rw [hσ_47, si1, if_neg (by decide), hσ_46, si1, if_neg (by decide), hσ_45, si1, if_neg (by decide), hσ_44, si1, if_neg (by decide), hσ_43, si1, if_neg (by decide), hσ_42, si1, if_pos rfl]
      have v46 : σ_47.1 46 = 0 := by rw [hσ_47, si1, if_neg (by decide), hσ_46, si1, if_neg (by decide), hσ_45, si1, if_neg (by decide), hσ_44, si1, if_neg (by decide), hσ_43, si1, if_neg (by decide), hσ_42, si1, if_neg (by decide), hσ_41, si1, if_neg (by decide), hσ_40, si1, if_neg (by decide), hσ_39, si1, if_neg (by decide), hσ_38, si1, if_pos rfl]
      have v47 : σ_47.1 47 = 0 := by rw [hσ_47, si1, if_neg (by decide), hσ_46, si1, if_neg (by decide), hσ_45, si1, if_neg (by decide), hσ_44, si1, if_neg (by decide), hσ_43, si1, if_neg (by decide), hσ_42, si1, if_neg (by decide), hσ_41, si1, if_neg (by decide), hσ_40, si1, if_neg (by decide), hσ_39, si1, if_pos rfl]
      have v15 : σ_47.1 15 = 0 := by rw [hσ_47, si1, if_neg (by decide), hσ_46, si1, if_neg (by decide), hσ_45, si1, if_neg (by decide), hσ_44, si1, if_neg (by decide), hσ_43, si1, if_pos rfl]
      have v16 : σ_47.1 16 = 0 := by rw [hσ_47, si1, if_neg (by decide), hσ_46, si1, if_neg (by decide), hσ_45, si1, if_neg (by decide), hσ_44, si1, if_pos rfl]
      have v17 : σ_47.1 17 = 0 := by rw [hσ_47, si1, if_neg (by decide), hσ_46, si1, if_neg (by decide), hσ_45, si1, if_pos rfl]
      have v18 : σ_47.1 18 = 0 := by rw [hσ_47, si1, if_neg (by decide), hσ_46, si1, if_pos rfl]
      have v19 : σ_47.1 19 = 0 := by rw [hσ_47, si1, if_pos rfl]
      have v40 : σ_47.1 40 = σ.1 40 := by rw [hσ_47, si1, if_neg (by decide), hσ_46, si1, if_neg (by decide), hσ_45, si1, if_neg (by decide), hσ_44, si1, if_neg (by decide), hσ_43, si1, if_neg (by decide), hσ_42, si1, if_neg (by decide), hσ_41, si1, if_neg (by decide), hσ_40, si1, if_neg (by decide), hσ_39, si1, if_neg (by decide), hσ_38, si1, if_neg (by decide)]
      have v41 : σ_47.1 41 = σ.1 41 := by rw [hσ_47, si1, if_neg (by decide), hσ_46, si1, if_neg (by decide), hσ_45, si1, if_neg (by decide), hσ_44, si1, if_neg (by decide), hσ_43, si1, if_neg (by decide), hσ_42, si1, if_neg (by decide), hσ_41, si1, if_neg (by decide), hσ_40, si1, if_neg (by decide), hσ_39, si1, if_neg (by decide), hσ_38, si1, if_neg (by decide)]
      have v42 : σ_47.1 42 = σ.1 42 := by rw [hσ_47, si1, if_neg (by decide), hσ_46, si1, if_neg (by decide), hσ_45, si1, if_neg (by decide), hσ_44, si1, if_neg (by decide), hσ_43, si1, if_neg (by decide), hσ_42, si1, if_neg (by decide), hσ_41, si1, if_neg (by decide), hσ_40, si1, if_neg (by decide), hσ_39, si1, if_neg (by decide), hσ_38, si1, if_neg (by decide)]
      have v3 : σ_47.1 3 = σ.1 3 := by rw [hσ_47, si1, if_neg (by decide), hσ_46, si1, if_neg (by decide), hσ_45, si1, if_neg (by decide), hσ_44, si1, if_neg (by decide), hσ_43, si1, if_neg (by decide), hσ_42, si1, if_neg (by decide), hσ_41, si1, if_neg (by decide), hσ_40, si1, if_neg (by decide), hσ_39, si1, if_neg (by decide), hσ_38, si1, if_neg (by decide)]
      have tf : tF σ_47 := by
        show tyF _ _ _ _ _ _ _ _
        rw [v15, v16, v17, v18, v19, v40, v41, v42]
        clear fr hS hN hA h37
        clear hσ_38 hσ_39 hσ_40 hσ_41 hσ_42 hσ_43 hσ_44 hσ_45 hσ_46 hσ_47
        grind [tyF]
      refine ⟨fr, s47, Or.inl rfl, ?_, v11, v13, v46, v47, v19, tf, v18⟩
      rw [v3] at c48
      exact fun e => c48 e.symm
  · skip
    refine hj65 _ _ ?_
    · clear h; have fr : frH qFF qRR σ σ_47 := frH_tr (frH_tr (frH_tr (frH_tr (frH_tr (frH_tr (frH_tr (frH_tr (frH_tr (by rw [hσ_38]; exact frH_si (by decide) : frH qFF qRR σ σ_38) (by rw [hσ_39]; exact frH_si (by decide) : frH qFF qRR σ_38 σ_39)) (by rw [hσ_40]; exact frH_si (by decide) : frH qFF qRR σ_39 σ_40)) (by rw [hσ_41]; exact frH_si (by decide) : frH qFF qRR σ_40 σ_41)) (by rw [hσ_42]; exact frH_si (by decide) : frH qFF qRR σ_41 σ_42)) (by rw [hσ_43]; exact frH_si (by decide) : frH qFF qRR σ_42 σ_43)) (by rw [hσ_44]; exact frH_si (by decide) : frH qFF qRR σ_43 σ_44)) (by rw [hσ_45]; exact frH_si (by decide) : frH qFF qRR σ_44 σ_45)) (by rw [hσ_46]; exact frH_si (by decide) : frH qFF qRR σ_45 σ_46)) (by rw [hσ_47]; exact frH_si (by decide) : frH qFF qRR σ_46 σ_47)
      have s47 : σ_47.2 = σ.2 := by rw [hσ_47, si2, hσ_46, si2, hσ_45, si2, hσ_44, si2, hσ_43, si2, hσ_42, si2, hσ_41, si2, hσ_40, si2, hσ_39, si2, hσ_38, si2]
      have v11 : σ_47.1 11 = 0 := by rw [hσ_47, si1, if_neg (by decide), hσ_46, si1, if_neg (by decide), hσ_45, si1, if_neg (by decide), hσ_44, si1, if_neg (by decide), hσ_43, si1, if_neg (by decide), hσ_42, si1, if_neg (by decide), hσ_41, si1, if_neg (by decide), hσ_40, si1, if_pos rfl]
      have v13 : σ_47.1 13 = 0 := by rw [hσ_47, si1, if_neg (by decide), hσ_46, si1, if_neg (by decide), hσ_45, si1, if_neg (by decide), hσ_44, si1, if_neg (by decide), hσ_43, si1, if_neg (by decide), hσ_42, si1, if_pos rfl]
      have v46 : σ_47.1 46 = 0 := by rw [hσ_47, si1, if_neg (by decide), hσ_46, si1, if_neg (by decide), hσ_45, si1, if_neg (by decide), hσ_44, si1, if_neg (by decide), hσ_43, si1, if_neg (by decide), hσ_42, si1, if_neg (by decide), hσ_41, si1, if_neg (by decide), hσ_40, si1, if_neg (by decide), hσ_39, si1, if_neg (by decide), hσ_38, si1, if_pos rfl]
      have v47 : σ_47.1 47 = 0 := by rw [hσ_47, si1, if_neg (by decide), hσ_46, si1, if_neg (by decide), hσ_45, si1, if_neg (by decide), hσ_44, si1, if_neg (by decide), hσ_43, si1, if_neg (by decide), hσ_42, si1, if_neg (by decide), hσ_41, si1, if_neg (by decide), hσ_40, si1, if_neg (by decide), hσ_39, si1, if_pos rfl]
      have v15 : σ_47.1 15 = 0 := by rw [hσ_47, si1, if_neg (by decide), hσ_46, si1, if_neg (by decide), hσ_45, si1, if_neg (by decide), hσ_44, si1, if_neg (by decide), hσ_43, si1, if_pos rfl]
      have v16 : σ_47.1 16 = 0 := by rw [hσ_47, si1, if_neg (by decide), hσ_46, si1, if_neg (by decide), hσ_45, si1, if_neg (by decide), hσ_44, si1, if_pos rfl]
      have v17 : σ_47.1 17 = 0 := by rw [hσ_47, si1, if_neg (by decide), hσ_46, si1, if_neg (by decide), hσ_45, si1, if_pos rfl]
      have v18 : σ_47.1 18 = 0 := by rw [hσ_47, si1, if_neg (by decide), hσ_46, si1, if_pos rfl]
      have v19 : σ_47.1 19 = 0 := by rw [hσ_47, si1, if_pos rfl]
      have v40 : σ_47.1 40 = σ.1 40 := by rw [hσ_47, si1, if_neg (by decide), hσ_46, si1, if_neg (by decide), hσ_45, si1, if_neg (by decide), hσ_44, si1, if_neg (by decide), hσ_43, si1, if_neg (by decide), hσ_42, si1, if_neg (by decide), hσ_41, si1, if_neg (by decide), hσ_40, si1, if_neg (by decide), hσ_39, si1, if_neg (by decide), hσ_38, si1, if_neg (by decide)]
      have v41 : σ_47.1 41 = σ.1 41 := by rw [hσ_47, si1, if_neg (by decide), hσ_46, si1, if_neg (by decide), hσ_45, si1, if_neg (by decide), hσ_44, si1, if_neg (by decide), hσ_43, si1, if_neg (by decide), hσ_42, si1, if_neg (by decide), hσ_41, si1, if_neg (by decide), hσ_40, si1, if_neg (by decide), hσ_39, si1, if_neg (by decide), hσ_38, si1, if_neg (by decide)]
      have v42 : σ_47.1 42 = σ.1 42 := by rw [hσ_47, si1, if_neg (by decide), hσ_46, si1, if_neg (by decide), hσ_45, si1, if_neg (by decide), hσ_44, si1, if_neg (by decide), hσ_43, si1, if_neg (by decide), hσ_42, si1, if_neg (by decide), hσ_41, si1, if_neg (by decide), hσ_40, si1, if_neg (by decide), hσ_39, si1, if_neg (by decide), hσ_38, si1, if_neg (by decide)]
      have v3 : σ_47.1 3 = σ.1 3 := by rw [hσ_47, si1, if_neg (by decide), hσ_46, si1, if_neg (by decide), hσ_45, si1, if_neg (by decide), hσ_44, si1, if_neg (by decide), hσ_43, si1, if_neg (by decide), hσ_42, si1, if_neg (by decide), hσ_41, si1, if_neg (by decide), hσ_40, si1, if_neg (by decide), hσ_39, si1, if_neg (by decide), hσ_38, si1, if_neg (by decide)]
      have tf : tF σ_47 := by
        show tyF _ _ _ _ _ _ _ _
        rw [v15, v16, v17, v18, v19, v40, v41, v42]
        clear fr hS hN hA h37
        clear hσ_38 hσ_39 hσ_40 hσ_41 hσ_42 hσ_43 hσ_44 hσ_45 hσ_46 hσ_47
        grind [tyF]
      refine ⟨fr, s47, Or.inr rfl, ?_, v11, v13, v46, v47, v19, tf, v18⟩
      rw [v3] at c48
      rw [c48]; decide
