set_option maxHeartbeats 1600000
/-! the reference: the tape, cut into tokens -/
/-- only the entries at a place differ -/
def onlyAt (t : Int32) (σ σ' : rS) : Prop := (∀ r j, j ≠ t.toNatClampNeg → σ'.2.2.1 r j = σ.2.2.1 r j) ∧ (∀ r j, j ≠ t.toNatClampNeg → σ'.2.2.2 r j = σ.2.2.2 r j)
/-- the entries outside of a text's own place are the same -/
def outB (b : Int32) (σ σ' : rS) : Prop := (∀ r (j : Int32), 0 ≤ j → (j < b ∨ b + 65536 < j) → rd σ' r j = rd σ r j) ∧ (∀ r (j : Int32), 0 ≤ j → (j < b ∨ b + 65536 < j) → σ'.2.2.2 r j.toNatClampNeg = σ.2.2.2 r j.toNatClampNeg)
theorem oa_ri {σ : rS} {r : Nat} {t x : Int32} : onlyAt t σ (riU σ r t.toNatClampNeg x) := by
  refine ⟨fun q j hj => ?_, fun q j hj => rfl⟩
  by_cases h : q = r
  · subst h; rw [ri4, if_neg hj]
  · rw [ri3 h]
theorem oa_rl {σ : rS} {r : Nat} {t : Int32} {x : Int64} : onlyAt t σ (rlU σ r t.toNatClampNeg x) := by
  refine ⟨fun q j hj => rfl, fun q j hj => ?_⟩
  by_cases h : q = r
  · subst h; rw [rl5, if_neg hj]
  · rw [rl4 h]
theorem oa_tr {t : Int32} {a b c : rS} (h1 : onlyAt t a b) (h2 : onlyAt t b c) : onlyAt t a c := ⟨fun r j hj => (h2.1 r j hj).trans (h1.1 r j hj), fun r j hj => (h2.2 r j hj).trans (h1.2 r j hj)⟩
theorem oa_refl {t : Int32} {a : rS} : onlyAt t a a := ⟨fun _ _ _ => rfl, fun _ _ _ => rfl⟩
theorem ob_refl {t : Int32} {a : rS} : outB t a a := ⟨fun _ _ _ _ => rfl, fun _ _ _ _ => rfl⟩
theorem ob_tr {t : Int32} {a b c : rS} (h1 : outB t a b) (h2 : outB t b c) : outB t a c := ⟨fun r j h0 hj => (h2.1 r j h0 hj).trans (h1.1 r j h0 hj), fun r j h0 hj => (h2.2 r j h0 hj).trans (h1.2 r j h0 hj)⟩
theorem ob_oa {t b : Int32} {σ τ : rS} (h : onlyAt t σ τ) (h0 : 0 ≤ t) (h1 : b ≤ t) (h2 : t ≤ b + 65536) : outB b σ τ :=
  ⟨fun r j hj0 hj => h.1 r _ (fun e => by have := cn_inj hj0 h0 e; grind), fun r j hj0 hj => h.2 r _ (fun e => by have := cn_inj hj0 h0 e; grind)⟩
theorem ob_si {b : Int32} {σ : rS} {k : Nat} {x : Int32} : outB b σ (siU σ k x) := ⟨fun _ _ _ _ => rfl, fun _ _ _ _ => rfl⟩
theorem ob_ri {t b : Int32} {σ τ : rS} {r : Nat} {x : Int32} (h : outB b σ τ) (h0 : 0 ≤ t) (h1 : b ≤ t) (h2 : t ≤ b + 65536) : outB b σ (riU τ r t.toNatClampNeg x) := ob_tr h (ob_oa oa_ri h0 h1 h2)
theorem ob_si2 {b : Int32} {σ τ : rS} {k : Nat} {x : Int32} (h : outB b σ τ) : outB b σ (siU τ k x) := ob_tr h ob_si
theorem ob_only {t b : Int32} {σ τ υ : rS} (h : outB b σ τ) (ho : onlyAt t τ υ) (h0 : 0 ≤ t) (h1 : b ≤ t) (h2 : t ≤ b + 65536) : outB b σ υ := ob_tr h (ob_oa ho h0 h1 h2)
theorem vb5 : vp_nar .byte (5 : Int32) = 5 := by decide
theorem word_c {C : rCx} (hC : cOK C)  {σ : rS} {a0 : Int32} {a1 : Int32} {a2 : Int32} {a3 : Int32} {a4 : Int32} {a5 : Int32} {a6 : Int32} {Q : Int64 → rS → Prop} (h : ∀ (v : Int64), (True) → Q v σ) : cJ C 0 m_word [.int a0, .int a1, .int a2, .int a3, .int a4, .int a5, .int a6] σ Q := by
  refine m_word_run hC ?_
  unfold w_word_0
  refine h _ ?_
  · clear h; trivial  -- q1

theorem shortWord_c {C : rCx} (hC : cOK C)  {σ : rS} {a0 : Int64} {Q : Int32 → rS → Prop} (h : ∀ (v : Int32), (True) → Q v σ) : cI C 1 m_shortWord [.long a0] σ Q := by
  refine m_shortWord_run hC ?_
  unfold w_shortWord_0
  refine word_c hC  (fun r1 q3 => ?_)
  refine ⟨fun c4 => ?_, fun c4 => ?_⟩
  · skip
    refine word_c hC  (fun r5 q7 => ?_)
    refine ⟨fun c8 => ?_, fun c8 => ?_⟩
    · skip
      refine word_c hC  (fun r9 q11 => ?_)
      refine ⟨fun c12 => ?_, fun c12 => ?_⟩
      · skip
        refine word_c hC  (fun r13 q15 => ?_)
        refine ⟨fun c16 => ?_, fun c16 => ?_⟩
        · skip
          refine word_c hC  (fun r17 q19 => ?_)
          refine ⟨fun c20 => ?_, fun c20 => ?_⟩
          · skip
            refine word_c hC  (fun r21 q23 => ?_)
            refine ⟨fun c24 => ?_, fun c24 => ?_⟩
            · skip
              refine word_c hC  (fun r25 q27 => ?_)
              refine ⟨fun c28 => ?_, fun c28 => ?_⟩
              · skip
                refine word_c hC  (fun r29 q31 => ?_)
                refine ⟨fun c32 => ?_, fun c32 => ?_⟩
                · skip
                  refine h _ ?_
                  · clear h; trivial  -- q1
                · skip
                  refine h _ ?_
                  · clear h; trivial  -- q2
              · skip
                refine h _ ?_
                · clear h; trivial  -- q3
            · skip
              refine h _ ?_
              · clear h; trivial  -- q4
          · skip
            refine h _ ?_
            · clear h; trivial  -- q5
        · skip
          refine h _ ?_
          · clear h; trivial  -- q6
      · skip
        refine h _ ?_
        · clear h; trivial  -- q7
    · skip
      refine h _ ?_
      · clear h; trivial  -- q8
  · skip
    refine h _ ?_
    · clear h; trivial  -- q9

theorem wordOf_c {C : rCx} (hC : cOK C)  {σ : rS} {a0 : Int64} {Q : Int32 → rS → Prop} (h : ∀ (v : Int32), (True) → Q v σ) : cI C 2 m_wordOf [.long a0] σ Q := by
  refine m_wordOf_run hC ?_
  unfold w_wordOf_0
  refine shortWord_c hC  (fun r1 q3 => ?_)
  refine ⟨fun c4 => ?_, fun c4 => ?_⟩
  · skip
    refine word_c hC  (fun r5 q7 => ?_)
    refine ⟨fun c8 => ?_, fun c8 => ?_⟩
    · skip
      refine word_c hC  (fun r9 q11 => ?_)
      refine ⟨fun c12 => ?_, fun c12 => ?_⟩
      · skip
        refine word_c hC  (fun r13 q15 => ?_)
        refine ⟨fun c16 => ?_, fun c16 => ?_⟩
        · skip
          refine word_c hC  (fun r17 q19 => ?_)
          refine ⟨fun c20 => ?_, fun c20 => ?_⟩
          · skip
            refine word_c hC  (fun r21 q23 => ?_)
            refine ⟨fun c24 => ?_, fun c24 => ?_⟩
            · skip
              refine h _ ?_
              · clear h; trivial  -- q1
            · skip
              refine h _ ?_
              · clear h; trivial  -- q2
          · skip
            refine h _ ?_
            · clear h; trivial  -- q3
        · skip
          refine h _ ?_
          · clear h; trivial  -- q4
      · skip
        refine h _ ?_
        · clear h; trivial  -- q5
    · skip
      refine h _ ?_
      · clear h; trivial  -- q6
  · skip
    refine h _ ?_
    · clear h; trivial  -- q7

theorem takeName_c {C : rCx} (hC : cOK C)  {σ : rS} {a1 : Int32} {a2 : Int32} {Q : Int32 → rS → Prop} (hp : 0 ≤ a1 ∧ a1 < 131074 ∧ 0 ≤ a2 ∧ a2 ≤ σ.1 2 ∧ σ.1 2 ≤ 65536 ∧ lett (bAt (σ.1 2) (σ.2.2.1 1) a2)) (h : ∀ (v : Int32) (σ' : rS), (((∀ k,  σ'.1 k = σ.1 k) ∧ (∀ k,  σ'.2.1 k = σ.2.1 k) ∧ (∀ k, k ≠ 5 → k ≠ 7 → k ≠ 9 → σ'.2.2.1 k = σ.2.2.1 k) ∧ (∀ k j, k ≠ 5 → k ≠ 7 → k ≠ 9 → σ'.2.2.1 k j = σ.2.2.1 k j) ∧ (∀ k j, k ≠ 8 → σ'.2.2.2 k j = σ.2.2.2 k j)) ∧ onlyAt a1 σ σ' ∧ a2 < v ∧ v ≤ σ.1 2) → Q v σ') : cI C 3 m_takeName [.ref (co C), .int a1, .int a2] σ Q := by
  refine m_takeName_run hC ?_
  unfold w_takeName_0
  have hj159 : ∀ (l1 : Int32) (l2 : Int32) (l3 : Int32) (s1 : Int32) (s2 : Int32) (τ : rS), (l1 = a1 ∧ l2 = a2 ∧ ((∀ k,  τ.1 k = σ.1 k) ∧ (∀ k,  τ.2.1 k = σ.2.1 k) ∧ (∀ k, k ≠ 9 → τ.2.2.1 k = σ.2.2.1 k) ∧ (∀ k j, k ≠ 9 → τ.2.2.1 k j = σ.2.2.1 k j) ∧ (∀ k j, k ≠ 8 → τ.2.2.2 k j = σ.2.2.2 k j)) ∧ onlyAt a1 σ τ ∧ a2 < l3 ∧ l3 ≤ σ.1 2 ∧ s1 = a1) → w_takeName_159 C Q  l1 l2 l3 s1 s2 τ := by
    rintro y159_1 y159_2 y159_3 y159_s1 y159_s2 τ159 j159
    unfold w_takeName_159
    refine ⟨ib_131074.mpr ?_, ?_⟩
    · clear h; grind (splits := 24) [si1, si2, ri1, ri2, ri3, ri34, ri5, rl1, rl2, rl3, rl3a, rl4, rl45, onlyAt, nb]  -- b1
    intro σ_1 hσ_1
    refine ⟨fun c2 => ?_, fun c2 => ?_⟩
    · skip
      refine ⟨ib_131074.mpr ?_, ?_⟩
      · clear h; grind (splits := 24) [si1, si2, ri1, ri2, ri3, ri34, ri5, rl1, rl2, rl3, rl3a, rl4, rl45, onlyAt, nb]  -- b2
      refine ⟨fun c3 => ?_, fun c3 => ?_⟩
      · skip
        refine ⟨ib_131074.mpr ?_, ?_⟩
        · clear h; grind (splits := 24) [si1, si2, ri1, ri2, ri3, ri34, ri5, rl1, rl2, rl3, rl3a, rl4, rl45, onlyAt, nb]  -- b3
        intro σ_4 hσ_4
        refine h _ _ ?_
        · clear h; grind (splits := 24) [si1, si2, ri1, ri2, ri3, ri34, ri5, rl1, rl2, rl3, rl3a, rl4, rl45, onlyAt, nb]  -- q4
      · skip
        refine ⟨ib_131074.mpr ?_, ?_⟩
        · clear h; grind (splits := 24) [si1, si2, ri1, ri2, ri3, ri34, ri5, rl1, rl2, rl3, rl3a, rl4, rl45, onlyAt, nb]  -- b5
        intro σ_5 hσ_5
        refine h _ _ ?_
        · clear h; grind (splits := 24) [si1, si2, ri1, ri2, ri3, ri34, ri5, rl1, rl2, rl3, rl3a, rl4, rl45, onlyAt, nb]  -- q6
    · skip
      refine ⟨ib_131074.mpr ?_, ?_⟩
      · clear h; grind (splits := 24) [si1, si2, ri1, ri2, ri3, ri34, ri5, rl1, rl2, rl3, rl3a, rl4, rl45, onlyAt, nb]  -- b7
      intro σ_6 hσ_6
      refine h _ _ ?_
      · clear h; grind (splits := 24) [si1, si2, ri1, ri2, ri3, ri34, ri5, rl1, rl2, rl3, rl3a, rl4, rl45, onlyAt, nb]  -- q8
  unfold w_takeName_2
  refine ⟨fun n l1 l2 l3 τ => n = (σ.1 2 - l3).toNatClampNeg ∧ (l1 = a1 ∧ l2 = a2 ∧ ((∀ k,  τ.1 k = σ.1 k) ∧ (∀ k,  τ.2.1 k = σ.2.1 k) ∧ (∀ k, k ≠ 9 → τ.2.2.1 k = σ.2.2.1 k) ∧ (∀ k j, k ≠ 9 → τ.2.2.1 k j = σ.2.2.1 k j) ∧ (∀ k j, k ≠ 8 → τ.2.2.2 k j = σ.2.2.2 k j)) ∧ onlyAt a1 σ τ ∧ a2 ≤ l3 ∧ l3 ≤ σ.1 2 ∧ (a2 = l3 → lett (bAt (σ.1 2) (σ.2.2.1 1) l3))), ⟨_, rfl, ?_⟩, ?_⟩
  · clear h; grind (splits := 24) [si1, si2, ri1, ri2, ri3, ri34, ri5, rl1, rl2, rl3, rl3a, rl4, rl45, onlyAt, nb]  -- j9
  rintro n2 x2_1 x2_2 x2_3 σ2 ⟨hn2, i2⟩
  have hj125 : ∀ (l1 : Int32) (l2 : Int32) (l3 : Int32) (s1 : Int32) (s2 : Int32) (τ : rS), (l1 = a1 ∧ l2 = a2 ∧ ((∀ k,  τ.1 k = σ.1 k) ∧ (∀ k,  τ.2.1 k = σ.2.1 k) ∧ (∀ k, k ≠ 9 → τ.2.2.1 k = σ.2.2.1 k) ∧ (∀ k j, k ≠ 9 → τ.2.2.1 k j = σ.2.2.1 k j) ∧ (∀ k j, k ≠ 8 → τ.2.2.2 k j = σ.2.2.2 k j)) ∧ onlyAt a1 σ τ ∧ l3 = x2_3 ∧ s1 = a1 ∧ l3 < σ.1 2) → w_takeName_125 C Q (fun l1' l2' l3' τ => ∃ k < n2, (fun n l1 l2 l3 τ => n = (σ.1 2 - l3).toNatClampNeg ∧ (l1 = a1 ∧ l2 = a2 ∧ ((∀ k,  τ.1 k = σ.1 k) ∧ (∀ k,  τ.2.1 k = σ.2.1 k) ∧ (∀ k, k ≠ 9 → τ.2.2.1 k = σ.2.2.1 k) ∧ (∀ k j, k ≠ 9 → τ.2.2.1 k j = σ.2.2.1 k j) ∧ (∀ k j, k ≠ 8 → τ.2.2.2 k j = σ.2.2.2 k j)) ∧ onlyAt a1 σ τ ∧ a2 ≤ l3 ∧ l3 ≤ σ.1 2 ∧ (a2 = l3 → lett (bAt (σ.1 2) (σ.2.2.1 1) l3)))) k l1' l2' l3' τ) l1 l2 l3 s1 s2 τ := by
    rintro y125_1 y125_2 y125_3 y125_s1 y125_s2 τ125 j125
    unfold w_takeName_125
    refine ⟨ib_131074.mpr ?_, ?_⟩
    · clear h; grind (splits := 24) [si1, si2, ri1, ri2, ri3, ri34, ri5, rl1, rl2, rl3, rl3a, rl4, rl45, onlyAt, nb]  -- b10
    intro σ_7 hσ_7
    intro x8 hx8
    refine ⟨_, cn_lt2 hn2 ?_ ?_, rfl, ?_⟩
    · clear h; grind (splits := 24) [si1, si2, ri1, ri2, ri3, ri34, ri5, rl1, rl2, rl3, rl3a, rl4, rl45, onlyAt, nb]  -- d11
    · clear h; grind (splits := 24) [si1, si2, ri1, ri2, ri3, ri34, ri5, rl1, rl2, rl3, rl3a, rl4, rl45, onlyAt, nb]  -- d12
    · clear h; grind (splits := 24) [si1, si2, ri1, ri2, ri3, ri34, ri5, rl1, rl2, rl3, rl3a, rl4, rl45, onlyAt, nb]  -- i13
  have hj119 : ∀ (l1 : Int32) (l2 : Int32) (l3 : Int32) (s1 : Int32) (τ : rS), (l1 = a1 ∧ l2 = a2 ∧ ((∀ k,  τ.1 k = σ.1 k) ∧ (∀ k,  τ.2.1 k = σ.2.1 k) ∧ (∀ k, k ≠ 9 → τ.2.2.1 k = σ.2.2.1 k) ∧ (∀ k j, k ≠ 9 → τ.2.2.1 k j = σ.2.2.1 k j) ∧ (∀ k j, k ≠ 8 → τ.2.2.2 k j = σ.2.2.2 k j)) ∧ onlyAt a1 σ τ ∧ l3 = x2_3 ∧ s1 = a1 ∧ l3 < σ.1 2) → w_takeName_119 C Q (fun l1' l2' l3' τ => ∃ k < n2, (fun n l1 l2 l3 τ => n = (σ.1 2 - l3).toNatClampNeg ∧ (l1 = a1 ∧ l2 = a2 ∧ ((∀ k,  τ.1 k = σ.1 k) ∧ (∀ k,  τ.2.1 k = σ.2.1 k) ∧ (∀ k, k ≠ 9 → τ.2.2.1 k = σ.2.2.1 k) ∧ (∀ k j, k ≠ 9 → τ.2.2.1 k j = σ.2.2.1 k j) ∧ (∀ k j, k ≠ 8 → τ.2.2.2 k j = σ.2.2.2 k j)) ∧ onlyAt a1 σ τ ∧ a2 ≤ l3 ∧ l3 ≤ σ.1 2 ∧ (a2 = l3 → lett (bAt (σ.1 2) (σ.2.2.1 1) l3)))) k l1' l2' l3' τ) l1 l2 l3 s1 τ := by
    rintro y119_1 y119_2 y119_3 y119_s1 τ119 j119
    unfold w_takeName_119
    refine ⟨ib_131074.mpr ?_, ?_⟩
    · clear h; grind (splits := 24) [si1, si2, ri1, ri2, ri3, ri34, ri5, rl1, rl2, rl3, rl3a, rl4, rl45, onlyAt, nb]  -- b14
    refine hj125 _ _ _ _ _ _ ?_
    · clear h; grind (splits := 24) [si1, si2, ri1, ri2, ri3, ri34, ri5, rl1, rl2, rl3, rl3a, rl4, rl45, onlyAt, nb]  -- k15
  have hj72 : ∀ (l1 : Int32) (l2 : Int32) (l3 : Int32) (l4 : Int32) (s1 : Int32) (s2 : Int64) (τ : rS), (l1 = a1 ∧ l2 = a2 ∧ ((∀ k,  τ.1 k = σ.1 k) ∧ (∀ k,  τ.2.1 k = σ.2.1 k) ∧ (∀ k, k ≠ 9 → τ.2.2.1 k = σ.2.2.1 k) ∧ (∀ k j, k ≠ 9 → τ.2.2.1 k j = σ.2.2.1 k j) ∧ (∀ k j, k ≠ 8 → τ.2.2.2 k j = σ.2.2.2 k j)) ∧ onlyAt a1 σ τ ∧ l3 = x2_3 ∧ s1 = a1 ∧ l3 < σ.1 2) → w_takeName_72 C Q (fun l1' l2' l3' τ => ∃ k < n2, (fun n l1 l2 l3 τ => n = (σ.1 2 - l3).toNatClampNeg ∧ (l1 = a1 ∧ l2 = a2 ∧ ((∀ k,  τ.1 k = σ.1 k) ∧ (∀ k,  τ.2.1 k = σ.2.1 k) ∧ (∀ k, k ≠ 9 → τ.2.2.1 k = σ.2.2.1 k) ∧ (∀ k j, k ≠ 9 → τ.2.2.1 k j = σ.2.2.1 k j) ∧ (∀ k j, k ≠ 8 → τ.2.2.2 k j = σ.2.2.2 k j)) ∧ onlyAt a1 σ τ ∧ a2 ≤ l3 ∧ l3 ≤ σ.1 2 ∧ (a2 = l3 → lett (bAt (σ.1 2) (σ.2.2.1 1) l3)))) k l1' l2' l3' τ) l1 l2 l3 l4 s1 s2 τ := by
    rintro y72_1 y72_2 y72_3 y72_4 y72_s1 y72_s2 τ72 j72
    unfold w_takeName_72
    refine ⟨ib_131074.mpr ?_, ?_⟩
    · clear h; grind (splits := 24) [si1, si2, ri1, ri2, ri3, ri34, ri5, rl1, rl2, rl3, rl3a, rl4, rl45, onlyAt, nb]  -- b16
    intro σ_9 hσ_9
    refine ⟨fun c10 => ?_, fun c10 => ?_⟩
    · skip
      refine hj119 _ _ _ _ _ ?_
      · clear h; grind (splits := 24) [si1, si2, ri1, ri2, ri3, ri34, ri5, rl1, rl2, rl3, rl3a, rl4, rl45, onlyAt, nb]  -- k17
    · skip
      refine ⟨fun c11 => ?_, fun c11 => ?_⟩
      · skip
        refine hj119 _ _ _ _ _ ?_
        · clear h; grind (splits := 24) [si1, si2, ri1, ri2, ri3, ri34, ri5, rl1, rl2, rl3, rl3a, rl4, rl45, onlyAt, nb]  -- k18
      · skip
        refine ⟨ib_131074.mpr ?_, ?_⟩
        · clear h; grind (splits := 24) [si1, si2, ri1, ri2, ri3, ri34, ri5, rl1, rl2, rl3, rl3a, rl4, rl45, onlyAt, nb]  -- b19
        refine byteAt_c hC  ?_ (fun r12 q14 => ?_)
        · clear h; grind (splits := 24) [si1, si2, ri1, ri2, ri3, ri34, ri5, rl1, rl2, rl3, rl3a, rl4, rl45, onlyAt, nb]  -- p20
        refine hj125 _ _ _ _ _ _ ?_
        · clear h; grind (splits := 24) [si1, si2, ri1, ri2, ri3, ri34, ri5, rl1, rl2, rl3, rl3a, rl4, rl45, onlyAt, nb]  -- k21
  have hj24 : ∀ (l1 : Int32) (l2 : Int32) (l3 : Int32) (τ : rS), (l1 = a1 ∧ l2 = a2 ∧ ((∀ k,  τ.1 k = σ.1 k) ∧ (∀ k,  τ.2.1 k = σ.2.1 k) ∧ (∀ k, k ≠ 9 → τ.2.2.1 k = σ.2.2.1 k) ∧ (∀ k j, k ≠ 9 → τ.2.2.1 k j = σ.2.2.1 k j) ∧ (∀ k j, k ≠ 8 → τ.2.2.2 k j = σ.2.2.2 k j)) ∧ onlyAt a1 σ τ ∧ l3 = x2_3 ∧ l3 < σ.1 2) → w_takeName_24 C Q (fun l1' l2' l3' τ => ∃ k < n2, (fun n l1 l2 l3 τ => n = (σ.1 2 - l3).toNatClampNeg ∧ (l1 = a1 ∧ l2 = a2 ∧ ((∀ k,  τ.1 k = σ.1 k) ∧ (∀ k,  τ.2.1 k = σ.2.1 k) ∧ (∀ k, k ≠ 9 → τ.2.2.1 k = σ.2.2.1 k) ∧ (∀ k j, k ≠ 9 → τ.2.2.1 k j = σ.2.2.1 k j) ∧ (∀ k j, k ≠ 8 → τ.2.2.2 k j = σ.2.2.2 k j)) ∧ onlyAt a1 σ τ ∧ a2 ≤ l3 ∧ l3 ≤ σ.1 2 ∧ (a2 = l3 → lett (bAt (σ.1 2) (σ.2.2.1 1) l3)))) k l1' l2' l3' τ) l1 l2 l3 τ := by
    rintro y24_1 y24_2 y24_3 τ24 j24
    unfold w_takeName_24
    intro x15 hx15
    refine ⟨fun c16 => ?_, fun c16 => ?_⟩
    · skip
      refine ⟨ib_131074.mpr ?_, ?_⟩
      · clear h; grind (splits := 24) [si1, si2, ri1, ri2, ri3, ri34, ri5, rl1, rl2, rl3, rl3a, rl4, rl45, onlyAt, nb]  -- b22
      refine hj72 _ _ _ _ _ _ _ ?_
      · clear h; grind (splits := 24) [si1, si2, ri1, ri2, ri3, ri34, ri5, rl1, rl2, rl3, rl3a, rl4, rl45, onlyAt, nb]  -- k23
    · skip
      refine ⟨ib_131074.mpr ?_, ?_⟩
      · clear h; grind (splits := 24) [si1, si2, ri1, ri2, ri3, ri34, ri5, rl1, rl2, rl3, rl3a, rl4, rl45, onlyAt, nb]  -- b24
      refine byteAt_c hC  ?_ (fun r17 q19 => ?_)
      · clear h; grind (splits := 24) [si1, si2, ri1, ri2, ri3, ri34, ri5, rl1, rl2, rl3, rl3a, rl4, rl45, onlyAt, nb]  -- p25
      refine hj72 _ _ _ _ _ _ _ ?_
      · clear h; grind (splits := 24) [si1, si2, ri1, ri2, ri3, ri34, ri5, rl1, rl2, rl3, rl3a, rl4, rl45, onlyAt, nb]  -- k26
  refine byteAt_c hC  ?_ (fun r20 q22 => ?_)
  · clear h; grind (splits := 24) [si1, si2, ri1, ri2, ri3, ri34, ri5, rl1, rl2, rl3, rl3a, rl4, rl45, onlyAt, nb]  -- p27
  refine isLetter_c hC  (fun r23 q25 => ?_)
  refine ⟨fun c26 => ?_, fun c26 => ?_⟩
  · skip
    refine hj24 _ _ _ _ ?_
    · clear h; grind (splits := 24) [ri1, ri2, ri3, ri5, rl1, rl2, rl3, rl3a, nb, lett]  -- k28
  · skip
    refine byteAt_c hC  ?_ (fun r27 q29 => ?_)
    · clear h; grind (splits := 24) [si1, si2, ri1, ri2, ri3, ri34, ri5, rl1, rl2, rl3, rl3a, rl4, rl45, onlyAt, nb]  -- p29
    refine isDigit_c hC  (fun r30 q32 => ?_)
    refine ⟨fun c33 => ?_, fun c33 => ?_⟩
    · skip
      refine ⟨ib_131074.mpr ?_, ?_⟩
      · clear h; grind (splits := 24) [si1, si2, ri1, ri2, ri3, ri34, ri5, rl1, rl2, rl3, rl3a, rl4, rl45, onlyAt, nb]  -- b30
      refine ⟨fun c34 => ?_, fun c34 => ?_⟩
      · skip
        refine hj159 _ _ _ _ _ _ ?_
        · clear h; grind (splits := 24) [si1, si2, ri1, ri2, ri3, ri34, ri5, rl1, rl2, rl3, rl3a, rl4, rl45, onlyAt, nb]  -- k31
      · skip
        refine ⟨ib_131074.mpr ?_, ?_⟩
        · clear h; grind (splits := 24) [si1, si2, ri1, ri2, ri3, ri34, ri5, rl1, rl2, rl3, rl3a, rl4, rl45, onlyAt, nb]  -- b32
        refine wordOf_c hC  (fun r35 q37 => ?_)
        refine hj159 _ _ _ _ _ _ ?_
        · clear h; grind (splits := 24) [si1, si2, ri1, ri2, ri3, ri34, ri5, rl1, rl2, rl3, rl3a, rl4, rl45, onlyAt, nb]  -- k33
    · skip
      refine hj24 _ _ _ _ ?_
      · clear h; grind (splits := 24) [si1, si2, ri1, ri2, ri3, ri34, ri5, rl1, rl2, rl3, rl3a, rl4, rl45, onlyAt, nb]  -- k34

theorem take_c {C : rCx} (hC : cOK C)  {σ : rS} {a1 : Int32} {Q : Int32 → rS → Prop} (hp : 0 ≤ a1 ∧ a1 < σ.1 2 ∧ σ.1 2 ≤ 65536 ∧ 0 ≤ σ.1 3 + σ.1 4 ∧ σ.1 3 + σ.1 4 < 131074) (h : ∀ (v : Int32) (σ' : rS), (((∀ k,  σ'.1 k = σ.1 k) ∧ (∀ k,  σ'.2.1 k = σ.2.1 k) ∧ (∀ k, k ≠ 5 → k ≠ 6 → k ≠ 7 → k ≠ 9 → σ'.2.2.1 k = σ.2.2.1 k) ∧ (∀ k j, k ≠ 5 → k ≠ 6 → k ≠ 7 → k ≠ 9 → σ'.2.2.1 k j = σ.2.2.1 k j) ∧ (∀ k j, k ≠ 8 → σ'.2.2.2 k j = σ.2.2.2 k j)) ∧ onlyAt (σ.1 3 + σ.1 4) σ σ' ∧ a1 < v ∧ v ≤ σ.1 2) → Q v σ') : cI C 4 m_take [.ref (co C), .int a1] σ Q := by
  refine m_take_run hC ?_
  unfold w_take_0
  have hj268 : ∀ (l1 : Int32) (l4 : Int32) (s1 : Int32) (s2 : Int32) (τ : rS), (l1 = a1 ∧ ((∀ k,  τ.1 k = σ.1 k) ∧ (∀ k,  τ.2.1 k = σ.2.1 k) ∧ (∀ k, k ≠ 5 → k ≠ 6 → k ≠ 7 → k ≠ 9 → τ.2.2.1 k = σ.2.2.1 k) ∧ (∀ k j, k ≠ 5 → k ≠ 6 → k ≠ 7 → k ≠ 9 → τ.2.2.1 k j = σ.2.2.1 k j) ∧ (∀ k j, k ≠ 8 → τ.2.2.2 k j = σ.2.2.2 k j)) ∧ s1 = σ.1 3 + σ.1 4 ∧ onlyAt s1 σ τ ∧ (l4 ≠ 0 → a1 + 1 < σ.1 2)) → w_take_268 C Q  l1 l4 s1 s2 τ := by
    rintro y268_1 y268_4 y268_s1 y268_s2 τ268 j268
    unfold w_take_268
    refine ⟨ib_131074.mpr ?_, ?_⟩
    · clear h; grind (splits := 24) [si1, si2, ri1, ri2, ri3, ri34, ri5, rl1, rl2, rl3, rl3a, rl4, rl45, onlyAt, nb]  -- b1
    intro σ_1 hσ_1
    refine ⟨fun c2 => ?_, fun c2 => ?_⟩
    · skip
      refine h _ _ ?_
      · clear h; grind (splits := 24) [si1, si2, ri1, ri2, ri3, ri34, ri5, rl1, rl2, rl3, rl3a, rl4, rl45, onlyAt, nb]  -- q2
    · skip
      refine h _ _ ?_
      · clear h; have k5 := j268.2.2.2.2 c2
        have k6 : a1 + 2 ≤ σ.1 2 := by clear j268; grind
        grind (splits := 24) [si1, si2, ri1, ri2, ri3, ri34, ri5, rl1, rl2, rl3, rl3a, rl4, rl45, onlyAt, nb]
  have hj213 : ∀ (l1 : Int32) (l2 : Int32) (l3 : Int32) (l4 : Int32) (s1 : Int32) (s2 : Int32) (τ : rS), (l1 = a1 ∧ ((∀ k,  τ.1 k = σ.1 k) ∧ (∀ k,  τ.2.1 k = σ.2.1 k) ∧ (∀ k, k ≠ 5 → k ≠ 6 → k ≠ 7 → k ≠ 9 → τ.2.2.1 k = σ.2.2.1 k) ∧ (∀ k j, k ≠ 5 → k ≠ 6 → k ≠ 7 → k ≠ 9 → τ.2.2.1 k j = σ.2.2.1 k j) ∧ (∀ k j, k ≠ 8 → τ.2.2.2 k j = σ.2.2.2 k j)) ∧ l2 = σ.1 3 + σ.1 4 ∧ s1 = l2 ∧ onlyAt s1 σ τ ∧ (l4 ≠ 0 → a1 + 1 < σ.1 2)) → w_take_213 C Q  l1 l2 l3 l4 s1 s2 τ := by
    rintro y213_1 y213_2 y213_3 y213_4 y213_s1 y213_s2 τ213 j213
    unfold w_take_213
    refine ⟨ib_131074.mpr ?_, ?_⟩
    · clear h; grind (splits := 24) [si1, si2, ri1, ri2, ri3, ri34, ri5, rl1, rl2, rl3, rl3a, rl4, rl45, onlyAt, nb]  -- b4
    intro σ_3 hσ_3
    refine ⟨fun c4 => ?_, fun c4 => ?_⟩
    · skip
      refine ⟨fun c5 => ?_, fun c5 => ?_⟩
      · skip
        refine ⟨fun c6 => ?_, fun c6 => ?_⟩
        · skip
          refine ⟨fun c7 => ?_, fun c7 => ?_⟩
          · skip
            refine hj268 _ _ _ _ _ ?_
            · clear h; grind (splits := 24) [si1, si2, ri1, ri2, ri3, ri34, ri5, rl1, rl2, rl3, rl3a, rl4, rl45, onlyAt, nb]  -- k5
          · skip
            refine hj268 _ _ _ _ _ ?_
            · clear h; grind (splits := 24) [si1, si2, ri1, ri2, ri3, ri34, ri5, rl1, rl2, rl3, rl3a, rl4, rl45, onlyAt, nb]  -- k6
        · skip
          refine hj268 _ _ _ _ _ ?_
          · clear h; grind (splits := 24) [si1, si2, ri1, ri2, ri3, ri34, ri5, rl1, rl2, rl3, rl3a, rl4, rl45, onlyAt, nb]  -- k7
      · skip
        refine hj268 _ _ _ _ _ ?_
        · clear h; grind (splits := 24) [si1, si2, ri1, ri2, ri3, ri34, ri5, rl1, rl2, rl3, rl3a, rl4, rl45, onlyAt, nb]  -- k8
    · skip
      refine hj268 _ _ _ _ _ ?_
      · clear h; grind (splits := 24) [si1, si2, ri1, ri2, ri3, ri34, ri5, rl1, rl2, rl3, rl3a, rl4, rl45, onlyAt, nb]  -- k9
  have hj194 : ∀ (l1 : Int32) (l2 : Int32) (l3 : Int32) (s0 : Int32) (τ : rS), (l1 = a1 ∧ ((∀ k,  τ.1 k = σ.1 k) ∧ (∀ k,  τ.2.1 k = σ.2.1 k) ∧ (∀ k, k ≠ 5 → k ≠ 6 → k ≠ 7 → k ≠ 9 → τ.2.2.1 k = σ.2.2.1 k) ∧ (∀ k j, k ≠ 5 → k ≠ 6 → k ≠ 7 → k ≠ 9 → τ.2.2.1 k j = σ.2.2.1 k j) ∧ (∀ k j, k ≠ 8 → τ.2.2.2 k j = σ.2.2.2 k j)) ∧ l2 = σ.1 3 + σ.1 4 ∧ onlyAt l2 σ τ ∧ (s0 ≠ 0 → a1 + 1 < σ.1 2)) → w_take_194 C Q  l1 l2 l3 s0 τ := by
    rintro y194_1 y194_2 y194_3 y194_s0 τ194 j194
    unfold w_take_194
    refine isSign_c hC  (fun r8 q10 => ?_)
    refine ⟨fun c11 => ?_, fun c11 => ?_⟩
    · skip
      refine hj213 _ _ _ _ _ _ _ ?_
      · clear h; grind (splits := 24) [si1, si2, ri1, ri2, ri3, ri34, ri5, rl1, rl2, rl3, rl3a, rl4, rl45, onlyAt, nb]  -- k10
    · skip
      refine hj213 _ _ _ _ _ _ _ ?_
      · clear h; grind (splits := 24) [si1, si2, ri1, ri2, ri3, ri34, ri5, rl1, rl2, rl3, rl3a, rl4, rl45, onlyAt, nb]  -- k11
  intro x12 hx12
  refine ⟨ib_131074.mpr ?_, ?_⟩
  · clear h; grind (splits := 24) [si1, si2, ri1, ri2, ri3, ri34, ri5, rl1, rl2, rl3, rl3a, rl4, rl45, onlyAt, nb]  -- b12
  intro σ_13 hσ_13
  refine ⟨ib_131074.mpr ?_, ?_⟩
  · clear h; grind (splits := 24) [si1, si2, ri1, ri2, ri3, ri34, ri5, rl1, rl2, rl3, rl3a, rl4, rl45, onlyAt, nb]  -- b13
  intro σ_14 hσ_14
  refine ⟨ib_131074.mpr ?_, ?_⟩
  · clear h; grind (splits := 24) [si1, si2, ri1, ri2, ri3, ri34, ri5, rl1, rl2, rl3, rl3a, rl4, rl45, onlyAt, nb]  -- b14
  intro σ_15 hσ_15
  refine ⟨ib_131074.mpr ?_, ?_⟩
  · clear h; grind (splits := 24) [si1, si2, ri1, ri2, ri3, ri34, ri5, rl1, rl2, rl3, rl3a, rl4, rl45, onlyAt, nb]  -- b15
  intro σ_16 hσ_16
  refine byteAt_c hC  ?_ (fun r17 q19 => ?_)
  · clear h; grind (splits := 24) [si1, si2, ri1, ri2, ri3, ri34, ri5, rl1, rl2, rl3, rl3a, rl4, rl45, onlyAt, nb]  -- p16
  refine isLetter_c hC  (fun r20 q22 => ?_)
  refine ⟨fun c23 => ?_, fun c23 => ?_⟩
  · skip
    refine isDigit_c hC  (fun r24 q26 => ?_)
    refine ⟨fun c27 => ?_, fun c27 => ?_⟩
    · skip
      refine byteAt_c hC  ?_ (fun r28 q30 => ?_)
      · clear h; grind (splits := 24) [si1, si2, ri1, ri2, ri3, ri34, ri5, rl1, rl2, rl3, rl3a, rl4, rl45, onlyAt, nb]  -- p17
      refine ⟨fun c31 => ?_, fun c31 => ?_⟩
      · skip
        refine hj194 _ _ _ _ _ ?_
        · clear h; grind (splits := 24) [si1, si2, ri1, ri2, ri3, ri34, ri5, rl1, rl2, rl3, rl3a, rl4, rl45, onlyAt, nb]  -- k18
      · skip
        refine ⟨fun c32 => ?_, fun c32 => ?_⟩
        · skip
          refine hj194 _ _ _ _ _ ?_
          · clear h; grind (splits := 24) [si1, si2, ri1, ri2, ri3, ri34, ri5, rl1, rl2, rl3, rl3a, rl4, rl45, onlyAt, nb]  -- k19
        · skip
          refine ⟨fun c33 => ?_, fun c33 => ?_⟩
          · skip
            refine hj194 _ _ _ _ _ ?_
            · clear h; grind (splits := 24) [si1, si2, ri1, ri2, ri3, ri34, ri5, rl1, rl2, rl3, rl3a, rl4, rl45, onlyAt, nb]  -- k20
          · skip
            refine ⟨fun c34 => ?_, fun c34 => ?_⟩
            · skip
              refine hj194 _ _ _ _ _ ?_
              · clear h; grind (splits := 24) [si1, si2, ri1, ri2, ri3, ri34, ri5, rl1, rl2, rl3, rl3a, rl4, rl45, onlyAt, nb]  -- k21
            · skip
              refine ⟨fun c35 => ?_, fun c35 => ?_⟩
              · skip
                refine hj194 _ _ _ _ _ ?_
                · clear h; grind (splits := 24) [si1, si2, ri1, ri2, ri3, ri34, ri5, rl1, rl2, rl3, rl3a, rl4, rl45, onlyAt, nb]  -- k22
              · skip
                refine hj194 _ _ _ _ _ ?_
                · clear h; grind (splits := 24) [si1, si2, ri1, ri2, ri3, ri34, ri5, rl1, rl2, rl3, rl3a, rl4, rl45, onlyAt, nb]  -- k23
    · skip
      unfold w_take_68
      refine ⟨fun n l1 l2 l4 τ => n = (σ.1 2 - l4).toNatClampNeg ∧ (l1 = a1 ∧ ((∀ k,  τ.1 k = σ.1 k) ∧ (∀ k,  τ.2.1 k = σ.2.1 k) ∧ (∀ k, k ≠ 5 → k ≠ 6 → k ≠ 7 → k ≠ 9 → τ.2.2.1 k = σ.2.2.1 k) ∧ (∀ k j, k ≠ 5 → k ≠ 6 → k ≠ 7 → k ≠ 9 → τ.2.2.1 k j = σ.2.2.1 k j) ∧ (∀ k j, k ≠ 8 → τ.2.2.2 k j = σ.2.2.2 k j)) ∧ l2 = σ.1 3 + σ.1 4 ∧ onlyAt l2 σ τ ∧ a1 ≤ l4 ∧ l4 ≤ σ.1 2 ∧ (a1 = l4 → 48 ≤ bAt (σ.1 2) (σ.2.2.1 1) l4 ∧ bAt (σ.1 2) (σ.2.2.1 1) l4 ≤ 57)), ⟨_, rfl, ?_⟩, ?_⟩
      · clear h; grind (splits := 24) [si1, si2, ri1, ri2, ri3, ri34, ri5, rl1, rl2, rl3, rl3a, rl4, rl45, onlyAt, nb]  -- j24
      rintro n68 x68_1 x68_2 x68_4 σ68 ⟨hn68, i68⟩
      have hj122 : ∀ (l1 : Int32) (l2 : Int32) (l4 : Int32) (s1 : Int32) (s2 : Int32) (τ : rS), (l1 = a1 ∧ ((∀ k,  τ.1 k = σ.1 k) ∧ (∀ k,  τ.2.1 k = σ.2.1 k) ∧ (∀ k, k ≠ 5 → k ≠ 6 → k ≠ 7 → k ≠ 9 → τ.2.2.1 k = σ.2.2.1 k) ∧ (∀ k j, k ≠ 5 → k ≠ 6 → k ≠ 7 → k ≠ 9 → τ.2.2.1 k j = σ.2.2.1 k j) ∧ (∀ k j, k ≠ 8 → τ.2.2.2 k j = σ.2.2.2 k j)) ∧ l2 = σ.1 3 + σ.1 4 ∧ onlyAt l2 σ τ ∧ l4 = x68_4 ∧ l4 < σ.1 2 ∧ s1 = l2) → w_take_122 C Q (fun l1' l2' l4' τ => ∃ k < n68, (fun n l1 l2 l4 τ => n = (σ.1 2 - l4).toNatClampNeg ∧ (l1 = a1 ∧ ((∀ k,  τ.1 k = σ.1 k) ∧ (∀ k,  τ.2.1 k = σ.2.1 k) ∧ (∀ k, k ≠ 5 → k ≠ 6 → k ≠ 7 → k ≠ 9 → τ.2.2.1 k = σ.2.2.1 k) ∧ (∀ k j, k ≠ 5 → k ≠ 6 → k ≠ 7 → k ≠ 9 → τ.2.2.1 k j = σ.2.2.1 k j) ∧ (∀ k j, k ≠ 8 → τ.2.2.2 k j = σ.2.2.2 k j)) ∧ l2 = σ.1 3 + σ.1 4 ∧ onlyAt l2 σ τ ∧ a1 ≤ l4 ∧ l4 ≤ σ.1 2 ∧ (a1 = l4 → 48 ≤ bAt (σ.1 2) (σ.2.2.1 1) l4 ∧ bAt (σ.1 2) (σ.2.2.1 1) l4 ≤ 57))) k l1' l2' l4' τ) l1 l2 l4 s1 s2 τ := by
        rintro y122_1 y122_2 y122_4 y122_s1 y122_s2 τ122 j122
        unfold w_take_122
        refine ⟨ib_131074.mpr ?_, ?_⟩
        · clear h; grind (splits := 24) [si1, si2, ri1, ri2, ri3, ri34, ri5, rl1, rl2, rl3, rl3a, rl4, rl45, onlyAt, nb]  -- b25
        intro σ_36 hσ_36
        intro x37 hx37
        refine ⟨_, cn_lt2 hn68 ?_ ?_, rfl, ?_⟩
        · clear h; grind (splits := 24) [si1, si2, ri1, ri2, ri3, ri34, ri5, rl1, rl2, rl3, rl3a, rl4, rl45, onlyAt, nb]  -- d26
        · clear h; grind (splits := 24) [si1, si2, ri1, ri2, ri3, ri34, ri5, rl1, rl2, rl3, rl3a, rl4, rl45, onlyAt, nb]  -- d27
        · clear h; grind (splits := 24) [si1, si2, ri1, ri2, ri3, ri34, ri5, rl1, rl2, rl3, rl3a, rl4, rl45, onlyAt, nb]  -- i28
      refine byteAt_c hC  ?_ (fun r38 q40 => ?_)
      · clear h; grind (splits := 24) [si1, si2, ri1, ri2, ri3, ri34, ri5, rl1, rl2, rl3, rl3a, rl4, rl45, onlyAt, nb]  -- p29
      refine isDigit_c hC  (fun r41 q43 => ?_)
      refine ⟨fun c44 => ?_, fun c44 => ?_⟩
      · skip
        refine ⟨fun c45 => ?_, fun c45 => ?_⟩
        · skip
          refine ⟨ib_131074.mpr ?_, ?_⟩
          · clear h; grind (splits := 24) [si1, si2, ri1, ri2, ri3, ri34, ri5, rl1, rl2, rl3, rl3a, rl4, rl45, onlyAt, nb]  -- b30
          intro σ_46 hσ_46
          refine h _ _ ?_
          · clear h; grind (splits := 24) [si1, si2, ri1, ri2, ri3, ri34, ri5, rl1, rl2, rl3, rl3a, rl4, rl45, onlyAt, nb]  -- q31
        · skip
          refine ⟨ib_131074.mpr ?_, ?_⟩
          · clear h; grind (splits := 24) [si1, si2, ri1, ri2, ri3, ri34, ri5, rl1, rl2, rl3, rl3a, rl4, rl45, onlyAt, nb]  -- b32
          intro σ_47 hσ_47
          refine h _ _ ?_
          · clear h; grind (splits := 24) [si1, si2, ri1, ri2, ri3, ri34, ri5, rl1, rl2, rl3, rl3a, rl4, rl45, onlyAt, nb]  -- q33
      · skip
        refine ⟨fun c48 => ?_, fun c48 => ?_⟩
        · skip
          refine ⟨ib_131074.mpr ?_, ?_⟩
          · clear h; grind (splits := 24) [si1, si2, ri1, ri2, ri3, ri34, ri5, rl1, rl2, rl3, rl3a, rl4, rl45, onlyAt, nb]  -- b34
          refine hj122 _ _ _ _ _ _ ?_
          · clear h; grind (splits := 24) [si1, si2, ri1, ri2, ri3, ri34, ri5, rl1, rl2, rl3, rl3a, rl4, rl45, onlyAt, nb]  -- k35
        · skip
          refine ⟨ib_131074.mpr ?_, ?_⟩
          · clear h; grind (splits := 24) [si1, si2, ri1, ri2, ri3, ri34, ri5, rl1, rl2, rl3, rl3a, rl4, rl45, onlyAt, nb]  -- b36
          refine byteAt_c hC  ?_ (fun r49 q51 => ?_)
          · clear h; grind (splits := 24) [si1, si2, ri1, ri2, ri3, ri34, ri5, rl1, rl2, rl3, rl3a, rl4, rl45, onlyAt, nb]  -- p37
          refine hj122 _ _ _ _ _ _ ?_
          · clear h; grind (splits := 24) [si1, si2, ri1, ri2, ri3, ri34, ri5, rl1, rl2, rl3, rl3a, rl4, rl45, onlyAt, nb]  -- k38
  · skip
    refine takeName_c hC  ?_ (fun r52 σ_53 q54 => ?_)
    · clear h; grind (splits := 24) [si1, si2, ri1, ri2, ri3, ri34, ri5, rl1, rl2, rl3, rl3a, rl4, rl45, onlyAt, nb]  -- p39
    refine h _ _ ?_
    · clear h; grind (splits := 24) [si1, si2, ri1, ri2, ri3, ri34, ri5, rl1, rl2, rl3, rl3a, rl4, rl45, onlyAt, nb]  -- q40

theorem cutTape_c {C : rCx} (hC : cOK C)  {σ : rS}  {Q : rS → Prop} (hp : (σ.1 3 = 0 ∨ σ.1 3 = 65537) ∧ 0 ≤ σ.1 2 ∧ σ.1 2 ≤ 65536) (h : ∀ (σ' : rS), (((∀ k, k ≠ 4 → σ'.1 k = σ.1 k) ∧ (∀ k,  σ'.2.1 k = σ.2.1 k) ∧ (∀ k, k ≠ 5 → k ≠ 6 → k ≠ 7 → k ≠ 9 → σ'.2.2.1 k = σ.2.2.1 k) ∧ (∀ k j, k ≠ 5 → k ≠ 6 → k ≠ 7 → k ≠ 9 → σ'.2.2.1 k j = σ.2.2.1 k j) ∧ (∀ k j, k ≠ 8 → σ'.2.2.2 k j = σ.2.2.2 k j)) ∧ outB (σ.1 3) σ σ' ∧ 0 ≤ σ'.1 4 ∧ σ'.1 4 ≤ 65536 ∧ rd σ' 5 (σ.1 3 + σ'.1 4) = 5) → Q σ') : cV C 5 m_cutTape [.ref (co C)] σ Q := by
  refine m_cutTape_run hC ?_
  unfold w_cutTape_0
  have hj72 : ∀  (τ : rS), (((∀ k, k ≠ 4 → τ.1 k = σ.1 k) ∧ (∀ k,  τ.2.1 k = σ.2.1 k) ∧ (∀ k, k ≠ 5 → k ≠ 6 → k ≠ 7 → k ≠ 9 → τ.2.2.1 k = σ.2.2.1 k) ∧ (∀ k j, k ≠ 5 → k ≠ 6 → k ≠ 7 → k ≠ 9 → τ.2.2.1 k j = σ.2.2.1 k j) ∧ (∀ k j, k ≠ 8 → τ.2.2.2 k j = σ.2.2.2 k j)) ∧ outB (σ.1 3) σ τ ∧ 0 ≤ τ.1 4 ∧ τ.1 4 ≤ 65536) → w_cutTape_72 C Q   τ := by
    rintro  τ72 j72
    unfold w_cutTape_72
    refine ⟨ib_131074.mpr ?_, ?_⟩
    · clear h; grind (splits := 24) [si1, si2, ri1, ri2, ri3, ri34, ri5, ob_ri, ob_si2, ob_only, ob_refl, vb5]  -- b1
    intro σ_1 hσ_1
    refine ⟨ib_131074.mpr ?_, ?_⟩
    · clear h; grind (splits := 24) [si1, si2, ri1, ri2, ri3, ri34, ri5, ob_ri, ob_si2, ob_only, ob_refl, vb5]  -- b2
    intro σ_2 hσ_2
    refine ⟨ib_131074.mpr ?_, ?_⟩
    · clear h; grind (splits := 24) [si1, si2, ri1, ri2, ri3, ri34, ri5, ob_ri, ob_si2, ob_only, ob_refl, vb5]  -- b3
    intro σ_3 hσ_3
    refine h _ ?_
    · clear h; grind (splits := 24) [si1, si2, ri1, ri2, ri3, ri34, ri5, ob_ri, ob_si2, ob_only, ob_refl, vb5]  -- q4
  intro σ_4 hσ_4
  refine skip_c hC  ?_ (fun r5 q7 => ?_)
  · clear h; grind (splits := 24) [si1, si2, ri1, ri2, ri3, ri34, ri5, ob_ri, ob_si2, ob_only, ob_refl, vb5]  -- p5
  unfold w_cutTape_13
  refine ⟨fun n l1 l2 τ => n = (σ.1 2 - l1).toNatClampNeg ∧ (((∀ k, k ≠ 4 → τ.1 k = σ.1 k) ∧ (∀ k,  τ.2.1 k = σ.2.1 k) ∧ (∀ k, k ≠ 5 → k ≠ 6 → k ≠ 7 → k ≠ 9 → τ.2.2.1 k = σ.2.2.1 k) ∧ (∀ k j, k ≠ 5 → k ≠ 6 → k ≠ 7 → k ≠ 9 → τ.2.2.1 k j = σ.2.2.1 k j) ∧ (∀ k j, k ≠ 8 → τ.2.2.2 k j = σ.2.2.2 k j)) ∧ outB (σ.1 3) σ τ ∧ 0 ≤ τ.1 4 ∧ τ.1 4 ≤ l1 ∧ l1 ≤ σ.1 2), ⟨_, rfl, ?_⟩, ?_⟩
  · clear h; grind (splits := 24) [si1, si2, ri1, ri2, ri3, ri34, ri5, ob_ri, ob_si2, ob_only, ob_refl, vb5]  -- j6
  rintro n13 x13_1 x13_2 σ13 ⟨hn13, i13⟩
  refine ⟨fun c8 => ?_, fun c8 => ?_⟩
  · skip
    refine hj72 _ ?_
    · clear h; grind (splits := 24) [si1, si2, ri1, ri2, ri3, ri34, ri5, ob_ri, ob_si2, ob_only, ob_refl, vb5]  -- k7
  · skip
    refine ⟨fun c9 => ?_, fun c9 => ?_⟩
    · skip
      refine hj72 _ ?_
      · clear h; grind (splits := 24) [si1, si2, ri1, ri2, ri3, ri34, ri5, ob_ri, ob_si2, ob_only, ob_refl, vb5]  -- k8
    · skip
      refine take_c hC  ?_ (fun r10 σ_11 q12 => ?_)
      · clear h; grind (splits := 24) [si1, si2, ri1, ri2, ri3, ri34, ri5, ob_ri, ob_si2, ob_only, ob_refl, vb5]  -- p9
      refine skip_c hC  ?_ (fun r13 q15 => ?_)
      · clear h; grind (splits := 24) [si1, si2, ri1, ri2, ri3, ri34, ri5, ob_ri, ob_si2, ob_only, ob_refl, vb5]  -- p10
      refine ⟨ib_131074.mpr ?_, ?_⟩
      · clear h; grind (splits := 24) [si1, si2, ri1, ri2, ri3, ri34, ri5, ob_ri, ob_si2, ob_only, ob_refl, vb5]  -- b11
      refine ⟨fun c16 => ?_, fun c16 => ?_⟩
      · skip
        unfold w_cutTape_58
        intro σ_17 hσ_17
        refine ⟨_, cn_lt2 hn13 ?_ ?_, rfl, ?_⟩
        · clear h; grind (splits := 24) [si1, si2, ri1, ri2, ri3, ri34, ri5, ob_ri, ob_si2, ob_only, ob_refl, vb5]  -- d12
        · clear h; grind (splits := 24) [si1, si2, ri1, ri2, ri3, ri34, ri5, ob_ri, ob_si2, ob_only, ob_refl, vb5]  -- d13
        · clear h; grind (splits := 24) [si1, si2, ri1, ri2, ri3, ri34, ri5, ob_ri, ob_si2, ob_only, ob_refl, vb5]  -- i14
      · skip
        unfold w_cutTape_58
        intro σ_18 hσ_18
        refine ⟨_, cn_lt2 hn13 ?_ ?_, rfl, ?_⟩
        · clear h; grind (splits := 24) [si1, si2, ri1, ri2, ri3, ri34, ri5, ob_ri, ob_si2, ob_only, ob_refl, vb5]  -- d15
        · clear h; grind (splits := 24) [si1, si2, ri1, ri2, ri3, ri34, ri5, ob_ri, ob_si2, ob_only, ob_refl, vb5]  -- d16
        · clear h; grind (splits := 24) [si1, si2, ri1, ri2, ri3, ri34, ri5, ob_ri, ob_si2, ob_only, ob_refl, vb5]  -- i17

theorem feed_c {C : rCx} (hC : cOK C)  {σ : rS} {a1 : Int32} {a2 : Int32} {a3 : Int32} {a4 : Int32} {a5 : Int32} {Q : Int32 → rS → Prop} (hp : 0 ≤ σ.1 2 ∧ σ.1 2 ≤ 65536) (h : ∀ (v : Int32) (σ' : rS), (((∀ k, k ≠ 0 → k ≠ 2 → σ'.1 k = σ.1 k) ∧ (∀ k,  σ'.2.1 k = σ.2.1 k) ∧ (∀ k, k ≠ 1 → σ'.2.2.1 k = σ.2.2.1 k) ∧ (∀ k j, k ≠ 1 → σ'.2.2.1 k j = σ.2.2.1 k j) ∧ (∀ k j,  σ'.2.2.2 k j = σ.2.2.2 k j)) ∧ 0 ≤ σ'.1 2 ∧ σ'.1 2 ≤ 65536) → Q v σ') : cI C 0 m_feed [.ref (co C), .int a1, .int a2, .int a3, .int a4, .int a5] σ Q := by
  refine m_feed_run hC ?_
  unfold w_feed_0
  have hj18 : ∀ (l1 : Int32) (l2 : Int32) (l3 : Int32) (l4 : Int32) (l5 : Int32) (s1 : Int32) (τ : rS), (l1 = a1 ∧ l2 = a2 ∧ l3 = a3 ∧ l4 = a4 ∧ l5 = a5 ∧ τ = σ ∧ (s1 ≤ 0 → σ.1 2 + 20 ≤ 65536)) → w_feed_18 C Q  l1 l2 l3 l4 l5 s1 τ := by
    rintro y18_1 y18_2 y18_3 y18_4 y18_5 y18_s1 τ18 j18
    unfold w_feed_18
    intro σ_1 hσ_1
    refine ⟨fun c2 => ?_, fun c2 => ?_⟩
    · skip
      unfold w_feed_33
      refine ⟨fun n l1 l2 l3 l4 l5 l6 τ => n = (20 - l6).toNatClampNeg ∧ (l1 = a1 ∧ l2 = a2 ∧ l3 = a3 ∧ l4 = a4 ∧ l5 = a5 ∧ ((∀ k, k ≠ 0 → k ≠ 2 → τ.1 k = σ.1 k) ∧ (∀ k,  τ.2.1 k = σ.2.1 k) ∧ (∀ k, k ≠ 1 → τ.2.2.1 k = σ.2.2.1 k) ∧ (∀ k j, k ≠ 1 → τ.2.2.1 k j = σ.2.2.1 k j) ∧ (∀ k j,  τ.2.2.2 k j = σ.2.2.2 k j)) ∧ τ.1 2 = σ.1 2 + l6 ∧ 0 ≤ l6 ∧ l6 ≤ 20 ∧ σ.1 2 + 20 ≤ 65536), ⟨_, rfl, ?_⟩, ?_⟩
      · clear h; grind (splits := 24) [si1, si2, ri1, ri2, ri3, ri34, ri5, ob_ri, ob_si2, ob_only, ob_refl, vb5]  -- j1
      rintro n33 x33_1 x33_2 x33_3 x33_4 x33_5 x33_6 σ33 ⟨hn33, i33⟩
      have hj86 : ∀ (l1 : Int32) (l2 : Int32) (l3 : Int32) (l4 : Int32) (l5 : Int32) (l6 : Int32) (s0 : Int32) (τ : rS), (l1 = a1 ∧ l2 = a2 ∧ l3 = a3 ∧ l4 = a4 ∧ l5 = a5 ∧ τ = σ33 ∧ l6 = x33_6 ∧ l6 < 20) → w_feed_86 C Q (fun l1' l2' l3' l4' l5' l6' τ => ∃ k < n33, (fun n l1 l2 l3 l4 l5 l6 τ => n = (20 - l6).toNatClampNeg ∧ (l1 = a1 ∧ l2 = a2 ∧ l3 = a3 ∧ l4 = a4 ∧ l5 = a5 ∧ ((∀ k, k ≠ 0 → k ≠ 2 → τ.1 k = σ.1 k) ∧ (∀ k,  τ.2.1 k = σ.2.1 k) ∧ (∀ k, k ≠ 1 → τ.2.2.1 k = σ.2.2.1 k) ∧ (∀ k j, k ≠ 1 → τ.2.2.1 k j = σ.2.2.1 k j) ∧ (∀ k j,  τ.2.2.2 k j = σ.2.2.2 k j)) ∧ τ.1 2 = σ.1 2 + l6 ∧ 0 ≤ l6 ∧ l6 ≤ 20 ∧ σ.1 2 + 20 ≤ 65536)) k l1' l2' l3' l4' l5' l6' τ) l1 l2 l3 l4 l5 l6 s0 τ := by
        rintro y86_1 y86_2 y86_3 y86_4 y86_5 y86_6 y86_s0 τ86 j86
        unfold w_feed_86
        refine ⟨ib_65536.mpr ?_, ?_⟩
        · clear h; grind (splits := 24) [si1, si2, ri1, ri2, ri3, ri34, ri5, ob_ri, ob_si2, ob_only, ob_refl, vb5]  -- b2
        intro σ_3 hσ_3
        intro σ_4 hσ_4
        intro x5 hx5
        refine ⟨_, cn_lt2 hn33 ?_ ?_, rfl, ?_⟩
        · clear h; grind (splits := 24) [si1, si2, ri1, ri2, ri3, ri34, ri5, ob_ri, ob_si2, ob_only, ob_refl, vb5]  -- d3
        · clear h; grind (splits := 24) [si1, si2, ri1, ri2, ri3, ri34, ri5, ob_ri, ob_si2, ob_only, ob_refl, vb5]  -- d4
        · clear h; grind (splits := 24) [si1, si2, ri1, ri2, ri3, ri34, ri5, ob_ri, ob_si2, ob_only, ob_refl, vb5]  -- i5
      refine ⟨fun c6 => ?_, fun c6 => ?_⟩
      · skip
        refine h _ _ ?_
        · clear h; grind (splits := 24) [si1, si2, ri1, ri2, ri3, ri34, ri5, ob_ri, ob_si2, ob_only, ob_refl, vb5]  -- q6
      · skip
        refine ⟨fun c7 => ?_, fun c7 => ?_⟩
        · skip
          refine ⟨fun c8 => ?_, fun c8 => ?_⟩
          · skip
            refine ⟨fun c9 => ?_, fun c9 => ?_⟩
            · skip
              refine ⟨fun c10 => ?_, fun c10 => ?_⟩
              · skip
                refine hj86 _ _ _ _ _ _ _ _ ?_
                · clear h; grind (splits := 24) [si1, si2, ri1, ri2, ri3, ri34, ri5, ob_ri, ob_si2, ob_only, ob_refl, vb5]  -- k7
              · skip
                refine hj86 _ _ _ _ _ _ _ _ ?_
                · clear h; grind (splits := 24) [si1, si2, ri1, ri2, ri3, ri34, ri5, ob_ri, ob_si2, ob_only, ob_refl, vb5]  -- k8
            · skip
              refine hj86 _ _ _ _ _ _ _ _ ?_
              · clear h; grind (splits := 24) [si1, si2, ri1, ri2, ri3, ri34, ri5, ob_ri, ob_si2, ob_only, ob_refl, vb5]  -- k9
          · skip
            refine hj86 _ _ _ _ _ _ _ _ ?_
            · clear h; grind (splits := 24) [si1, si2, ri1, ri2, ri3, ri34, ri5, ob_ri, ob_si2, ob_only, ob_refl, vb5]  -- k10
        · skip
          refine hj86 _ _ _ _ _ _ _ _ ?_
          · clear h; grind (splits := 24) [si1, si2, ri1, ri2, ri3, ri34, ri5, ob_ri, ob_si2, ob_only, ob_refl, vb5]  -- k11
    · skip
      refine h _ _ ?_
      · clear h; grind (splits := 24) [si1, si2, ri1, ri2, ri3, ri34, ri5, ob_ri, ob_si2, ob_only, ob_refl, vb5]  -- q12
  refine ⟨fun c11 => ?_, fun c11 => ?_⟩
  · skip
    refine hj18 _ _ _ _ _ _ _ ?_
    · clear h; grind (splits := 24) [si1, si2, ri1, ri2, ri3, ri34, ri5, ob_ri, ob_si2, ob_only, ob_refl, vb5]  -- k13
  · skip
    refine hj18 _ _ _ _ _ _ _ ?_
    · clear h; grind (splits := 24) [si1, si2, ri1, ri2, ri3, ri34, ri5, ob_ri, ob_si2, ob_only, ob_refl, vb5]  -- k14

theorem end_c {C : rCx} (hC : cOK C)  {σ : rS} {a1 : Int32} {Q : rS → Prop} (hp : 0 ≤ σ.1 2 ∧ σ.1 2 ≤ 65536) (h : ∀ (σ' : rS), (((∀ k, k ≠ 0 → k ≠ 2 → σ'.1 k = σ.1 k) ∧ σ'.2 = σ.2) ∧ 0 ≤ σ'.1 2 ∧ σ'.1 2 ≤ 65536) → Q σ') : cV C 0 m_end [.ref (co C), .int a1] σ Q := by
  refine m_end_run hC ?_
  unfold w_end_0
  refine ⟨fun c1 => ?_, fun c1 => ?_⟩
  · skip
    unfold w_end_18
    intro σ_2 hσ_2
    refine ⟨fun c3 => ?_, fun c3 => ?_⟩
    · skip
      intro σ_4 hσ_4
      refine h _ ?_
      · clear h; grind (splits := 24) [si1, si2, ri1, ri2, ri3, ri34, ri5, ob_ri, ob_si2, ob_only, ob_refl, vb5]  -- q1
    · skip
      intro σ_5 hσ_5
      refine h _ ?_
      · clear h; grind (splits := 24) [si1, si2, ri1, ri2, ri3, ri34, ri5, ob_ri, ob_si2, ob_only, ob_refl, vb5]  -- q2
  · skip
    refine ⟨fun c6 => ?_, fun c6 => ?_⟩
    · skip
      unfold w_end_18
      intro σ_7 hσ_7
      refine ⟨fun c8 => ?_, fun c8 => ?_⟩
      · skip
        intro σ_9 hσ_9
        refine h _ ?_
        · clear h; grind (splits := 24) [si1, si2, ri1, ri2, ri3, ri34, ri5, ob_ri, ob_si2, ob_only, ob_refl, vb5]  -- q3
      · skip
        intro σ_10 hσ_10
        refine h _ ?_
        · clear h; grind (splits := 24) [si1, si2, ri1, ri2, ri3, ri34, ri5, ob_ri, ob_si2, ob_only, ob_refl, vb5]  -- q4
    · skip
      unfold w_end_18
      intro σ_11 hσ_11
      refine ⟨fun c12 => ?_, fun c12 => ?_⟩
      · skip
        intro σ_13 hσ_13
        refine h _ ?_
        · clear h; grind (splits := 24) [si1, si2, ri1, ri2, ri3, ri34, ri5, ob_ri, ob_si2, ob_only, ob_refl, vb5]  -- q5
      · skip
        intro σ_14 hσ_14
        refine h _ ?_
        · clear h; grind (splits := 24) [si1, si2, ri1, ri2, ri3, ri34, ri5, ob_ri, ob_si2, ob_only, ob_refl, vb5]  -- q6
