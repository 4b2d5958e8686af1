set_option maxHeartbeats 1600000
/-! the reference: small methods; an expression while a program runs -/
theorem store_c {C : rCx} (hC : cOK C)  {σ : rS} {a1 : Int32} {a2 : Int32} {Q : rS → Prop} (hp : (400 ≤ a1 ∧ a1 < 434) ∨ (100 ≤ a1 ∧ a1 < 108 ∧ 1 ≤ σ.1 58 ∧ σ.1 58 ≤ 12) ∨ (0 ≤ a1 ∧ a1 < 34)) (h : ∀ (σ' : rS), (((∀ k,  σ'.1 k = σ.1 k) ∧ (∀ k,  σ'.2.1 k = σ.2.1 k) ∧ (∀ k, k ≠ 57 → k ≠ 60 → σ'.2.2.1 k = σ.2.2.1 k) ∧ (∀ k j, k ≠ 57 → k ≠ 60 → σ'.2.2.1 k j = σ.2.2.1 k j) ∧ (∀ k j,  σ'.2.2.2 k j = σ.2.2.2 k j))) → Q σ') : cV C 0 m_store [.ref (co C), .int a1, .int a2] σ Q := by
  refine m_store_run hC ?_
  unfold w_store_0
  refine ⟨fun c1 => ?_, fun c1 => ?_⟩
  · skip
    refine ⟨fun c2 => ?_, fun c2 => ?_⟩
    · skip
      refine ⟨ib_34.mpr ?_, ?_⟩
      · clear h; grind [si1, si2, ri1, ri2, ri3, ri34, ri5, nb]  -- b1
      intro σ_3 hσ_3
      refine h _ ?_
      · clear h; grind [si1, si2, ri1, ri2, ri3, ri34, ri5, nb]  -- q2
    · skip
      refine ⟨ib_96.mpr ?_, ?_⟩
      · clear h; grind [si1, si2, ri1, ri2, ri3, ri34, ri5, nb]  -- b3
      intro σ_4 hσ_4
      refine h _ ?_
      · clear h; grind [si1, si2, ri1, ri2, ri3, ri34, ri5, nb]  -- q4
  · skip
    refine ⟨ib_34.mpr ?_, ?_⟩
    · clear h; grind [si1, si2, ri1, ri2, ri3, ri34, ri5, nb]  -- b5
    intro σ_5 hσ_5
    refine h _ ?_
    · clear h; grind [si1, si2, ri1, ri2, ri3, ri34, ri5, nb]  -- q6

theorem fail_c {C : rCx} (hC : cOK C)  {σ : rS} {a1 : Int32} {Q : Int32 → rS → Prop} (h : ∀ (v : Int32) (σ' : rS), (((∀ k, k ≠ 61 → σ'.1 k = σ.1 k) ∧ σ'.2 = σ.2) ∧ v = 2) → Q v σ') : cI C 0 m_fail [.ref (co C), .int a1] σ Q := by
  refine m_fail_run hC ?_
  unfold w_fail_0
  intro σ_1 hσ_1
  refine h _ _ ?_
  · clear h; grind [si1, si2, ri1, ri2, ri3, ri34, ri5, nb]  -- q1

theorem outcome_c {C : rCx} (hC : cOK C)  {σ : rS} {a1 : Int32} {a2 : Int32} {Q : rS → Prop} (hp : 0 ≤ σ.1 63 ∧ σ.1 63 < 64) (h : ∀ (σ' : rS), (((∀ k, k ≠ 63 → σ'.1 k = σ.1 k) ∧ (∀ k,  σ'.2.1 k = σ.2.1 k) ∧ (∀ k, k ≠ 64 → k ≠ 65 → σ'.2.2.1 k = σ.2.2.1 k) ∧ (∀ k j, k ≠ 64 → k ≠ 65 → σ'.2.2.1 k j = σ.2.2.1 k j) ∧ (∀ k j,  σ'.2.2.2 k j = σ.2.2.2 k j)) ∧ σ'.1 63 = σ.1 63 + 1 ∧ rd σ' 65 (σ.1 63) = a2 ∧ (∀ j, j ≠ (σ.1 63).toNatClampNeg → σ'.2.2.1 65 j = σ.2.2.1 65 j)) → Q σ') : cV C 0 m_outcome [.ref (co C), .int a1, .int a2] σ Q := by
  refine m_outcome_run hC ?_
  unfold w_outcome_0
  refine ⟨ib_64.mpr ?_, ?_⟩
  · clear h; grind [si1, si2, ri1, ri2, ri3, ri34, ri5, nb]  -- b1
  intro σ_1 hσ_1
  refine ⟨ib_64.mpr ?_, ?_⟩
  · clear h; grind [si1, si2, ri1, ri2, ri3, ri34, ri5, nb]  -- b2
  intro σ_2 hσ_2
  intro σ_3 hσ_3
  refine h _ ?_
  · clear h; grind [si1, si2, ri1, ri2, ri3, ri34, ri5, nb]  -- q3

theorem fault_c {C : rCx} (hC : cOK C)  {σ : rS}  {Q : Int32 → rS → Prop} (h : ∀ (v : Int32) (σ' : rS), (((∀ k, k ≠ 0 → σ'.1 k = σ.1 k) ∧ σ'.2 = σ.2)) → Q v σ') : cI C 0 m_fault [.ref (co C)] σ Q := by
  refine m_fault_run hC ?_
  unfold w_fault_0
  intro σ_1 hσ_1
  refine h _ _ ?_
  · clear h; grind [si1, si2, ri1, ri2, ri3, ri34, ri5, nb]  -- q1

theorem forget_c {C : rCx} (hC : cOK C)  {σ : rS}  {Q : Int32 → rS → Prop} (h : ∀ (v : Int32) (σ' : rS), (((∀ k, k ≠ 0 → k ≠ 104 → σ'.1 k = σ.1 k) ∧ σ'.2 = σ.2) ∧ v = σ.1 104 ∧ σ'.1 104 = 0) → Q v σ') : cI C 0 m_forget [.ref (co C)] σ Q := by
  refine m_forget_run hC ?_
  unfold w_forget_0
  intro σ_1 hσ_1
  intro x2 hx2
  intro σ_3 hσ_3
  refine h _ _ ?_
  · clear h; grind [si1, si2, ri1, ri2, ri3, ri34, ri5, nb]  -- q1

theorem tell_c {C : rCx} (hC : cOK C)  {σ : rS} {a1 : Int32} {Q : Int32 → rS → Prop} (hp : 0 ≤ σ.1 104 ∧ σ.1 104 ≤ 200) (h : ∀ (v : Int32) (σ' : rS), (((∀ k, k ≠ 0 → k ≠ 104 → σ'.1 k = σ.1 k) ∧ (∀ k,  σ'.2.1 k = σ.2.1 k) ∧ (∀ k, k ≠ 105 → σ'.2.2.1 k = σ.2.2.1 k) ∧ (∀ k j, k ≠ 105 → σ'.2.2.1 k j = σ.2.2.1 k j) ∧ (∀ k j,  σ'.2.2.2 k j = σ.2.2.2 k j)) ∧ 0 ≤ σ'.1 104 ∧ σ'.1 104 ≤ 200 ∧ (σ.1 104 = 200 → v = 0 ∧ σ'.1 104 = 200 ∧ σ'.1 0 = 1) ∧ (σ.1 104 ≠ 200 → v = σ.1 104 + 1 ∧ σ'.1 104 = σ.1 104 + 1 ∧ σ'.1 0 = 0)) → Q v σ') : cI C 0 m_tell [.ref (co C), .int a1] σ Q := by
  refine m_tell_run hC ?_
  unfold w_tell_0
  refine ⟨fun c1 => ?_, fun c1 => ?_⟩
  · skip
    unfold w_tell_16
    intro σ_2 hσ_2
    refine ⟨fun c3 => ?_, fun c3 => ?_⟩
    · skip
      refine ⟨ib_200.mpr ?_, ?_⟩
      · clear h; grind [si1, si2, ri1, ri2, ri3, ri34, ri5, nb]  -- b1
      intro σ_4 hσ_4
      intro σ_5 hσ_5
      refine h _ _ ?_
      · clear h; grind [si1, si2, ri1, ri2, ri3, ri34, ri5, nb]  -- q2
    · skip
      refine h _ _ ?_
      · clear h; grind [si1, si2, ri1, ri2, ri3, ri34, ri5, nb]  -- q3
  · skip
    unfold w_tell_16
    intro σ_6 hσ_6
    refine ⟨fun c7 => ?_, fun c7 => ?_⟩
    · skip
      refine ⟨ib_200.mpr ?_, ?_⟩
      · clear h; grind [si1, si2, ri1, ri2, ri3, ri34, ri5, nb]  -- b4
      intro σ_8 hσ_8
      intro σ_9 hσ_9
      refine h _ _ ?_
      · clear h; grind [si1, si2, ri1, ri2, ri3, ri34, ri5, nb]  -- q5
    · skip
      refine h _ _ ?_
      · clear h; grind [si1, si2, ri1, ri2, ri3, ri34, ri5, nb]  -- q6

theorem isSlot_c {C : rCx} (hC : cOK C)  {σ : rS} {a0 : Int32} {a1 : Int32} {Q : Int32 → rS → Prop} (h : ∀ (v : Int32), (nb v ∧ (v ≠ 0 ↔ 0 ≤ a0 ∧ a0 < a1)) → Q v σ) : cI C 0 m_isSlot [.int a0, .int a1] σ Q := by
  refine m_isSlot_run hC ?_
  unfold w_isSlot_0
  refine ⟨fun c1 => ?_, fun c1 => ?_⟩
  · skip
    refine h _ ?_
    · clear h; grind [si1, si2, ri1, ri2, ri3, ri34, ri5, nb]  -- q1
  · skip
    refine ⟨fun c2 => ?_, fun c2 => ?_⟩
    · skip
      refine h _ ?_
      · clear h; grind [si1, si2, ri1, ri2, ri3, ri34, ri5, nb]  -- q2
    · skip
      refine h _ ?_
      · clear h; grind [si1, si2, ri1, ri2, ri3, ri34, ri5, nb]  -- q3

theorem isZero_c {C : rCx} (hC : cOK C)  {σ : rS} {a1 : Int32} {Q : Int32 → rS → Prop} (hp : 0 ≤ a1 ∧ a1 < 30) (h : ∀ (v : Int32), (nb v ∧ (v ≠ 0 ↔ rd σ 91 a1 = 0)) → Q v σ) : cI C 0 m_isZero [.ref (co C), .int a1] σ Q := by
  refine m_isZero_run hC ?_
  unfold w_isZero_0
  refine ⟨ib_30.mpr ?_, ?_⟩
  · clear h; grind [si1, si2, ri1, ri2, ri3, ri34, ri5, nb]  -- b1
  refine ⟨fun c1 => ?_, fun c1 => ?_⟩
  · skip
    refine h _ ?_
    · clear h; grind [si1, si2, ri1, ri2, ri3, ri34, ri5, nb]  -- q2
  · skip
    refine h _ ?_
    · clear h; grind [si1, si2, ri1, ri2, ri3, ri34, ri5, nb]  -- q3

theorem isLong_c {C : rCx} (hC : cOK C)  {σ : rS} {a1 : Int32} {Q : Int32 → rS → Prop} (hp : 0 ≤ a1 ∧ a1 < 30) (h : ∀ (v : Int32), (nb v ∧ (v ≠ 0 ↔ 16 < rd σ 91 a1)) → Q v σ) : cI C 0 m_isLong [.ref (co C), .int a1] σ Q := by
  refine m_isLong_run hC ?_
  unfold w_isLong_0
  refine ⟨ib_30.mpr ?_, ?_⟩
  · clear h; grind [si1, si2, ri1, ri2, ri3, ri34, ri5, nb]  -- b1
  refine ⟨fun c1 => ?_, fun c1 => ?_⟩
  · skip
    refine h _ ?_
    · clear h; grind [si1, si2, ri1, ri2, ri3, ri34, ri5, nb]  -- q2
  · skip
    refine h _ ?_
    · clear h; grind [si1, si2, ri1, ri2, ri3, ri34, ri5, nb]  -- q3

theorem isTaken_c {C : rCx} (hC : cOK C)  {σ : rS} {a1 : Int32} {a2 : Int32} {a3 : Int32} {Q : Int32 → rS → Prop} (hp : 0 ≤ a1 ∧ a1 < 1000) (h : ∀ (v : Int32), (nb v ∧ (v ≠ 0 ↔ a3 = 0 ∨ rd σ 81 a1 = 0 ∨ a2 = rd σ 76 a1 + rd σ 83 a1)) → Q v σ) : cI C 0 m_isTaken [.ref (co C), .int a1, .int a2, .int a3] σ Q := by
  refine m_isTaken_run hC ?_
  unfold w_isTaken_0
  refine ⟨fun c1 => ?_, fun c1 => ?_⟩
  · skip
    refine h _ ?_
    · clear h; grind [si1, si2, ri1, ri2, ri3, ri34, ri5, nb]  -- q1
  · skip
    refine ⟨ib_1000.mpr ?_, ?_⟩
    · clear h; grind [si1, si2, ri1, ri2, ri3, ri34, ri5, nb]  -- b2
    refine ⟨fun c2 => ?_, fun c2 => ?_⟩
    · skip
      refine h _ ?_
      · clear h; grind [si1, si2, ri1, ri2, ri3, ri34, ri5, nb]  -- q3
    · skip
      refine ⟨ib_1001.mpr ?_, ?_⟩
      · clear h; grind [si1, si2, ri1, ri2, ri3, ri34, ri5, nb]  -- b4
      refine ⟨ib_1000.mpr ?_, ?_⟩
      · clear h; grind [si1, si2, ri1, ri2, ri3, ri34, ri5, nb]  -- b5
      refine ⟨fun c3 => ?_, fun c3 => ?_⟩
      · skip
        refine h _ ?_
        · clear h; grind [si1, si2, ri1, ri2, ri3, ri34, ri5, nb]  -- q6
      · skip
        refine h _ ?_
        · clear h; grind [si1, si2, ri1, ri2, ri3, ri34, ri5, nb]  -- q7

theorem weightOf_c {C : rCx} (hC : cOK C)  {σ : rS} {a1 : Int32} {a2 : Int32} {Q : Int64 → rS → Prop} (hp : 0 ≤ a1 ∧ a1 < 1000 ∧ 0 ≤ a2 ∧ a2 < 20000) (h : ∀ (v : Int64), ((rd σ 81 a1 = 0 → v = (rd σ 79 a2).toInt64) ∧ (rd σ 81 a1 ≠ 0 → v = 1)) → Q v σ) : cJ C 0 m_weightOf [.ref (co C), .int a1, .int a2] σ Q := by
  refine m_weightOf_run hC ?_
  unfold w_weightOf_0
  refine ⟨ib_1000.mpr ?_, ?_⟩
  · clear h; grind [si1, si2, ri1, ri2, ri3, ri34, ri5, nb]  -- b1
  refine ⟨fun c1 => ?_, fun c1 => ?_⟩
  · skip
    refine ⟨ib_20000.mpr ?_, ?_⟩
    · clear h; grind [si1, si2, ri1, ri2, ri3, ri34, ri5, nb]  -- b2
    refine h _ ?_
    · clear h; grind [si1, si2, ri1, ri2, ri3, ri34, ri5, nb]  -- q3
  · skip
    refine h _ ?_
    · clear h; grind [si1, si2, ri1, ri2, ri3, ri34, ri5, nb]  -- q4

theorem totalOf_c {C : rCx} (hC : cOK C)  {σ : rS} {a1 : Int32} {Q : Int64 → rS → Prop} (hp : 0 ≤ a1 ∧ a1 < 1000) (h : ∀ (v : Int64), ((rd σ 81 a1 = 0 → v = (rd σ 80 a1).toInt64) ∧ (rd σ 81 a1 ≠ 0 → v = 1)) → Q v σ) : cJ C 0 m_totalOf [.ref (co C), .int a1] σ Q := by
  refine m_totalOf_run hC ?_
  unfold w_totalOf_0
  refine ⟨ib_1000.mpr ?_, ?_⟩
  · clear h; grind [si1, si2, ri1, ri2, ri3, ri34, ri5, nb]  -- b1
  refine ⟨fun c1 => ?_, fun c1 => ?_⟩
  · skip
    refine ⟨ib_1000.mpr ?_, ?_⟩
    · clear h; grind [si1, si2, ri1, ri2, ri3, ri34, ri5, nb]  -- b2
    refine h _ ?_
    · clear h; grind [si1, si2, ri1, ri2, ri3, ri34, ri5, nb]  -- q3
  · skip
    refine h _ ?_
    · clear h; grind [si1, si2, ri1, ri2, ri3, ri34, ri5, nb]  -- q4

theorem isState_c {C : rCx} (hC : cOK C)  {σ : rS} {a1 : Int32} {Q : Int32 → rS → Prop} (h : ∀ (v : Int32), (nb v ∧ (v ≠ 0 ↔ σ.1 69 ≠ 0 ∧ 0 ≤ a1 ∧ a1 < σ.1 70)) → Q v σ) : cI C 0 m_isState [.ref (co C), .int a1] σ Q := by
  refine m_isState_run hC ?_
  unfold w_isState_0
  refine ⟨fun c1 => ?_, fun c1 => ?_⟩
  · skip
    refine h _ ?_
    · clear h; grind [si1, si2, ri1, ri2, ri3, ri34, ri5, nb]  -- q1
  · skip
    refine ⟨fun c2 => ?_, fun c2 => ?_⟩
    · skip
      refine h _ ?_
      · clear h; grind [si1, si2, ri1, ri2, ri3, ri34, ri5, nb]  -- q2
    · skip
      refine ⟨fun c3 => ?_, fun c3 => ?_⟩
      · skip
        refine h _ ?_
        · clear h; grind [si1, si2, ri1, ri2, ri3, ri34, ri5, nb]  -- q3
      · skip
        refine h _ ?_
        · clear h; grind [si1, si2, ri1, ri2, ri3, ri34, ri5, nb]  -- q4

/-- the tokens of a program that runs -/
def tR (σ : rS) (B T : Int32) : Prop := 0 ≤ B ∧ B ≤ T ∧ T < 131074 ∧ T.toInt - B.toInt ≤ 65536 ∧ rd σ 5 T = 5
theorem workAt_c {C : rCx} (hC : cOK C) (B T : Int32) {σ : rS} {a1 : Int32} {Q : Int32 → rS → Prop} (hp : tR σ B T ∧ tF σ ∧ tN σ ∧ tA σ ∧ σ.1 46 = 1 ∧ 1 ≤ σ.1 58 ∧ σ.1 58 ≤ 12 ∧ σ.1 11 = 0 ∧ σ.1 47 = 0 ∧ σ.1 13 = 0 ∧ B ≤ a1 ∧ a1 ≤ T ∧ ∃ e, ePa (σ.2.2.1 5) (σ.2.2.1 7) (σ.2.2.1 39) a1 e) (h : ∀ (v : Int32) (σ' : rS), (0 ≤ σ'.1 47 ∧ (∀ k, k ≠ 10 → k ≠ 11 → k ≠ 12 → k ≠ 13 → k ≠ 47 → k ≠ 48 → k ≠ 49 → σ'.1 k = σ.1 k) ∧ (∀ k, σ'.2.1 k = σ.2.1 k) ∧ (∀ k, k ≠ 50 → k ≠ 51 → k ≠ 52 → σ'.2.2.1 k = σ.2.2.1 k) ∧ (∀ k j, σ'.2.2.2 k j = σ.2.2.2 k j) ∧ B ≤ σ'.1 10 ∧ σ'.1 10 ≤ T ∧ (σ'.1 47 = 0 → σ'.1 11 = 0 ∧ σ'.1 13 = 0 ∧ ∀ e, ePa (σ.2.2.1 5) (σ.2.2.1 7) (σ.2.2.1 39) a1 e → σ'.1 10 = e)) → Q v σ') : cI C 7 m_workAt [.ref (co C), .int a1] σ Q := by
  refine m_workAt_run hC ?_
  unfold w_workAt_0
  obtain ⟨⟨t1, t2, t3, t4, t5⟩, hF, hN, hA, h46, h58, h58', h11, h47, h13, hB, hT, hE⟩ := hp
  intro σ_1 hσ_1
  have e1 : ∀ k, k ≠ 10 → σ_1.1 k = σ.1 k := fun k hk => by rw [hσ_1, si1, if_neg hk]
  have e10 : σ_1.1 10 = a1 := by rw [hσ_1, si1, if_pos rfl]
  have s1 : σ_1.2 = σ.2 := by rw [hσ_1, si2]
  have e46 : σ_1.1 46 = 1 := (e1 46 (by decide)).trans h46
  refine expression_c hC B T 0 ?_ (fun r2 σ_3 q4 => ?_)
  · clear h; refine ⟨⟨t1, t2, t3, ⟨by rw [rd, s1]; exact t5, by rw [e1 11 (by decide), h11]; decide, by rw [e1 47 (by decide), h47]; decide⟩, by rw [e10]; exact hB, by rw [e10]; exact hT⟩, ⟨t1, by rw [e10]; exact hB, Int32.le_refl _, by rw [e10]; exact hT, t3, t4⟩, Or.inr ⟨e46, by rw [e1 58 (by decide)]; exact h58, by rw [e1 58 (by decide)]; exact h58', rfl⟩, ?_, ?_, ?_, ⟨by rw [e1 13 (by decide), h13]; decide, by rw [e1 13 (by decide), h13]; decide, by rw [e1 13 (by decide), h13]; rfl⟩, fun z => by rw [e46] at z; exact absurd z (by decide), fun _ => ⟨(e1 11 (by decide)).trans h11, (e1 47 (by decide)).trans h47, by rw [s1, e10]; exact hE⟩⟩
    · show tyF _ _ _ _ _ _ _ _
      rw [e1 15 (by decide), e1 16 (by decide), e1 17 (by decide), e1 18 (by decide), e1 19 (by decide), e1 40 (by decide), e1 41 (by decide), e1 42 (by decide)]
      exact hF
    · show tyN _ _ _ _ _ _
      rw [s1]; exact hN
    · show tyA _ _
      rw [s1]; exact hA
  refine h _ _ ?_
  · clear h; obtain ⟨w1, w2, w3, w4, w5, w6, w7⟩ := q4
    have nz : σ_1.1 46 ≠ 0 := by rw [e46]; decide
    have r39 : σ_3.2.2.1 39 = σ.2.2.1 39 := by rw [(w4 nz).1, s1]
    refine ⟨w2.2.2.2.1.2.2, fun k z1 z2 z3 z4 z5 z6 z7 => (w1.1 k z1 z2 z3 z4 z5 z6 z7).trans (e1 k z1), fun k => by rw [w1.2.1 k, s1], fun k z1 z2 z3 => ?_, fun k j => by rw [w1.2.2.2.2 k j, s1], w2.2.2.2.2.1, w2.2.2.2.2.2, fun f => ?_⟩
    · by_cases e : k = 39
      · rw [e]; exact r39
      · rw [w1.2.2.1 k e z1 z2 z3, s1]
    · obtain ⟨f1, f2⟩ := (w4 nz).2 f
      have w := w6 f1 f
      refine ⟨f1, cn_inj w.2.2.2.1 (by decide) (by rw [w.2.2.2.2.2]; rfl), fun e he => ?_⟩
      have := f2 e
      rw [s1, e10] at this
      exact this he
