set_option maxHeartbeats 1600000
/-! the reference: marks, faults, steps over tokens -/
/-- the tokens of a text from B to its end T -/
def tK (σ : rS) (B T : Int32) : Prop := 0 ≤ B ∧ B ≤ T ∧ T < 131074 ∧ (rd σ 5 T = 5 ∧ 0 ≤ σ.1 11 ∧ 0 ≤ σ.1 47) ∧ B ≤ σ.1 10 ∧ σ.1 10 ≤ T
theorem within_c {C : rCx} (hC : cOK C)  {σ : rS} {a0 : Int32} {a1 : Int32} {a2 : Int32} {Q : Int32 → rS → Prop} (h : ∀ (v : Int32), (nb v ∧ (v ≠ 0 ↔ a1 ≤ a0 ∧ a0 ≤ a2)) → Q v σ) : cI C 0 m_within [.int a0, .int a1, .int a2] σ Q := by
  refine m_within_run hC ?_
  unfold w_within_0
  refine ⟨fun c1 => ?_, fun c1 => ?_⟩
  · skip
    refine h _ ?_
    · clear h; grind [nb]  -- q1
  · skip
    refine ⟨fun c2 => ?_, fun c2 => ?_⟩
    · skip
      refine h _ ?_
      · clear h; grind [nb]  -- q2
    · skip
      refine h _ ?_
      · clear h; grind [nb]  -- q3

def lett (c : Int32) : Prop := (97 ≤ c ∧ c ≤ 122) ∨ (65 ≤ c ∧ c ≤ 90) ∨ c = 95
theorem byteAt_c {C : rCx} (hC : cOK C)  {σ : rS} {a1 : Int32} {Q : Int32 → rS → Prop} (hp : 0 ≤ a1 ∧ σ.1 2 ≤ 65536) (h : ∀ (v : Int32), (v = bAt (σ.1 2) (σ.2.2.1 1) a1 ∧ (v ≠ -1 → a1 < σ.1 2)) → Q v σ) : cI C 0 m_byteAt [.ref (co C), .int a1] σ Q := by
  refine m_byteAt_run hC ?_
  unfold w_byteAt_0
  refine ⟨fun c1 => ?_, fun c1 => ?_⟩
  · skip
    refine h _ ?_
    · clear h; grind [bAt]  -- q1
  · skip
    refine ⟨ib_65536.mpr ?_, ?_⟩
    · clear h; grind [bAt]  -- b2
    refine h _ ?_
    · clear h; grind [bAt]  -- q3

theorem isLetter_c {C : rCx} (hC : cOK C)  {σ : rS} {a0 : Int32} {Q : Int32 → rS → Prop} (h : ∀ (v : Int32), (nb v ∧ (v ≠ 0 ↔ lett a0)) → Q v σ) : cI C 0 m_isLetter [.int a0] σ Q := by
  refine m_isLetter_run hC ?_
  unfold w_isLetter_0
  refine ⟨fun c1 => ?_, fun c1 => ?_⟩
  · skip
    unfold w_isLetter_12
    refine ⟨fun c2 => ?_, fun c2 => ?_⟩
    · skip
      unfold w_isLetter_24
      refine ⟨fun c3 => ?_, fun c3 => ?_⟩
      · skip
        refine h _ ?_
        · clear h; grind [nb, lett]  -- q1
      · skip
        refine h _ ?_
        · clear h; grind [nb, lett]  -- q2
    · skip
      refine ⟨fun c4 => ?_, fun c4 => ?_⟩
      · skip
        refine h _ ?_
        · clear h; grind [nb, lett]  -- q3
      · skip
        unfold w_isLetter_24
        refine ⟨fun c5 => ?_, fun c5 => ?_⟩
        · skip
          refine h _ ?_
          · clear h; grind [nb, lett]  -- q4
        · skip
          refine h _ ?_
          · clear h; grind [nb, lett]  -- q5
  · skip
    refine ⟨fun c6 => ?_, fun c6 => ?_⟩
    · skip
      refine h _ ?_
      · clear h; grind [nb, lett]  -- q6
    · skip
      unfold w_isLetter_12
      refine ⟨fun c7 => ?_, fun c7 => ?_⟩
      · skip
        unfold w_isLetter_24
        refine ⟨fun c8 => ?_, fun c8 => ?_⟩
        · skip
          refine h _ ?_
          · clear h; grind [nb, lett]  -- q7
        · skip
          refine h _ ?_
          · clear h; grind [nb, lett]  -- q8
      · skip
        refine ⟨fun c9 => ?_, fun c9 => ?_⟩
        · skip
          refine h _ ?_
          · clear h; grind [nb, lett]  -- q9
        · skip
          unfold w_isLetter_24
          refine ⟨fun c10 => ?_, fun c10 => ?_⟩
          · skip
            refine h _ ?_
            · clear h; grind [nb, lett]  -- q10
          · skip
            refine h _ ?_
            · clear h; grind [nb, lett]  -- q11

theorem isDigit_c {C : rCx} (hC : cOK C)  {σ : rS} {a0 : Int32} {Q : Int32 → rS → Prop} (h : ∀ (v : Int32), (nb v ∧ (v ≠ 0 ↔ 48 ≤ a0 ∧ a0 ≤ 57)) → Q v σ) : cI C 0 m_isDigit [.int a0] σ Q := by
  refine m_isDigit_run hC ?_
  unfold w_isDigit_0
  refine ⟨fun c1 => ?_, fun c1 => ?_⟩
  · skip
    refine h _ ?_
    · clear h; grind [nb]  -- q1
  · skip
    refine ⟨fun c2 => ?_, fun c2 => ?_⟩
    · skip
      refine h _ ?_
      · clear h; grind [nb]  -- q2
    · skip
      refine h _ ?_
      · clear h; grind [nb]  -- q3

theorem isBlank_c {C : rCx} (hC : cOK C)  {σ : rS} {a0 : Int32} {Q : Int32 → rS → Prop} (h : ∀ (v : Int32), (nb v ∧ (v ≠ 0 → 9 ≤ a0)) → Q v σ) : cI C 0 m_isBlank [.int a0] σ Q := by
  refine m_isBlank_run hC ?_
  unfold w_isBlank_0
  refine ⟨fun c1 => ?_, fun c1 => ?_⟩
  · skip
    refine h _ ?_
    · clear h; grind [nb]  -- q1
  · skip
    refine ⟨fun c2 => ?_, fun c2 => ?_⟩
    · skip
      refine h _ ?_
      · clear h; grind [nb]  -- q2
    · skip
      refine ⟨fun c3 => ?_, fun c3 => ?_⟩
      · skip
        refine h _ ?_
        · clear h; grind [nb]  -- q3
      · skip
        refine ⟨fun c4 => ?_, fun c4 => ?_⟩
        · skip
          refine h _ ?_
          · clear h; grind [nb]  -- q4
        · skip
          refine h _ ?_
          · clear h; grind [nb]  -- q5

theorem isSign_c {C : rCx} (hC : cOK C)  {σ : rS} {a0 : Int32} {Q : Int32 → rS → Prop} (h : ∀ (v : Int32), (nb v) → Q v σ) : cI C 0 m_isSign [.int a0] σ Q := by
  refine m_isSign_run hC ?_
  unfold w_isSign_0
  refine ⟨fun c1 => ?_, fun c1 => ?_⟩
  · skip
    refine h _ ?_
    · clear h; first | exact nb_0 | exact nb_1  -- q1
  · skip
    refine ⟨fun c2 => ?_, fun c2 => ?_⟩
    · skip
      refine h _ ?_
      · clear h; first | exact nb_0 | exact nb_1  -- q2
    · skip
      refine ⟨fun c3 => ?_, fun c3 => ?_⟩
      · skip
        refine h _ ?_
        · clear h; first | exact nb_0 | exact nb_1  -- q3
      · skip
        refine ⟨fun c4 => ?_, fun c4 => ?_⟩
        · skip
          refine h _ ?_
          · clear h; first | exact nb_0 | exact nb_1  -- q4
        · skip
          refine ⟨fun c5 => ?_, fun c5 => ?_⟩
          · skip
            refine h _ ?_
            · clear h; first | exact nb_0 | exact nb_1  -- q5
          · skip
            refine ⟨fun c6 => ?_, fun c6 => ?_⟩
            · skip
              refine h _ ?_
              · clear h; first | exact nb_0 | exact nb_1  -- q6
            · skip
              refine ⟨fun c7 => ?_, fun c7 => ?_⟩
              · skip
                refine h _ ?_
                · clear h; first | exact nb_0 | exact nb_1  -- q7
              · skip
                refine ⟨fun c8 => ?_, fun c8 => ?_⟩
                · skip
                  refine h _ ?_
                  · clear h; first | exact nb_0 | exact nb_1  -- q8
                · skip
                  refine ⟨fun c9 => ?_, fun c9 => ?_⟩
                  · skip
                    refine h _ ?_
                    · clear h; first | exact nb_0 | exact nb_1  -- q9
                  · skip
                    refine ⟨fun c10 => ?_, fun c10 => ?_⟩
                    · skip
                      refine h _ ?_
                      · clear h; first | exact nb_0 | exact nb_1  -- q10
                    · skip
                      refine ⟨fun c11 => ?_, fun c11 => ?_⟩
                      · skip
                        refine h _ ?_
                        · clear h; first | exact nb_0 | exact nb_1  -- q11
                      · skip
                        refine ⟨fun c12 => ?_, fun c12 => ?_⟩
                        · skip
                          refine h _ ?_
                          · clear h; first | exact nb_0 | exact nb_1  -- q12
                        · skip
                          refine ⟨fun c13 => ?_, fun c13 => ?_⟩
                          · skip
                            refine h _ ?_
                            · clear h; first | exact nb_0 | exact nb_1  -- q13
                          · skip
                            refine ⟨fun c14 => ?_, fun c14 => ?_⟩
                            · skip
                              refine h _ ?_
                              · clear h; first | exact nb_0 | exact nb_1  -- q14
                            · skip
                              refine ⟨fun c15 => ?_, fun c15 => ?_⟩
                              · skip
                                refine h _ ?_
                                · clear h; first | exact nb_0 | exact nb_1  -- q15
                              · skip
                                refine ⟨fun c16 => ?_, fun c16 => ?_⟩
                                · skip
                                  refine h _ ?_
                                  · clear h; first | exact nb_0 | exact nb_1  -- q16
                                · skip
                                  refine ⟨fun c17 => ?_, fun c17 => ?_⟩
                                  · skip
                                    refine h _ ?_
                                    · clear h; first | exact nb_0 | exact nb_1  -- q17
                                  · skip
                                    refine ⟨fun c18 => ?_, fun c18 => ?_⟩
                                    · skip
                                      refine h _ ?_
                                      · clear h; first | exact nb_0 | exact nb_1  -- q18
                                    · skip
                                      refine ⟨fun c19 => ?_, fun c19 => ?_⟩
                                      · skip
                                        refine h _ ?_
                                        · clear h; first | exact nb_0 | exact nb_1  -- q19
                                      · skip
                                        refine ⟨fun c20 => ?_, fun c20 => ?_⟩
                                        · skip
                                          refine h _ ?_
                                          · clear h; first | exact nb_0 | exact nb_1  -- q20
                                        · skip
                                          refine ⟨fun c21 => ?_, fun c21 => ?_⟩
                                          · skip
                                            refine h _ ?_
                                            · clear h; first | exact nb_0 | exact nb_1  -- q21
                                          · skip
                                            refine h _ ?_
                                            · clear h; first | exact nb_0 | exact nb_1  -- q22

theorem skip_c {C : rCx} (hC : cOK C)  {σ : rS} {a1 : Int32} {Q : Int32 → rS → Prop} (hp : 0 ≤ a1 ∧ a1 ≤ σ.1 2 ∧ σ.1 2 ≤ 65536) (h : ∀ (v : Int32), (a1 ≤ v ∧ v ≤ σ.1 2) → Q v σ) : cI C 1 m_skip [.ref (co C), .int a1] σ Q := by
  refine m_skip_run hC ?_
  unfold w_skip_0
  unfold w_skip_2
  refine ⟨fun n l2 τ => n = (σ.1 2 - l2).toNatClampNeg ∧ (σ = τ ∧ a1 ≤ l2 ∧ l2 ≤ σ.1 2), ⟨_, rfl, ?_⟩, ?_⟩
  · clear h; grind  -- j1
  rintro n2 x2_2 _ ⟨hn2, rfl, i2⟩
  have hj23 : ∀ (l2 : Int32) (τ : rS), (σ = τ ∧ l2 = x2_2 ∧ l2 < σ.1 2) → w_skip_23 C Q (fun l2' τ => ∃ k < n2, (fun n l2 τ => n = (σ.1 2 - l2).toNatClampNeg ∧ (σ = τ ∧ a1 ≤ l2 ∧ l2 ≤ σ.1 2)) k l2' τ) l2 τ := by
    rintro y23_2 _ ⟨rfl, j23⟩
    unfold w_skip_23
    refine byteAt_c hC  ?_ (fun r1 q3 => ?_)
    · clear h; grind  -- p2
    refine ⟨fun c4 => ?_, fun c4 => ?_⟩
    · skip
      intro x5 hx5
      refine ⟨_, cn_lt2 hn2 ?_ ?_, rfl, ?_⟩
      · clear h; grind  -- d3
      · clear h; grind  -- d4
      · clear h; grind  -- i5
    · skip
      unfold w_skip_33
      refine ⟨fun n l2 τ => n = (σ.1 2 - l2).toNatClampNeg ∧ (σ = τ ∧ x2_2 ≤ l2 ∧ l2 ≤ σ.1 2 ∧ (l2 = x2_2 → bAt (σ.1 2) (σ.2.2.1 1) l2 = 35)), ⟨_, rfl, ?_⟩, ?_⟩
      · clear h; grind  -- j6
      rintro n33 x33_2 _ ⟨hn33, rfl, i33⟩
      refine ⟨fun c6 => ?_, fun c6 => ?_⟩
      · skip
        refine ⟨_, cn_lt2 hn2 ?_ ?_, rfl, ?_⟩
        · clear h; grind  -- d7
        · clear h; grind  -- d8
        · clear h; grind  -- i9
      · skip
        refine byteAt_c hC  ?_ (fun r7 q9 => ?_)
        · clear h; grind  -- p10
        refine ⟨fun c10 => ?_, fun c10 => ?_⟩
        · skip
          refine ⟨_, cn_lt2 hn2 ?_ ?_, rfl, ?_⟩
          · clear h; grind  -- d11
          · clear h; grind  -- d12
          · clear h; grind  -- i13
        · skip
          intro x11 hx11
          refine ⟨_, cn_lt2 hn33 ?_ ?_, rfl, ?_⟩
          · clear h; grind  -- d14
          · clear h; grind  -- d15
          · clear h; grind  -- i16
  refine byteAt_c hC  ?_ (fun r12 q14 => ?_)
  · clear h; grind  -- p17
  refine isBlank_c hC  (fun r15 q17 => ?_)
  refine ⟨fun c18 => ?_, fun c18 => ?_⟩
  · skip
    refine hj23 _ _ ?_
    · clear h; grind  -- k18
  · skip
    refine byteAt_c hC  ?_ (fun r19 q21 => ?_)
    · clear h; grind  -- p19
    refine ⟨fun c22 => ?_, fun c22 => ?_⟩
    · skip
      refine h _ ?_
      · clear h; grind  -- q20
    · skip
      refine hj23 _ _ ?_
      · clear h; grind  -- k21

theorem isRight_c {C : rCx} (hC : cOK C)  {σ : rS}  {Q : Int32 → rS → Prop} (h : ∀ (v : Int32), (nb v ∧ (v ≠ 0 ↔ σ.1 11 = 0)) → Q v σ) : cI C 0 m_isRight [.ref (co C)] σ Q := by
  refine m_isRight_run hC ?_
  unfold w_isRight_0
  refine ⟨fun c1 => ?_, fun c1 => ?_⟩
  · skip
    refine h _ ?_
    · clear h; grind [nb]  -- q1
  · skip
    refine h _ ?_
    · clear h; grind [nb]  -- q2

theorem flaw_c {C : rCx} (hC : cOK C)  {σ : rS} {a1 : Int32} {a2 : Int32} {Q : rS → Prop} (hp : 0 ≤ a2 ∧ a2 < 131074 ∧ 0 < a1) (h : ∀ (σ' : rS), (((∀ k, k ≠ 11 → k ≠ 12 → σ'.1 k = σ.1 k) ∧ σ'.2 = σ.2) ∧ (σ.1 11 ≠ 0 → σ' = σ) ∧ σ'.1 11 ≠ 0 ∧ (0 ≤ σ.1 11 → 0 ≤ σ'.1 11)) → Q σ') : cV C 0 m_flaw [.ref (co C), .int a1, .int a2] σ Q := by
  refine m_flaw_run hC ?_
  unfold w_flaw_0
  refine ⟨fun c1 => ?_, fun c1 => ?_⟩
  · skip
    refine h _ ?_
    · clear h; grind [si1, si2, ri1, ri2, ri3, ri4, ri5]  -- q1
  · skip
    refine ⟨ib_131074.mpr ?_, ?_⟩
    · clear h; grind [si1, si2, ri1, ri2, ri3, ri4, ri5]  -- b2
    refine ⟨fun c2 => ?_, fun c2 => ?_⟩
    · skip
      unfold w_flaw_23
      intro σ_3 hσ_3
      refine ⟨ib_131074.mpr ?_, ?_⟩
      · clear h; grind [si1, si2, ri1, ri2, ri3, ri4, ri5]  -- b3
      intro σ_4 hσ_4
      refine h _ ?_
      · clear h; grind [si1, si2, ri1, ri2, ri3, ri4, ri5]  -- q4
    · skip
      unfold w_flaw_23
      intro σ_5 hσ_5
      refine ⟨ib_131074.mpr ?_, ?_⟩
      · clear h; grind [si1, si2, ri1, ri2, ri3, ri4, ri5]  -- b5
      intro σ_6 hσ_6
      refine h _ ?_
      · clear h; grind [si1, si2, ri1, ri2, ri3, ri4, ri5]  -- q6

theorem readNext_c {C : rCx} (hC : cOK C)  {σ : rS}  {Q : rS → Prop} (hp : 0 ≤ σ.1 10 ∧ σ.1 10 < 131074) (h : ∀ (σ' : rS), (((∀ k, k ≠ 11 → k ≠ 12 → σ'.1 k = σ.1 k) ∧ σ'.2 = σ.2) ∧ (σ.1 11 ≠ 0 → σ' = σ) ∧ (σ'.1 11 = 0 ↔ σ.1 11 = 0 ∧ rd σ 5 (σ.1 10) ≠ 4) ∧ (0 ≤ σ.1 11 → 0 ≤ σ'.1 11)) → Q σ') : cV C 1 m_readNext [.ref (co C)] σ Q := by
  refine m_readNext_run hC ?_
  unfold w_readNext_0
  refine ⟨ib_131074.mpr ?_, ?_⟩
  · clear h; grind [si1, si2, ri1, ri2, ri3, ri4, ri5]  -- b1
  refine ⟨fun c1 => ?_, fun c1 => ?_⟩
  · skip
    refine h _ ?_
    · clear h; grind [si1, si2, ri1, ri2, ri3, ri4, ri5]  -- q2
  · skip
    refine flaw_c hC  ?_ (fun σ_2 q3 => ?_)
    · clear h; grind [si1, si2, ri1, ri2, ri3, ri4, ri5]  -- p3
    refine h _ ?_
    · clear h; grind [si1, si2, ri1, ri2, ri3, ri4, ri5]  -- q4

theorem go_c {C : rCx} (hC : cOK C) (B T : Int32) {σ : rS}  {Q : rS → Prop} (hp : tK σ B T ∧ (σ.1 11 = 0 → rd σ 5 (σ.1 10) ≠ 5)) (h : ∀ (σ' : rS), (((∀ k, k ≠ 10 → k ≠ 11 → k ≠ 12 → σ'.1 k = σ.1 k) ∧ σ'.2 = σ.2) ∧ tK σ' B T ∧ (σ.1 11 ≠ 0 → σ' = σ) ∧ (σ.1 11 = 0 → σ'.1 10 = σ.1 10 + 1) ∧ (σ'.1 11 = 0 ↔ σ.1 11 = 0 ∧ rd σ 5 (σ.1 10 + 1) ≠ 4)) → Q σ') : cV C 2 m_go [.ref (co C)] σ Q := by
  refine m_go_run hC ?_
  unfold w_go_0
  refine ⟨fun c1 => ?_, fun c1 => ?_⟩
  · skip
    refine h _ ?_
    · clear h; grind [si1, si2, ri1, ri2, ri3, ri4, ri5, tK]  -- q1
  · skip
    intro σ_2 hσ_2
    refine readNext_c hC  ?_ (fun σ_3 q4 => ?_)
    · clear h; grind [si1, si2, ri1, ri2, ri3, ri4, ri5, tK]  -- p2
    refine h _ ?_
    · clear h; grind [si1, si2, ri1, ri2, ri3, ri4, ri5, tK]  -- q3

theorem isAt_c {C : rCx} (hC : cOK C)  {σ : rS} {a1 : Int32} {Q : Int32 → rS → Prop} (hp : 0 ≤ σ.1 10 ∧ σ.1 10 < 131074) (h : ∀ (v : Int32), (nb v ∧ (v ≠ 0 ↔ rd σ 5 (σ.1 10) = 3 ∧ rd σ 7 (σ.1 10) = a1)) → Q v σ) : cI C 0 m_isAt [.ref (co C), .int a1] σ Q := by
  refine m_isAt_run hC ?_
  unfold w_isAt_0
  refine ⟨ib_131074.mpr ?_, ?_⟩
  · clear h; grind [nb]  -- b1
  refine ⟨fun c1 => ?_, fun c1 => ?_⟩
  · skip
    refine h _ ?_
    · clear h; grind [nb]  -- q2
  · skip
    refine ⟨ib_131074.mpr ?_, ?_⟩
    · clear h; grind [nb]  -- b3
    refine ⟨fun c2 => ?_, fun c2 => ?_⟩
    · skip
      refine h _ ?_
      · clear h; grind [nb]  -- q4
    · skip
      refine h _ ?_
      · clear h; grind [nb]  -- q5

theorem isNext_c {C : rCx} (hC : cOK C)  {σ : rS} {a1 : Int32} {Q : Int32 → rS → Prop} (hp : 0 ≤ σ.1 10 ∧ σ.1 10 < 131073) (h : ∀ (v : Int32), (nb v ∧ (v ≠ 0 ↔ rd σ 5 (σ.1 10 + 1) = 3 ∧ rd σ 7 (σ.1 10 + 1) = a1)) → Q v σ) : cI C 0 m_isNext [.ref (co C), .int a1] σ Q := by
  refine m_isNext_run hC ?_
  unfold w_isNext_0
  refine ⟨ib_131074.mpr ?_, ?_⟩
  · clear h; grind [nb]  -- b1
  refine ⟨fun c1 => ?_, fun c1 => ?_⟩
  · skip
    refine h _ ?_
    · clear h; grind [nb]  -- q2
  · skip
    refine ⟨ib_131074.mpr ?_, ?_⟩
    · clear h; grind [nb]  -- b3
    refine ⟨fun c2 => ?_, fun c2 => ?_⟩
    · skip
      refine h _ ?_
      · clear h; grind [nb]  -- q4
    · skip
      refine h _ ?_
      · clear h; grind [nb]  -- q5

theorem isWord_c {C : rCx} (hC : cOK C)  {σ : rS} {a1 : Int32} {Q : Int32 → rS → Prop} (hp : 0 ≤ σ.1 10 ∧ σ.1 10 < 131074) (h : ∀ (v : Int32), (nb v ∧ (v ≠ 0 ↔ rd σ 5 (σ.1 10) = 6 ∧ rd σ 7 (σ.1 10) = a1)) → Q v σ) : cI C 0 m_isWord [.ref (co C), .int a1] σ Q := by
  refine m_isWord_run hC ?_
  unfold w_isWord_0
  refine ⟨ib_131074.mpr ?_, ?_⟩
  · clear h; grind [nb]  -- b1
  refine ⟨fun c1 => ?_, fun c1 => ?_⟩
  · skip
    refine h _ ?_
    · clear h; grind [nb]  -- q2
  · skip
    refine ⟨ib_131074.mpr ?_, ?_⟩
    · clear h; grind [nb]  -- b3
    refine ⟨fun c2 => ?_, fun c2 => ?_⟩
    · skip
      refine h _ ?_
      · clear h; grind [nb]  -- q4
    · skip
      refine h _ ?_
      · clear h; grind [nb]  -- q5

theorem isSame_c {C : rCx} (hC : cOK C)  {σ : rS} {a1 : Int32} {a2 : Int32} {Q : Int32 → rS → Prop} (hp : 0 ≤ a1 ∧ a1 < 131074 ∧ 0 ≤ a2 ∧ a2 < 131074) (h : ∀ (v : Int32), (nb v) → Q v σ) : cI C 0 m_isSame [.ref (co C), .int a1, .int a2] σ Q := by
  refine m_isSame_run hC ?_
  unfold w_isSame_0
  refine ⟨ib_131074.mpr ?_, ?_⟩
  · clear h; grind [nb]  -- b1
  refine ⟨ib_131074.mpr ?_, ?_⟩
  · clear h; grind [nb]  -- b2
  refine ⟨fun c1 => ?_, fun c1 => ?_⟩
  · skip
    refine h _ ?_
    · clear h; grind [nb]  -- q3
  · skip
    refine ⟨ib_131074.mpr ?_, ?_⟩
    · clear h; grind [nb]  -- b4
    refine ⟨ib_131074.mpr ?_, ?_⟩
    · clear h; grind [nb]  -- b5
    refine ⟨fun c2 => ?_, fun c2 => ?_⟩
    · skip
      refine h _ ?_
      · clear h; grind [nb]  -- q6
    · skip
      refine h _ ?_
      · clear h; grind [nb]  -- q7

theorem sign_c {C : rCx} (hC : cOK C) (B T : Int32) {σ : rS} {a1 : Int32} {Q : rS → Prop} (hp : tK σ B T) (h : ∀ (σ' : rS), (((∀ k, k ≠ 10 → k ≠ 11 → k ≠ 12 → σ'.1 k = σ.1 k) ∧ σ'.2 = σ.2) ∧ tK σ' B T ∧ (σ.1 11 ≠ 0 → σ' = σ) ∧ (σ'.1 11 = 0 ↔ σ.1 11 = 0 ∧ rd σ 5 (σ.1 10) = 3 ∧ rd σ 7 (σ.1 10) = a1 ∧ rd σ 5 (σ.1 10 + 1) ≠ 4) ∧ (σ'.1 11 = 0 → σ'.1 10 = σ.1 10 + 1)) → Q σ') : cV C 3 m_sign [.ref (co C), .int a1] σ Q := by
  refine m_sign_run hC ?_
  unfold w_sign_0
  refine isAt_c hC  ?_ (fun r1 q3 => ?_)
  · clear h; grind [tK]  -- p1
  refine ⟨fun c4 => ?_, fun c4 => ?_⟩
  · skip
    refine flaw_c hC  ?_ (fun σ_5 q6 => ?_)
    · clear h; grind [tK]  -- p2
    refine h _ ?_
    · clear h; grind [tK]  -- q3
  · skip
    refine go_c hC B T ?_ (fun σ_7 q8 => ?_)
    · clear h; grind [tK]  -- p4
    refine h _ ?_
    · clear h; grind [tK]  -- q5

theorem open_c {C : rCx} (hC : cOK C) (B T : Int32) {σ : rS} {a1 : Int32} {Q : rS → Prop} (hp : tK σ B T) (h : ∀ (σ' : rS), (((∀ k, k ≠ 10 → k ≠ 11 → k ≠ 12 → k ≠ 13 → σ'.1 k = σ.1 k) ∧ σ'.2 = σ.2) ∧ tK σ' B T ∧ (σ'.1 11 = 0 ↔ σ.1 11 = 0 ∧ rd σ 5 (σ.1 10) = 3 ∧ rd σ 7 (σ.1 10) = a1 ∧ rd σ 5 (σ.1 10 + 1) ≠ 4 ∧ σ.1 13 ≠ 40) ∧ (σ'.1 11 = 0 → σ'.1 10 = σ.1 10 + 1 ∧ σ'.1 13 = σ.1 13 + 1)) → Q σ') : cV C 3 m_open [.ref (co C), .int a1] σ Q := by
  refine m_open_run hC ?_
  unfold w_open_0
  refine isAt_c hC  ?_ (fun r1 q3 => ?_)
  · clear h; grind [si1, si2, tK, nb]  -- p1
  refine ⟨fun c4 => ?_, fun c4 => ?_⟩
  · skip
    refine ⟨fun c5 => ?_, fun c5 => ?_⟩
    · skip
      unfold w_open_38
      refine isRight_c hC  (fun r6 q8 => ?_)
      refine ⟨fun c9 => ?_, fun c9 => ?_⟩
      · skip
        unfold w_open_55
        intro σ_10 hσ_10
        refine go_c hC B T ?_ (fun σ_11 q12 => ?_)
        · clear h; grind [si1, si2, tK, nb]  -- p2
        refine h _ ?_
        · clear h; grind [si1, si2, tK, nb]  -- q3
      · skip
        unfold w_open_55
        intro σ_13 hσ_13
        refine go_c hC B T ?_ (fun σ_14 q15 => ?_)
        · clear h; grind [si1, si2, tK, nb]  -- p4
        refine h _ ?_
        · clear h; grind [si1, si2, tK, nb]  -- q5
    · skip
      refine flaw_c hC  ?_ (fun σ_16 q17 => ?_)
      · clear h; grind [si1, si2, tK, nb]  -- p6
      unfold w_open_38
      refine isRight_c hC  (fun r18 q20 => ?_)
      refine ⟨fun c21 => ?_, fun c21 => ?_⟩
      · skip
        unfold w_open_55
        intro σ_22 hσ_22
        refine go_c hC B T ?_ (fun σ_23 q24 => ?_)
        · clear h; grind [si1, si2, tK, nb]  -- p7
        refine h _ ?_
        · clear h; grind [si1, si2, tK, nb]  -- q8
      · skip
        unfold w_open_55
        intro σ_25 hσ_25
        refine go_c hC B T ?_ (fun σ_26 q27 => ?_)
        · clear h; grind [si1, si2, tK, nb]  -- p9
        refine h _ ?_
        · clear h; grind [si1, si2, tK, nb]  -- q10
  · skip
    refine flaw_c hC  ?_ (fun σ_28 q29 => ?_)
    · clear h; grind [si1, si2, tK, nb]  -- p11
    unfold w_open_38
    refine isRight_c hC  (fun r30 q32 => ?_)
    refine ⟨fun c33 => ?_, fun c33 => ?_⟩
    · skip
      unfold w_open_55
      intro σ_34 hσ_34
      refine go_c hC B T ?_ (fun σ_35 q36 => ?_)
      · clear h; grind [si1, si2, tK, nb]  -- p12
      refine h _ ?_
      · clear h; grind [si1, si2, tK, nb]  -- q13
    · skip
      unfold w_open_55
      intro σ_37 hσ_37
      refine go_c hC B T ?_ (fun σ_38 q39 => ?_)
      · clear h; grind [si1, si2, tK, nb]  -- p14
      refine h _ ?_
      · clear h; grind [si1, si2, tK, nb]  -- q15

theorem close_c {C : rCx} (hC : cOK C) (B T : Int32) {σ : rS} {a1 : Int32} {Q : rS → Prop} (hp : tK σ B T) (h : ∀ (σ' : rS), (((∀ k, k ≠ 10 → k ≠ 11 → k ≠ 12 → k ≠ 13 → σ'.1 k = σ.1 k) ∧ σ'.2 = σ.2) ∧ tK σ' B T ∧ (σ'.1 11 = 0 ↔ σ.1 11 = 0 ∧ rd σ 5 (σ.1 10) = 3 ∧ rd σ 7 (σ.1 10) = a1 ∧ rd σ 5 (σ.1 10 + 1) ≠ 4) ∧ (σ'.1 11 = 0 → σ'.1 10 = σ.1 10 + 1 ∧ σ'.1 13 = σ.1 13 - 1)) → Q σ') : cV C 4 m_close [.ref (co C), .int a1] σ Q := by
  refine m_close_run hC ?_
  unfold w_close_0
  refine isAt_c hC  ?_ (fun r1 q3 => ?_)
  · clear h; grind [si1, si2, tK, nb]  -- p1
  refine ⟨fun c4 => ?_, fun c4 => ?_⟩
  · skip
    unfold w_close_18
    intro σ_5 hσ_5
    refine sign_c hC B T ?_ (fun σ_6 q7 => ?_)
    · clear h; grind [si1, si2, tK, nb]  -- p2
    refine h _ ?_
    · clear h; grind [si1, si2, tK, nb]  -- q3
  · skip
    unfold w_close_18
    intro σ_8 hσ_8
    refine sign_c hC B T ?_ (fun σ_9 q10 => ?_)
    · clear h; grind [si1, si2, tK, nb]  -- p4
    refine h _ ?_
    · clear h; grind [si1, si2, tK, nb]  -- q5

theorem due_c {C : rCx} (hC : cOK C) (B T : Int32) {σ : rS} {a1 : Int32} {Q : Int32 → rS → Prop} (hp : tK σ B T) (h : ∀ (v : Int32) (σ' : rS), (((∀ k, k ≠ 11 → k ≠ 12 → σ'.1 k = σ.1 k) ∧ σ'.2 = σ.2) ∧ tK σ' B T ∧ v = σ.1 10 ∧ (σ.1 11 ≠ 0 → σ' = σ) ∧ (σ'.1 11 = 0 → σ.1 11 = 0 ∧ rd σ 5 (σ.1 10) = a1)) → Q v σ') : cI C 1 m_due [.ref (co C), .int a1] σ Q := by
  refine m_due_run hC ?_
  unfold w_due_0
  refine ⟨ib_131074.mpr ?_, ?_⟩
  · clear h; grind [tK]  -- b1
  refine ⟨fun c1 => ?_, fun c1 => ?_⟩
  · skip
    refine h _ _ ?_
    · clear h; grind [tK]  -- q2
  · skip
    refine flaw_c hC  ?_ (fun σ_2 q3 => ?_)
    · clear h; grind [tK]  -- p3
    refine h _ _ ?_
    · clear h; grind [tK]  -- q4

/-- all entries of a row lie within bounds -/
def eB (r : Nat → Int32) (lo hi : Int32) : Prop := ∀ k, lo ≤ r k ∧ r k < hi
/-- ranges of the numbers of a program -/
def tyF (vars arrs cells funcs statements main function blocks : Int32) : Prop := 0 ≤ vars ∧ vars ≤ 10 ∧ 0 ≤ arrs ∧ arrs ≤ 3 ∧ 0 ≤ cells ∧ cells ≤ 8 * arrs ∧ 0 ≤ funcs ∧ funcs ≤ 10 ∧ 0 ≤ statements ∧ statements ≤ 150 ∧ -1 ≤ main ∧ main < 10 ∧ 0 ≤ function ∧ function < 10 ∧ 0 ≤ blocks ∧ blocks ≤ 64
abbrev tF (σ : rS) : Prop := tyF (σ.1 15) (σ.1 16) (σ.1 17) (σ.1 18) (σ.1 19) (σ.1 40) (σ.1 41) (σ.1 42)
/-- ranges of a program's rows: names -/
def tyN (r20 r22 r25 r28 r26 r27 : Nat → Int32) : Prop := eB r20 0 131074 ∧ eB r22 0 131074 ∧ eB r25 0 131074 ∧ eB r28 0 131074 ∧ eB r26 0 5 ∧ eB r27 0 9
abbrev tN (σ : rS) : Prop := tyN (σ.2.2.1 20) (σ.2.2.1 22) (σ.2.2.1 25) (σ.2.2.1 28) (σ.2.2.1 26) (σ.2.2.1 27)
theorem isTold_c {C : rCx} (hC : cOK C)  {σ : rS} {a1 : Int32} {Q : Int32 → rS → Prop} (hp : tF σ ∧ tN σ ∧ 0 ≤ a1 ∧ a1 < 131074) (h : ∀ (v : Int32), (nb v) → Q v σ) : cI C 1 m_isTold [.ref (co C), .int a1] σ Q := by
  refine m_isTold_run hC ?_
  unfold w_isTold_0
  unfold w_isTold_4
  refine ⟨fun n l1 l2 l3 τ => n = (σ.1 15 - l3).toNatClampNeg ∧ (σ = τ ∧ l1 = a1 ∧ nb l2 ∧ 0 ≤ l3 ∧ l3 ≤ σ.1 15), ⟨_, rfl, ?_⟩, ?_⟩
  · clear h; grind [tyF, tyN, eB, nb]  -- j1
  rintro n4 x4_1 x4_2 x4_3 _ ⟨hn4, rfl, i4⟩
  refine ⟨fun c1 => ?_, fun c1 => ?_⟩
  · skip
    unfold w_isTold_44
    refine ⟨fun n l1 l2 l3 τ => n = (σ.1 16 - l3).toNatClampNeg ∧ (σ = τ ∧ l1 = a1 ∧ nb l2 ∧ 0 ≤ l3 ∧ l3 ≤ σ.1 16), ⟨_, rfl, ?_⟩, ?_⟩
    · clear h; grind [tyF, tyN, eB, nb]  -- j2
    rintro n44 x44_1 x44_2 x44_3 _ ⟨hn44, rfl, i44⟩
    refine ⟨fun c2 => ?_, fun c2 => ?_⟩
    · skip
      unfold w_isTold_84
      refine ⟨fun n l1 l2 l3 τ => n = (σ.1 18 - l3).toNatClampNeg ∧ (σ = τ ∧ l1 = a1 ∧ nb l2 ∧ 0 ≤ l3 ∧ l3 ≤ σ.1 18), ⟨_, rfl, ?_⟩, ?_⟩
      · clear h; grind [tyF, tyN, eB, nb]  -- j3
      rintro n84 x84_1 x84_2 x84_3 _ ⟨hn84, rfl, i84⟩
      refine ⟨fun c3 => ?_, fun c3 => ?_⟩
      · skip
        refine ⟨?_, h _ ?_⟩
        · clear h; grind [tyF, tyN, eB, nb]  -- b4
        · clear h; grind [tyF, tyN, eB, nb]  -- q5
      · skip
        refine ⟨fun c4 => ?_, fun c4 => ?_⟩
        · skip
          unfold w_isTold_115
          intro x5 hx5
          refine ⟨_, cn_lt2 hn84 ?_ ?_, rfl, ?_⟩
          · clear h; grind [tyF, tyN, eB, nb]  -- d6
          · clear h; grind [tyF, tyN, eB, nb]  -- d7
          · clear h; grind [tyF, tyN, eB, nb]  -- i8
        · skip
          refine ⟨ib_10.mpr ?_, ?_⟩
          · clear h; grind [tyF, tyN, eB, nb]  -- b9
          refine isSame_c hC  ?_ (fun r6 q8 => ?_)
          · clear h; grind [tyF, tyN, eB, nb]  -- p10
          refine ⟨fun c9 => ?_, fun c9 => ?_⟩
          · skip
            unfold w_isTold_115
            intro x10 hx10
            refine ⟨_, cn_lt2 hn84 ?_ ?_, rfl, ?_⟩
            · clear h; grind [tyF, tyN, eB, nb]  -- d11
            · clear h; grind [tyF, tyN, eB, nb]  -- d12
            · clear h; grind [tyF, tyN, eB, nb]  -- i13
          · skip
            unfold w_isTold_115
            intro x11 hx11
            refine ⟨_, cn_lt2 hn84 ?_ ?_, rfl, ?_⟩
            · clear h; grind [tyF, tyN, eB, nb]  -- d14
            · clear h; grind [tyF, tyN, eB, nb]  -- d15
            · clear h; grind [tyF, tyN, eB, nb]  -- i16
    · skip
      refine ⟨fun c12 => ?_, fun c12 => ?_⟩
      · skip
        unfold w_isTold_75
        intro x13 hx13
        refine ⟨_, cn_lt2 hn44 ?_ ?_, rfl, ?_⟩
        · clear h; grind [tyF, tyN, eB, nb]  -- d17
        · clear h; grind [tyF, tyN, eB, nb]  -- d18
        · clear h; grind [tyF, tyN, eB, nb]  -- i19
      · skip
        refine ⟨ib_3.mpr ?_, ?_⟩
        · clear h; grind [tyF, tyN, eB, nb]  -- b20
        refine isSame_c hC  ?_ (fun r14 q16 => ?_)
        · clear h; grind [tyF, tyN, eB, nb]  -- p21
        refine ⟨fun c17 => ?_, fun c17 => ?_⟩
        · skip
          unfold w_isTold_75
          intro x18 hx18
          refine ⟨_, cn_lt2 hn44 ?_ ?_, rfl, ?_⟩
          · clear h; grind [tyF, tyN, eB, nb]  -- d22
          · clear h; grind [tyF, tyN, eB, nb]  -- d23
          · clear h; grind [tyF, tyN, eB, nb]  -- i24
        · skip
          unfold w_isTold_75
          intro x19 hx19
          refine ⟨_, cn_lt2 hn44 ?_ ?_, rfl, ?_⟩
          · clear h; grind [tyF, tyN, eB, nb]  -- d25
          · clear h; grind [tyF, tyN, eB, nb]  -- d26
          · clear h; grind [tyF, tyN, eB, nb]  -- i27
  · skip
    refine ⟨fun c20 => ?_, fun c20 => ?_⟩
    · skip
      unfold w_isTold_35
      intro x21 hx21
      refine ⟨_, cn_lt2 hn4 ?_ ?_, rfl, ?_⟩
      · clear h; grind [tyF, tyN, eB, nb]  -- d28
      · clear h; grind [tyF, tyN, eB, nb]  -- d29
      · clear h; grind [tyF, tyN, eB, nb]  -- i30
    · skip
      refine ⟨ib_10.mpr ?_, ?_⟩
      · clear h; grind [tyF, tyN, eB, nb]  -- b31
      refine isSame_c hC  ?_ (fun r22 q24 => ?_)
      · clear h; grind [tyF, tyN, eB, nb]  -- p32
      refine ⟨fun c25 => ?_, fun c25 => ?_⟩
      · skip
        unfold w_isTold_35
        intro x26 hx26
        refine ⟨_, cn_lt2 hn4 ?_ ?_, rfl, ?_⟩
        · clear h; grind [tyF, tyN, eB, nb]  -- d33
        · clear h; grind [tyF, tyN, eB, nb]  -- d34
        · clear h; grind [tyF, tyN, eB, nb]  -- i35
      · skip
        unfold w_isTold_35
        intro x27 hx27
        refine ⟨_, cn_lt2 hn4 ?_ ?_, rfl, ?_⟩
        · clear h; grind [tyF, tyN, eB, nb]  -- d36
        · clear h; grind [tyF, tyN, eB, nb]  -- d37
        · clear h; grind [tyF, tyN, eB, nb]  -- i38

theorem variableOf_c {C : rCx} (hC : cOK C)  {σ : rS} {a1 : Int32} {Q : Int32 → rS → Prop} (hp : tF σ ∧ tN σ ∧ 0 ≤ a1 ∧ a1 < 131074) (h : ∀ (v : Int32), (v = -1 ∨ (100 ≤ v ∧ v < 100 + rd σ 27 (σ.1 41)) ∨ (0 ≤ v ∧ v < σ.1 15)) → Q v σ) : cI C 1 m_variableOf [.ref (co C), .int a1] σ Q := by
  refine m_variableOf_run hC ?_
  unfold w_variableOf_0
  unfold w_variableOf_2
  refine ⟨fun n l1 l2 τ => n = (rd σ 27 (σ.1 41) - l2).toNatClampNeg ∧ (σ = τ ∧ l1 = a1 ∧ 0 ≤ l2 ∧ l2 ≤ rd σ 27 (σ.1 41)), ⟨_, rfl, ?_⟩, ?_⟩
  · clear h; grind [tyF, tyN, eB, nb]  -- j1
  rintro n2 x2_1 x2_2 _ ⟨hn2, rfl, i2⟩
  refine ⟨ib_10.mpr ?_, ?_⟩
  · clear h; grind [tyF, tyN, eB, nb]  -- b2
  refine ⟨fun c1 => ?_, fun c1 => ?_⟩
  · skip
    unfold w_variableOf_50
    refine ⟨fun n l1 l2 τ => n = (σ.1 15 - l2).toNatClampNeg ∧ (σ = τ ∧ l1 = a1 ∧ 0 ≤ l2 ∧ l2 ≤ σ.1 15), ⟨_, rfl, ?_⟩, ?_⟩
    · clear h; grind [tyF, tyN, eB, nb]  -- j3
    rintro n50 x50_1 x50_2 _ ⟨hn50, rfl, i50⟩
    refine ⟨fun c2 => ?_, fun c2 => ?_⟩
    · skip
      refine h _ ?_
      · clear h; grind [tyF, tyN, eB, nb]  -- q4
    · skip
      refine ⟨ib_10.mpr ?_, ?_⟩
      · clear h; grind [tyF, tyN, eB, nb]  -- b5
      refine isSame_c hC  ?_ (fun r3 q5 => ?_)
      · clear h; grind [tyF, tyN, eB, nb]  -- p6
      refine ⟨fun c6 => ?_, fun c6 => ?_⟩
      · skip
        intro x7 hx7
        refine ⟨_, cn_lt2 hn50 ?_ ?_, rfl, ?_⟩
        · clear h; grind [tyF, tyN, eB, nb]  -- d7
        · clear h; grind [tyF, tyN, eB, nb]  -- d8
        · clear h; grind [tyF, tyN, eB, nb]  -- i9
      · skip
        refine h _ ?_
        · clear h; grind [tyF, tyN, eB, nb]  -- q10
  · skip
    refine ⟨ib_80.mpr ?_, ?_⟩
    · clear h; grind [tyF, tyN, eB, nb]  -- b11
    refine isSame_c hC  ?_ (fun r8 q10 => ?_)
    · clear h; grind [tyF, tyN, eB, nb]  -- p12
    refine ⟨fun c11 => ?_, fun c11 => ?_⟩
    · skip
      intro x12 hx12
      refine ⟨_, cn_lt2 hn2 ?_ ?_, rfl, ?_⟩
      · clear h; grind [tyF, tyN, eB, nb]  -- d13
      · clear h; grind [tyF, tyN, eB, nb]  -- d14
      · clear h; grind [tyF, tyN, eB, nb]  -- i15
    · skip
      refine h _ ?_
      · clear h; grind [tyF, tyN, eB, nb]  -- q16

theorem arrayOf_c {C : rCx} (hC : cOK C)  {σ : rS} {a1 : Int32} {Q : Int32 → rS → Prop} (hp : tF σ ∧ tN σ ∧ 0 ≤ a1 ∧ a1 < 131074) (h : ∀ (v : Int32), (v = -1 ∨ (200 ≤ v ∧ v < 200 + σ.1 16)) → Q v σ) : cI C 1 m_arrayOf [.ref (co C), .int a1] σ Q := by
  refine m_arrayOf_run hC ?_
  unfold w_arrayOf_0
  unfold w_arrayOf_2
  refine ⟨fun n l1 l2 τ => n = (σ.1 16 - l2).toNatClampNeg ∧ (σ = τ ∧ l1 = a1 ∧ 0 ≤ l2 ∧ l2 ≤ σ.1 16), ⟨_, rfl, ?_⟩, ?_⟩
  · clear h; grind [tyF, tyN, eB, nb]  -- j1
  rintro n2 x2_1 x2_2 _ ⟨hn2, rfl, i2⟩
  refine ⟨fun c1 => ?_, fun c1 => ?_⟩
  · skip
    refine h _ ?_
    · clear h; grind [tyF, tyN, eB, nb]  -- q2
  · skip
    refine ⟨ib_3.mpr ?_, ?_⟩
    · clear h; grind [tyF, tyN, eB, nb]  -- b3
    refine isSame_c hC  ?_ (fun r2 q4 => ?_)
    · clear h; grind [tyF, tyN, eB, nb]  -- p4
    refine ⟨fun c5 => ?_, fun c5 => ?_⟩
    · skip
      intro x6 hx6
      refine ⟨_, cn_lt2 hn2 ?_ ?_, rfl, ?_⟩
      · clear h; grind [tyF, tyN, eB, nb]  -- d5
      · clear h; grind [tyF, tyN, eB, nb]  -- d6
      · clear h; grind [tyF, tyN, eB, nb]  -- i7
    · skip
      refine h _ ?_
      · clear h; grind [tyF, tyN, eB, nb]  -- q8

theorem functionOf_c {C : rCx} (hC : cOK C)  {σ : rS} {a1 : Int32} {Q : Int32 → rS → Prop} (hp : tF σ ∧ tN σ ∧ 0 ≤ a1 ∧ a1 < 131074) (h : ∀ (v : Int32), (v = -1 ∨ (0 ≤ v ∧ v < σ.1 18)) → Q v σ) : cI C 1 m_functionOf [.ref (co C), .int a1] σ Q := by
  refine m_functionOf_run hC ?_
  unfold w_functionOf_0
  unfold w_functionOf_2
  refine ⟨fun n l1 l2 τ => n = (σ.1 18 - l2).toNatClampNeg ∧ (σ = τ ∧ l1 = a1 ∧ 0 ≤ l2 ∧ l2 ≤ σ.1 18), ⟨_, rfl, ?_⟩, ?_⟩
  · clear h; grind [tyF, tyN, eB, nb]  -- j1
  rintro n2 x2_1 x2_2 _ ⟨hn2, rfl, i2⟩
  refine ⟨fun c1 => ?_, fun c1 => ?_⟩
  · skip
    refine h _ ?_
    · clear h; grind [tyF, tyN, eB, nb]  -- q2
  · skip
    refine ⟨ib_10.mpr ?_, ?_⟩
    · clear h; grind [tyF, tyN, eB, nb]  -- b3
    refine isSame_c hC  ?_ (fun r2 q4 => ?_)
    · clear h; grind [tyF, tyN, eB, nb]  -- p4
    refine ⟨fun c5 => ?_, fun c5 => ?_⟩
    · skip
      intro x6 hx6
      refine ⟨_, cn_lt2 hn2 ?_ ?_, rfl, ?_⟩
      · clear h; grind [tyF, tyN, eB, nb]  -- d5
      · clear h; grind [tyF, tyN, eB, nb]  -- d6
      · clear h; grind [tyF, tyN, eB, nb]  -- i7
    · skip
      refine h _ ?_
      · clear h; grind [tyF, tyN, eB, nb]  -- q8

theorem fresh_c {C : rCx} (hC : cOK C) (B T : Int32) {σ : rS} {a1 : Int32} {a2 : Int32} {a3 : Int32} {Q : Int32 → rS → Prop} (hp : tK σ B T ∧ tF σ ∧ tN σ) (h : ∀ (v : Int32) (σ' : rS), (((∀ k, k ≠ 10 → k ≠ 11 → k ≠ 12 → σ'.1 k = σ.1 k) ∧ σ'.2 = σ.2) ∧ tK σ' B T ∧ v = σ.1 10 ∧ (σ.1 11 ≠ 0 → σ' = σ) ∧ (σ'.1 11 = 0 → σ.1 11 = 0 ∧ rd σ 5 (σ.1 10) = 1 ∧ a2 < a3 ∧ σ'.1 10 = σ.1 10 + 1 ∧ rd σ 5 (σ'.1 10) ≠ 4)) → Q v σ') : cI C 3 m_fresh [.ref (co C), .int a1, .int a2, .int a3] σ Q := by
  refine m_fresh_run hC ?_
  unfold w_fresh_0
  have hj98 : ∀ (l2 : Int32) (l3 : Int32) (l4 : Int32) (τ : rS), (l2 = a2 ∧ l3 = a3 ∧ ((∀ k, k ≠ 11 → k ≠ 12 → τ.1 k = σ.1 k) ∧ τ.2 = σ.2) ∧ tK τ B T ∧ l4 = σ.1 10 ∧ (σ.1 11 ≠ 0 → τ = σ) ∧ (τ.1 11 = 0 → σ.1 11 = 0 ∧ rd σ 5 (σ.1 10) = 1)) → w_fresh_98 C Q  l2 l3 l4 τ := by
    rintro y98_2 y98_3 y98_4 τ98 j98
    unfold w_fresh_98
    refine isRight_c hC  (fun r1 q3 => ?_)
    refine ⟨fun c4 => ?_, fun c4 => ?_⟩
    · skip
      refine go_c hC B T ?_ (fun σ_5 q6 => ?_)
      · clear h; grind [tyF, tyN, eB, nb, tK]  -- p1
      refine h _ _ ?_
      · clear h; grind [tyF, tyN, eB, nb, tK]  -- q2
    · skip
      refine ⟨fun c7 => ?_, fun c7 => ?_⟩
      · skip
        refine go_c hC B T ?_ (fun σ_8 q9 => ?_)
        · clear h; grind [tyF, tyN, eB, nb, tK]  -- p3
        refine h _ _ ?_
        · clear h; grind [tyF, tyN, eB, nb, tK]  -- q4
      · skip
        refine flaw_c hC  ?_ (fun σ_10 q11 => ?_)
        · clear h; grind [tyF, tyN, eB, nb, tK]  -- p5
        refine go_c hC B T ?_ (fun σ_12 q13 => ?_)
        · clear h; grind [tyF, tyN, eB, nb, tK]  -- p6
        refine h _ _ ?_
        · clear h; grind [tyF, tyN, eB, nb, tK]  -- q7
  have hj78 : ∀ (l2 : Int32) (l3 : Int32) (l4 : Int32) (l5 : Int32) (τ : rS), (l2 = a2 ∧ l3 = a3 ∧ ((∀ k, k ≠ 11 → k ≠ 12 → τ.1 k = σ.1 k) ∧ τ.2 = σ.2) ∧ tK τ B T ∧ l4 = σ.1 10 ∧ (σ.1 11 ≠ 0 → τ = σ) ∧ (τ.1 11 = 0 → σ.1 11 = 0 ∧ rd σ 5 (σ.1 10) = 1)) → w_fresh_78 C Q  l2 l3 l4 l5 τ := by
    rintro y78_2 y78_3 y78_4 y78_5 τ78 j78
    unfold w_fresh_78
    refine isRight_c hC  (fun r14 q16 => ?_)
    refine ⟨fun c17 => ?_, fun c17 => ?_⟩
    · skip
      refine hj98 _ _ _ _ ?_
      · clear h; grind [tyF, tyN, eB, nb, tK]  -- k8
    · skip
      refine ⟨fun c18 => ?_, fun c18 => ?_⟩
      · skip
        refine hj98 _ _ _ _ ?_
        · clear h; grind [tyF, tyN, eB, nb, tK]  -- k9
      · skip
        refine flaw_c hC  ?_ (fun σ_19 q20 => ?_)
        · clear h; grind [tyF, tyN, eB, nb, tK]  -- p10
        refine hj98 _ _ _ _ ?_
        · clear h; grind [tyF, tyN, eB, nb, tK]  -- k11
  refine due_c hC B T ?_ (fun r21 σ_22 q23 => ?_)
  · clear h; grind [tyF, tyN, eB, nb, tK]  -- p12
  refine isTold_c hC  ?_ (fun r24 q26 => ?_)
  · clear h; grind [tyF, tyN, eB, nb, tK]  -- p13
  unfold w_fresh_18
  refine ⟨fun n l1 l2 l3 l4 l5 l6 τ => n = (rd σ 27 (σ.1 41) - l6).toNatClampNeg ∧ (l1 = a1 ∧ l2 = a2 ∧ l3 = a3 ∧ ((∀ k, k ≠ 11 → k ≠ 12 → τ.1 k = σ.1 k) ∧ τ.2 = σ.2) ∧ tK τ B T ∧ nb l5 ∧ l4 = σ.1 10 ∧ (σ.1 11 ≠ 0 → τ = σ) ∧ (τ.1 11 = 0 → σ.1 11 = 0 ∧ rd σ 5 (σ.1 10) = 1) ∧ 0 ≤ l6 ∧ l6 ≤ rd σ 27 (σ.1 41)), ⟨_, rfl, ?_⟩, ?_⟩
  · clear h; grind [tyF, tyN, eB, nb, tK]  -- j14
  rintro n18 x18_1 x18_2 x18_3 x18_4 x18_5 x18_6 σ18 ⟨hn18, i18⟩
  refine ⟨fun c27 => ?_, fun c27 => ?_⟩
  · skip
    refine hj78 _ _ _ _ _ ?_
    · clear h; grind [tyF, tyN, eB, nb, tK]  -- k15
  · skip
    refine ⟨ib_10.mpr ?_, ?_⟩
    · clear h; grind [tyF, tyN, eB, nb, tK]  -- b16
    refine ⟨fun c28 => ?_, fun c28 => ?_⟩
    · skip
      refine hj78 _ _ _ _ _ ?_
      · clear h; grind [tyF, tyN, eB, nb, tK]  -- k17
    · skip
      refine ⟨fun c29 => ?_, fun c29 => ?_⟩
      · skip
        unfold w_fresh_70
        intro x30 hx30
        refine ⟨_, cn_lt2 hn18 ?_ ?_, rfl, ?_⟩
        · clear h; grind [tyF, tyN, eB, nb, tK]  -- d18
        · clear h; grind [tyF, tyN, eB, nb, tK]  -- d19
        · clear h; grind [tyF, tyN, eB, nb, tK]  -- i20
      · skip
        refine ⟨ib_80.mpr ?_, ?_⟩
        · clear h; grind [tyF, tyN, eB, nb, tK]  -- b21
        refine isSame_c hC  ?_ (fun r31 q33 => ?_)
        · clear h; grind [tyF, tyN, eB, nb, tK]  -- p22
        refine ⟨fun c34 => ?_, fun c34 => ?_⟩
        · skip
          unfold w_fresh_70
          intro x35 hx35
          refine ⟨_, cn_lt2 hn18 ?_ ?_, rfl, ?_⟩
          · clear h; grind [tyF, tyN, eB, nb, tK]  -- d23
          · clear h; grind [tyF, tyN, eB, nb, tK]  -- d24
          · clear h; grind [tyF, tyN, eB, nb, tK]  -- i25
        · skip
          unfold w_fresh_70
          intro x36 hx36
          refine ⟨_, cn_lt2 hn18 ?_ ?_, rfl, ?_⟩
          · clear h; grind [tyF, tyN, eB, nb, tK]  -- d26
          · clear h; grind [tyF, tyN, eB, nb, tK]  -- d27
          · clear h; grind [tyF, tyN, eB, nb, tK]  -- i28
