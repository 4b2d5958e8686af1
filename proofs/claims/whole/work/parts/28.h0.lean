section
/-! numbers of 32 bits as whole numbers; first promises of the reference's methods -/
theorem inb_iff {i : Int32} {n : Nat} : inb i n ↔ 0 ≤ i.toInt ∧ i.toInt < n := by
  unfold inb
  rw [Int32.lt_iff_toInt_lt, Int32.toInt_zero]
  have : i.toNatClampNeg = i.toInt.toNat := rfl
  rw [this]
  omega
theorem inb_lt {i x : Int32} {n : Nat} (h0 : 0 ≤ i) (h1 : i < x) (hx : x.toInt = n) : inb i n := by
  rw [inb_iff]
  rw [Int32.le_iff_toInt_le, Int32.toInt_zero] at h0
  rw [Int32.lt_iff_toInt_lt] at h1
  omega
theorem cn_lt {x y : Int32} (h0 : 0 ≤ x) (h : x < y) : x.toNatClampNeg < y.toNatClampNeg := by
  rw [Int32.le_iff_toInt_le, Int32.toInt_zero] at h0
  rw [Int32.lt_iff_toInt_lt] at h
  have h1 : x.toNatClampNeg = x.toInt.toNat := rfl
  have h2 : y.toNatClampNeg = y.toInt.toNat := rfl
  omega
theorem cn_inj {x y : Int32} (h0 : 0 ≤ x) (h1 : 0 ≤ y) (h : x.toNatClampNeg = y.toNatClampNeg) : x = y := by
  rw [Int32.le_iff_toInt_le, Int32.toInt_zero] at h0 h1
  have h2 : x.toNatClampNeg = x.toInt.toNat := rfl
  have h3 : y.toNatClampNeg = y.toInt.toNat := rfl
  exact Int32.toInt_inj.mp (by omega)
/-- the byte at a place of a tape, -1 behind it -/
def bAt (s : Int32) (r : Nat → Int32) (k : Int32) : Int32 := if s ≤ k then -1 else r k.toNatClampNeg &&& 255

end
section
/-! updates and rows as `grind` reads them -/
theorem si1 {σ : rS} {k j : Nat} {x : Int32} : (siU σ k x).1 j = if j = k then x else σ.1 j := rfl
theorem si2 {σ : rS} {k : Nat} {x : Int32} : (siU σ k x).2 = σ.2 := rfl
theorem sl1 {σ : rS} {k j : Nat} {x : Int64} : (slU σ k x).1 j = σ.1 j := rfl
theorem sl2 {σ : rS} {k j : Nat} {x : Int64} : (slU σ k x).2.1 j = if j = k then x else σ.2.1 j := rfl
theorem sl3 {σ : rS} {k : Nat} {x : Int64} : (slU σ k x).2.2 = σ.2.2 := rfl
theorem ri1 {σ : rS} {k i j : Nat} {x : Int32} : (riU σ k i x).1 j = σ.1 j := rfl
theorem ri2 {σ : rS} {k i j : Nat} {x : Int32} : (riU σ k i x).2.1 j = σ.2.1 j := rfl
theorem ri3 {σ : rS} {k i j : Nat} {x : Int32} (h : ¬ j = k) : (riU σ k i x).2.2.1 j = σ.2.2.1 j := by unfold riU; simp [h]
theorem ri4 {σ : rS} {k i m : Nat} {x : Int32} : (riU σ k i x).2.2.1 k m = if m = i then x else σ.2.2.1 k m := by unfold riU upd; simp
theorem ri5 {σ : rS} {k i r j : Nat} {x : Int32} : (riU σ k i x).2.2.2 r j = σ.2.2.2 r j := rfl
theorem rl1 {σ : rS} {k i j : Nat} {x : Int64} : (rlU σ k i x).1 j = σ.1 j := rfl
theorem rl2 {σ : rS} {k i j : Nat} {x : Int64} : (rlU σ k i x).2.1 j = σ.2.1 j := rfl
theorem rl3 {σ : rS} {k i r : Nat} {x : Int64} : (rlU σ k i x).2.2.1 r = σ.2.2.1 r := rfl
theorem rl3a {σ : rS} {k i r j : Nat} {x : Int64} : (rlU σ k i x).2.2.1 r j = σ.2.2.1 r j := rfl
theorem rl4 {σ : rS} {k i j : Nat} {x : Int64} (h : ¬ j = k) : (rlU σ k i x).2.2.2 j = σ.2.2.2 j := by unfold rlU; simp [h]
theorem rl5 {σ : rS} {k i m : Nat} {x : Int64} : (rlU σ k i x).2.2.2 k m = if m = i then x else σ.2.2.2 k m := by unfold rlU vp_updL; simp
abbrev rd (σ : rS) (k : Nat) (i : Int32) : Int32 := σ.2.2.1 k i.toNatClampNeg
theorem ib_of {i x : Int32} {n : Nat} (hx : x.toInt = n) : inb i n ↔ 0 ≤ i ∧ i < x := by
  rw [inb_iff, Int32.le_iff_toInt_le, Int32.toInt_zero, Int32.lt_iff_toInt_lt]
  omega
theorem ib_3 {i : Int32} : inb i 3 ↔ 0 ≤ i ∧ i < 3 := ib_of rfl
theorem ib_4 {i : Int32} : inb i 4 ↔ 0 ≤ i ∧ i < 4 := ib_of rfl
theorem ib_8 {i : Int32} : inb i 8 ↔ 0 ≤ i ∧ i < 8 := ib_of rfl
theorem ib_10 {i : Int32} : inb i 10 ↔ 0 ≤ i ∧ i < 10 := ib_of rfl
theorem ib_12 {i : Int32} : inb i 12 ↔ 0 ≤ i ∧ i < 12 := ib_of rfl
theorem ib_30 {i : Int32} : inb i 30 ↔ 0 ≤ i ∧ i < 30 := ib_of rfl
theorem ib_34 {i : Int32} : inb i 34 ↔ 0 ≤ i ∧ i < 34 := ib_of rfl
theorem ib_64 {i : Int32} : inb i 64 ↔ 0 ≤ i ∧ i < 64 := ib_of rfl
theorem ib_80 {i : Int32} : inb i 80 ↔ 0 ≤ i ∧ i < 80 := ib_of rfl
theorem ib_96 {i : Int32} : inb i 96 ↔ 0 ≤ i ∧ i < 96 := ib_of rfl
theorem ib_143 {i : Int32} : inb i 143 ↔ 0 ≤ i ∧ i < 143 := ib_of rfl
theorem ib_150 {i : Int32} : inb i 150 ↔ 0 ≤ i ∧ i < 150 := ib_of rfl
theorem ib_200 {i : Int32} : inb i 200 ↔ 0 ≤ i ∧ i < 200 := ib_of rfl
theorem ib_1000 {i : Int32} : inb i 1000 ↔ 0 ≤ i ∧ i < 1000 := ib_of rfl
theorem ib_1001 {i : Int32} : inb i 1001 ↔ 0 ≤ i ∧ i < 1001 := ib_of rfl
theorem ib_2048 {i : Int32} : inb i 2048 ↔ 0 ≤ i ∧ i < 2048 := ib_of rfl
theorem ib_16000 {i : Int32} : inb i 16000 ↔ 0 ≤ i ∧ i < 16000 := ib_of rfl
theorem ib_20000 {i : Int32} : inb i 20000 ↔ 0 ≤ i ∧ i < 20000 := ib_of rfl
theorem ib_34000 {i : Int32} : inb i 34000 ↔ 0 ≤ i ∧ i < 34000 := ib_of rfl
theorem ib_35000 {i : Int32} : inb i 35000 ↔ 0 ≤ i ∧ i < 35000 := ib_of rfl
theorem ib_65536 {i : Int32} : inb i 65536 ↔ 0 ≤ i ∧ i < 65536 := ib_of rfl
theorem ib_66000 {i : Int32} : inb i 66000 ↔ 0 ≤ i ∧ i < 66000 := ib_of rfl
theorem ib_131074 {i : Int32} : inb i 131074 ↔ 0 ≤ i ∧ i < 131074 := ib_of rfl
theorem ib_143000 {i : Int32} : inb i 143000 ↔ 0 ≤ i ∧ i < 143000 := ib_of rfl
theorem ib_566000 {i : Int32} : inb i 566000 ↔ 0 ≤ i ∧ i < 566000 := ib_of rfl
theorem ib_1200000 {i : Int32} : inb i 1200000 ↔ 0 ≤ i ∧ i < 1200000 := ib_of rfl
theorem cn_lt2 {x y : Int32} {n : Nat} (hn : n = y.toNatClampNeg) (h0 : 0 ≤ x) (h : x < y) : x.toNatClampNeg < n := hn ▸ cn_lt h0 h
theorem ri34 {σ : rS} {k i r j : Nat} {x : Int32} : (riU σ k i x).2.2.1 r j = if r = k then (if j = i then x else σ.2.2.1 k j) else σ.2.2.1 r j := by
  by_cases h : r = k
  · subst h; simp [ri4]
  · simp [ri3 h, h]
theorem rl45 {σ : rS} {k i r j : Nat} {x : Int64} : (rlU σ k i x).2.2.2 r j = if r = k then (if j = i then x else σ.2.2.2 k j) else σ.2.2.2 r j := by
  by_cases h : r = k
  · subst h; simp [rl5]
  · simp [rl4 h, h]

end
section
set_option maxHeartbeats 1600000
/-! the reference: marks, faults, steps over tokens -/
/-- the tokens of a text from B to its end T -/
def tK (σ : rS) (B T : Int32) : Prop := 0 ≤ B ∧ B ≤ T ∧ T < 131074 ∧ (rd σ 5 T = 5 ∧ 0 ≤ σ.1 11 ∧ 0 ≤ σ.1 47) ∧ B ≤ σ.1 10 ∧ σ.1 10 ≤ T
theorem within_c {C : rCx} (hC : cOK C)  {σ : rS} {a0 : Int32} {a1 : Int32} {a2 : Int32} {Q : Int32 → rS → Prop} (h : ∀ (v : Int32), (nb v ∧ (v ≠ 0 ↔ a1 ≤ a0 ∧ a0 ≤ a2)) → Q v σ) : cI C 0 m_within [.int a0, .int a1, .int a2] σ Q := by
  refine m_within_run hC ?_
  unfold w_within_0
  refine ⟨fun c1 => ?_, fun c1 => ?_⟩
  · skip
    refine h _ ?_
    · clear h; grind [nb]  -- q1
  · skip
    refine ⟨fun c2 => ?_, fun c2 => ?_⟩
    · skip
      refine h _ ?_
      · clear h; grind [nb]  -- q2
    · skip
      refine h _ ?_
      · clear h; grind [nb]  -- q3

def lett (c : Int32) : Prop := (97 ≤ c ∧ c ≤ 122) ∨ (65 ≤ c ∧ c ≤ 90) ∨ c = 95
theorem byteAt_c {C : rCx} (hC : cOK C)  {σ : rS} {a1 : Int32} {Q : Int32 → rS → Prop} (hp : 0 ≤ a1 ∧ σ.1 2 ≤ 65536) (h : ∀ (v : Int32), (v = bAt (σ.1 2) (σ.2.2.1 1) a1 ∧ (v ≠ -1 → a1 < σ.1 2)) → Q v σ) : cI C 0 m_byteAt [.ref (co C), .int a1] σ Q := by
  refine m_byteAt_run hC ?_
  unfold w_byteAt_0
  refine ⟨fun c1 => ?_, fun c1 => ?_⟩
  · skip
    refine h _ ?_
    · clear h; grind [bAt]  -- q1
  · skip
    refine ⟨ib_65536.mpr ?_, ?_⟩
    · clear h; grind [bAt]  -- b2
    refine h _ ?_
    · clear h; grind [bAt]  -- q3

theorem isLetter_c {C : rCx} (hC : cOK C)  {σ : rS} {a0 : Int32} {Q : Int32 → rS → Prop} (h : ∀ (v : Int32), (nb v ∧ (v ≠ 0 ↔ lett a0)) → Q v σ) : cI C 0 m_isLetter [.int a0] σ Q := by
  refine m_isLetter_run hC ?_
  unfold w_isLetter_0
  refine ⟨fun c1 => ?_, fun c1 => ?_⟩
  · skip
    unfold w_isLetter_12
    refine ⟨fun c2 => ?_, fun c2 => ?_⟩
    · skip
      unfold w_isLetter_24
      refine ⟨fun c3 => ?_, fun c3 => ?_⟩
      · skip
        refine h _ ?_
        · clear h; grind [nb, lett]  -- q1
      · skip
        refine h _ ?_
        · clear h; grind [nb, lett]  -- q2
    · skip
      refine ⟨fun c4 => ?_, fun c4 => ?_⟩
      · skip
        refine h _ ?_
        · clear h; grind [nb, lett]  -- q3
      · skip
        unfold w_isLetter_24
        refine ⟨fun c5 => ?_, fun c5 => ?_⟩
        · skip
          refine h _ ?_
          · clear h; grind [nb, lett]  -- q4
        · skip
          refine h _ ?_
          · clear h; grind [nb, lett]  -- q5
  · skip
    refine ⟨fun c6 => ?_, fun c6 => ?_⟩
    · skip
      refine h _ ?_
      · clear h; grind [nb, lett]  -- q6
    · skip
      unfold w_isLetter_12
      refine ⟨fun c7 => ?_, fun c7 => ?_⟩
      · skip
        unfold w_isLetter_24
        refine ⟨fun c8 => ?_, fun c8 => ?_⟩
        · skip
          refine h _ ?_
          · clear h; grind [nb, lett]  -- q7
        · skip
          refine h _ ?_
          · clear h; grind [nb, lett]  -- q8
      · skip
        refine ⟨fun c9 => ?_, fun c9 => ?_⟩
        · skip
          refine h _ ?_
          · clear h; grind [nb, lett]  -- q9
        · skip
          unfold w_isLetter_24
          refine ⟨fun c10 => ?_, fun c10 => ?_⟩
          · skip
            refine h _ ?_
            · clear h; grind [nb, lett]  -- q10
          · skip
            refine h _ ?_
            · clear h; grind [nb, lett]  -- q11

theorem isDigit_c {C : rCx} (hC : cOK C)  {σ : rS} {a0 : Int32} {Q : Int32 → rS → Prop} (h : ∀ (v : Int32), (nb v ∧ (v ≠ 0 ↔ 48 ≤ a0 ∧ a0 ≤ 57)) → Q v σ) : cI C 0 m_isDigit [.int a0] σ Q := by
  refine m_isDigit_run hC ?_
  unfold w_isDigit_0
  refine ⟨fun c1 => ?_, fun c1 => ?_⟩
  · skip
    refine h _ ?_
    · clear h; grind [nb]  -- q1
  · skip
    refine ⟨fun c2 => ?_, fun c2 => ?_⟩
    · skip
      refine h _ ?_
      · clear h; grind [nb]  -- q2
    · skip
      refine h _ ?_
      · clear h; grind [nb]  -- q3

theorem isBlank_c {C : rCx} (hC : cOK C)  {σ : rS} {a0 : Int32} {Q : Int32 → rS → Prop} (h : ∀ (v : Int32), (nb v ∧ (v ≠ 0 → 9 ≤ a0)) → Q v σ) : cI C 0 m_isBlank [.int a0] σ Q := by
  refine m_isBlank_run hC ?_
  unfold w_isBlank_0
  refine ⟨fun c1 => ?_, fun c1 => ?_⟩
  · skip
    refine h _ ?_
    · clear h; grind [nb]  -- q1
  · skip
    refine ⟨fun c2 => ?_, fun c2 => ?_⟩
    · skip
      refine h _ ?_
      · clear h; grind [nb]  -- q2
    · skip
      refine ⟨fun c3 => ?_, fun c3 => ?_⟩
      · skip
        refine h _ ?_
        · clear h; grind [nb]  -- q3
      · skip
        refine ⟨fun c4 => ?_, fun c4 => ?_⟩
        · skip
          refine h _ ?_
          · clear h; grind [nb]  -- q4
        · skip
          refine h _ ?_
          · clear h; grind [nb]  -- q5

theorem isSign_c {C : rCx} (hC : cOK C)  {σ : rS} {a0 : Int32} {Q : Int32 → rS → Prop} (h : ∀ (v : Int32), (nb v) → Q v σ) : cI C 0 m_isSign [.int a0] σ Q := by
  refine m_isSign_run hC ?_
  unfold w_isSign_0
  refine ⟨fun c1 => ?_, fun c1 => ?_⟩
  · skip
    refine h _ ?_
    · clear h; first | exact nb_0 | exact nb_1  -- q1
  · skip
    refine ⟨fun c2 => ?_, fun c2 => ?_⟩
    · skip
      refine h _ ?_
      · clear h; first | exact nb_0 | exact nb_1  -- q2
    · skip
      refine ⟨fun c3 => ?_, fun c3 => ?_⟩
      · skip
        refine h _ ?_
        · clear h; first | exact nb_0 | exact nb_1  -- q3
      · skip
        refine ⟨fun c4 => ?_, fun c4 => ?_⟩
        · skip
          refine h _ ?_
          · clear h; first | exact nb_0 | exact nb_1  -- q4
        · skip
          refine ⟨fun c5 => ?_, fun c5 => ?_⟩
          · skip
            refine h _ ?_
            · clear h; first | exact nb_0 | exact nb_1  -- q5
          · skip
            refine ⟨fun c6 => ?_, fun c6 => ?_⟩
            · skip
              refine h _ ?_
              · clear h; first | exact nb_0 | exact nb_1  -- q6
            · skip
              refine ⟨fun c7 => ?_, fun c7 => ?_⟩
              · skip
                refine h _ ?_
                · clear h; first | exact nb_0 | exact nb_1  -- q7
              · skip
                refine ⟨fun c8 => ?_, fun c8 => ?_⟩
                · skip
                  refine h _ ?_
                  · clear h; first | exact nb_0 | exact nb_1  -- q8
                · skip
                  refine ⟨fun c9 => ?_, fun c9 => ?_⟩
                  · skip
                    refine h _ ?_
                    · clear h; first | exact nb_0 | exact nb_1  -- q9
                  · skip
                    refine ⟨fun c10 => ?_, fun c10 => ?_⟩
                    · skip
                      refine h _ ?_
                      · clear h; first | exact nb_0 | exact nb_1  -- q10
                    · skip
                      refine ⟨fun c11 => ?_, fun c11 => ?_⟩
                      · skip
                        refine h _ ?_
                        · clear h; first | exact nb_0 | exact nb_1  -- q11
                      · skip
                        refine ⟨fun c12 => ?_, fun c12 => ?_⟩
                        · skip
                          refine h _ ?_
                          · clear h; first | exact nb_0 | exact nb_1  -- q12
                        · skip
                          refine ⟨fun c13 => ?_, fun c13 => ?_⟩
                          · skip
                            refine h _ ?_
                            · clear h; first | exact nb_0 | exact nb_1  -- q13
                          · skip
                            refine ⟨fun c14 => ?_, fun c14 => ?_⟩
                            · skip
                              refine h _ ?_
                              · clear h; first | exact nb_0 | exact nb_1  -- q14
                            · skip
                              refine ⟨fun c15 => ?_, fun c15 => ?_⟩
                              · skip
                                refine h _ ?_
                                · clear h; first | exact nb_0 | exact nb_1  -- q15
                              · skip
                                refine ⟨fun c16 => ?_, fun c16 => ?_⟩
                                · skip
                                  refine h _ ?_
                                  · clear h; first | exact nb_0 | exact nb_1  -- q16
                                · skip
                                  refine ⟨fun c17 => ?_, fun c17 => ?_⟩
                                  · skip
                                    refine h _ ?_
                                    · clear h; first | exact nb_0 | exact nb_1  -- q17
                                  · skip
                                    refine ⟨fun c18 => ?_, fun c18 => ?_⟩
                                    · skip
                                      refine h _ ?_
                                      · clear h; first | exact nb_0 | exact nb_1  -- q18
                                    · skip
                                      refine ⟨fun c19 => ?_, fun c19 => ?_⟩
                                      · skip
                                        refine h _ ?_
                                        · clear h; first | exact nb_0 | exact nb_1  -- q19
                                      · skip
                                        refine ⟨fun c20 => ?_, fun c20 => ?_⟩
                                        · skip
                                          refine h _ ?_
                                          · clear h; first | exact nb_0 | exact nb_1  -- q20
                                        · skip
                                          refine ⟨fun c21 => ?_, fun c21 => ?_⟩
                                          · skip
                                            refine h _ ?_
                                            · clear h; first | exact nb_0 | exact nb_1  -- q21
                                          · skip
                                            refine h _ ?_
                                            · clear h; first | exact nb_0 | exact nb_1  -- q22

theorem skip_c {C : rCx} (hC : cOK C)  {σ : rS} {a1 : Int32} {Q : Int32 → rS → Prop} (hp : 0 ≤ a1 ∧ a1 ≤ σ.1 2 ∧ σ.1 2 ≤ 65536) (h : ∀ (v : Int32), (a1 ≤ v ∧ v ≤ σ.1 2) → Q v σ) : cI C 1 m_skip [.ref (co C), .int a1] σ Q := by
  refine m_skip_run hC ?_
  unfold w_skip_0
  unfold w_skip_2
  refine ⟨fun n l2 τ => n = (σ.1 2 - l2).toNatClampNeg ∧ (σ = τ ∧ a1 ≤ l2 ∧ l2 ≤ σ.1 2), ⟨_, rfl, ?_⟩, ?_⟩
  · clear h; grind  -- j1
  rintro n2 x2_2 _ ⟨hn2, rfl, i2⟩
  have hj23 : ∀ (l2 : Int32) (τ : rS), (σ = τ ∧ l2 = x2_2 ∧ l2 < σ.1 2) → w_skip_23 C Q (fun l2' τ => ∃ k < n2, (fun n l2 τ => n = (σ.1 2 - l2).toNatClampNeg ∧ (σ = τ ∧ a1 ≤ l2 ∧ l2 ≤ σ.1 2)) k l2' τ) l2 τ := by
    rintro y23_2 _ ⟨rfl, j23⟩
    unfold w_skip_23
    refine byteAt_c hC  ?_ (fun r1 q3 => ?_)
    · clear h; grind  -- p2
    refine ⟨fun c4 => ?_, fun c4 => ?_⟩
    · skip
      intro x5 hx5
      refine ⟨_, cn_lt2 hn2 ?_ ?_, rfl, ?_⟩
      · clear h; grind  -- d3
      · clear h; grind  -- d4
      · clear h; grind  -- i5
    · skip
      unfold w_skip_33
      refine ⟨fun n l2 τ => n = (σ.1 2 - l2).toNatClampNeg ∧ (σ = τ ∧ x2_2 ≤ l2 ∧ l2 ≤ σ.1 2 ∧ (l2 = x2_2 → bAt (σ.1 2) (σ.2.2.1 1) l2 = 35)), ⟨_, rfl, ?_⟩, ?_⟩
      · clear h; grind  -- j6
      rintro n33 x33_2 _ ⟨hn33, rfl, i33⟩
      refine ⟨fun c6 => ?_, fun c6 => ?_⟩
      · skip
        refine ⟨_, cn_lt2 hn2 ?_ ?_, rfl, ?_⟩
        · clear h; grind  -- d7
        · clear h; grind  -- d8
        · clear h; grind  -- i9
      · skip
        refine byteAt_c hC  ?_ (fun r7 q9 => ?_)
        · clear h; grind  -- p10
        refine ⟨fun c10 => ?_, fun c10 => ?_⟩
        · skip
          refine ⟨_, cn_lt2 hn2 ?_ ?_, rfl, ?_⟩
          · clear h; grind  -- d11
          · clear h; grind  -- d12
          · clear h; grind  -- i13
        · skip
          intro x11 hx11
          refine ⟨_, cn_lt2 hn33 ?_ ?_, rfl, ?_⟩
          · clear h; grind  -- d14
          · clear h; grind  -- d15
          · clear h; grind  -- i16
  refine byteAt_c hC  ?_ (fun r12 q14 => ?_)
  · clear h; grind  -- p17
  refine isBlank_c hC  (fun r15 q17 => ?_)
  refine ⟨fun c18 => ?_, fun c18 => ?_⟩
  · skip
    refine hj23 _ _ ?_
    · clear h; grind  -- k18
  · skip
    refine byteAt_c hC  ?_ (fun r19 q21 => ?_)
    · clear h; grind  -- p19
    refine ⟨fun c22 => ?_, fun c22 => ?_⟩
    · skip
      refine h _ ?_
      · clear h; grind  -- q20
    · skip
      refine hj23 _ _ ?_
      · clear h; grind  -- k21

theorem isRight_c {C : rCx} (hC : cOK C)  {σ : rS}  {Q : Int32 → rS → Prop} (h : ∀ (v : Int32), (nb v ∧ (v ≠ 0 ↔ σ.1 11 = 0)) → Q v σ) : cI C 0 m_isRight [.ref (co C)] σ Q := by
  refine m_isRight_run hC ?_
  unfold w_isRight_0
  refine ⟨fun c1 => ?_, fun c1 => ?_⟩
  · skip
    refine h _ ?_
    · clear h; grind [nb]  -- q1
  · skip
    refine h _ ?_
    · clear h; grind [nb]  -- q2

theorem flaw_c {C : rCx} (hC : cOK C)  {σ : rS} {a1 : Int32} {a2 : Int32} {Q : rS → Prop} (hp : 0 ≤ a2 ∧ a2 < 131074 ∧ 0 < a1) (h : ∀ (σ' : rS), (((∀ k, k ≠ 11 → k ≠ 12 → σ'.1 k = σ.1 k) ∧ σ'.2 = σ.2) ∧ (σ.1 11 ≠ 0 → σ' = σ) ∧ σ'.1 11 ≠ 0 ∧ (0 ≤ σ.1 11 → 0 ≤ σ'.1 11)) → Q σ') : cV C 0 m_flaw [.ref (co C), .int a1, .int a2] σ Q := by
  refine m_flaw_run hC ?_
  unfold w_flaw_0
  refine ⟨fun c1 => ?_, fun c1 => ?_⟩
  · skip
    refine h _ ?_
    · clear h; grind [si1, si2, ri1, ri2, ri3, ri4, ri5]  -- q1
  · skip
    refine ⟨ib_131074.mpr ?_, ?_⟩
    · clear h; grind [si1, si2, ri1, ri2, ri3, ri4, ri5]  -- b2
    refine ⟨fun c2 => ?_, fun c2 => ?_⟩
    · skip
      unfold w_flaw_23
      intro σ_3 hσ_3
      refine ⟨ib_131074.mpr ?_, ?_⟩
      · clear h; grind [si1, si2, ri1, ri2, ri3, ri4, ri5]  -- b3
      intro σ_4 hσ_4
      refine h _ ?_
      · clear h; grind [si1, si2, ri1, ri2, ri3, ri4, ri5]  -- q4
    · skip
      unfold w_flaw_23
      intro σ_5 hσ_5
      refine ⟨ib_131074.mpr ?_, ?_⟩
      · clear h; grind [si1, si2, ri1, ri2, ri3, ri4, ri5]  -- b5
      intro σ_6 hσ_6
      refine h _ ?_
      · clear h; grind [si1, si2, ri1, ri2, ri3, ri4, ri5]  -- q6

theorem readNext_c {C : rCx} (hC : cOK C)  {σ : rS}  {Q : rS → Prop} (hp : 0 ≤ σ.1 10 ∧ σ.1 10 < 131074) (h : ∀ (σ' : rS), (((∀ k, k ≠ 11 → k ≠ 12 → σ'.1 k = σ.1 k) ∧ σ'.2 = σ.2) ∧ (σ.1 11 ≠ 0 → σ' = σ) ∧ (σ'.1 11 = 0 ↔ σ.1 11 = 0 ∧ rd σ 5 (σ.1 10) ≠ 4) ∧ (0 ≤ σ.1 11 → 0 ≤ σ'.1 11)) → Q σ') : cV C 1 m_readNext [.ref (co C)] σ Q := by
  refine m_readNext_run hC ?_
  unfold w_readNext_0
  refine ⟨ib_131074.mpr ?_, ?_⟩
  · clear h; grind [si1, si2, ri1, ri2, ri3, ri4, ri5]  -- b1
  refine ⟨fun c1 => ?_, fun c1 => ?_⟩
  · skip
    refine h _ ?_
    · clear h; grind [si1, si2, ri1, ri2, ri3, ri4, ri5]  -- q2
  · skip
    refine flaw_c hC  ?_ (fun σ_2 q3 => ?_)
    · clear h; grind [si1, si2, ri1, ri2, ri3, ri4, ri5]  -- p3
    refine h _ ?_
    · clear h; grind [si1, si2, ri1, ri2, ri3, ri4, ri5]  -- q4

theorem go_c {C : rCx} (hC : cOK C) (B T : Int32) {σ : rS}  {Q : rS → Prop} (hp : tK σ B T ∧ (σ.1 11 = 0 → rd σ 5 (σ.1 10) ≠ 5)) (h : ∀ (σ' : rS), (((∀ k, k ≠ 10 → k ≠ 11 → k ≠ 12 → σ'.1 k = σ.1 k) ∧ σ'.2 = σ.2) ∧ tK σ' B T ∧ (σ.1 11 ≠ 0 → σ' = σ) ∧ (σ.1 11 = 0 → σ'.1 10 = σ.1 10 + 1) ∧ (σ'.1 11 = 0 ↔ σ.1 11 = 0 ∧ rd σ 5 (σ.1 10 + 1) ≠ 4)) → Q σ') : cV C 2 m_go [.ref (co C)] σ Q := by
  refine m_go_run hC ?_
  unfold w_go_0
  refine ⟨fun c1 => ?_, fun c1 => ?_⟩
  · skip
    refine h _ ?_
    · clear h; grind [si1, si2, ri1, ri2, ri3, ri4, ri5, tK]  -- q1
  · skip
    intro σ_2 hσ_2
    refine readNext_c hC  ?_ (fun σ_3 q4 => ?_)
    · clear h; grind [si1, si2, ri1, ri2, ri3, ri4, ri5, tK]  -- p2
    refine h _ ?_
    · clear h; grind [si1, si2, ri1, ri2, ri3, ri4, ri5, tK]  -- q3

theorem isAt_c {C : rCx} (hC : cOK C)  {σ : rS} {a1 : Int32} {Q : Int32 → rS → Prop} (hp : 0 ≤ σ.1 10 ∧ σ.1 10 < 131074) (h : ∀ (v : Int32), (nb v ∧ (v ≠ 0 ↔ rd σ 5 (σ.1 10) = 3 ∧ rd σ 7 (σ.1 10) = a1)) → Q v σ) : cI C 0 m_isAt [.ref (co C), .int a1] σ Q := by
  refine m_isAt_run hC ?_
  unfold w_isAt_0
  refine ⟨ib_131074.mpr ?_, ?_⟩
  · clear h; grind [nb]  -- b1
  refine ⟨fun c1 => ?_, fun c1 => ?_⟩
  · skip
    refine h _ ?_
    · clear h; grind [nb]  -- q2
  · skip
    refine ⟨ib_131074.mpr ?_, ?_⟩
    · clear h; grind [nb]  -- b3
    refine ⟨fun c2 => ?_, fun c2 => ?_⟩
    · skip
      refine h _ ?_
      · clear h; grind [nb]  -- q4
    · skip
      refine h _ ?_
      · clear h; grind [nb]  -- q5

theorem isNext_c {C : rCx} (hC : cOK C)  {σ : rS} {a1 : Int32} {Q : Int32 → rS → Prop} (hp : 0 ≤ σ.1 10 ∧ σ.1 10 < 131073) (h : ∀ (v : Int32), (nb v ∧ (v ≠ 0 ↔ rd σ 5 (σ.1 10 + 1) = 3 ∧ rd σ 7 (σ.1 10 + 1) = a1)) → Q v σ) : cI C 0 m_isNext [.ref (co C), .int a1] σ Q := by
  refine m_isNext_run hC ?_
  unfold w_isNext_0
  refine ⟨ib_131074.mpr ?_, ?_⟩
  · clear h; grind [nb]  -- b1
  refine ⟨fun c1 => ?_, fun c1 => ?_⟩
  · skip
    refine h _ ?_
    · clear h; grind [nb]  -- q2
  · skip
    refine ⟨ib_131074.mpr ?_, ?_⟩
    · clear h; grind [nb]  -- b3
    refine ⟨fun c2 => ?_, fun c2 => ?_⟩
    · skip
      refine h _ ?_
      · clear h; grind [nb]  -- q4
    · skip
      refine h _ ?_
      · clear h; grind [nb]  -- q5

theorem isWord_c {C : rCx} (hC : cOK C)  {σ : rS} {a1 : Int32} {Q : Int32 → rS → Prop} (hp : 0 ≤ σ.1 10 ∧ σ.1 10 < 131074) (h : ∀ (v : Int32), (nb v ∧ (v ≠ 0 ↔ rd σ 5 (σ.1 10) = 6 ∧ rd σ 7 (σ.1 10) = a1)) → Q v σ) : cI C 0 m_isWord [.ref (co C), .int a1] σ Q := by
  refine m_isWord_run hC ?_
  unfold w_isWord_0
  refine ⟨ib_131074.mpr ?_, ?_⟩
  · clear h; grind [nb]  -- b1
  refine ⟨fun c1 => ?_, fun c1 => ?_⟩
  · skip
    refine h _ ?_
    · clear h; grind [nb]  -- q2
  · skip
    refine ⟨ib_131074.mpr ?_, ?_⟩
    · clear h; grind [nb]  -- b3
    refine ⟨fun c2 => ?_, fun c2 => ?_⟩
    · skip
      refine h _ ?_
      · clear h; grind [nb]  -- q4
    · skip
      refine h _ ?_
      · clear h; grind [nb]  -- q5

theorem isSame_c {C : rCx} (hC : cOK C)  {σ : rS} {a1 : Int32} {a2 : Int32} {Q : Int32 → rS → Prop} (hp : 0 ≤ a1 ∧ a1 < 131074 ∧ 0 ≤ a2 ∧ a2 < 131074) (h : ∀ (v : Int32), (nb v) → Q v σ) : cI C 0 m_isSame [.ref (co C), .int a1, .int a2] σ Q := by
  refine m_isSame_run hC ?_
  unfold w_isSame_0
  refine ⟨ib_131074.mpr ?_, ?_⟩
  · clear h; grind [nb]  -- b1
  refine ⟨ib_131074.mpr ?_, ?_⟩
  · clear h; grind [nb]  -- b2
  refine ⟨fun c1 => ?_, fun c1 => ?_⟩
  · skip
    refine h _ ?_
    · clear h; grind [nb]  -- q3
  · skip
    refine ⟨ib_131074.mpr ?_, ?_⟩
    · clear h; grind [nb]  -- b4
    refine ⟨ib_131074.mpr ?_, ?_⟩
    · clear h; grind [nb]  -- b5
    refine ⟨fun c2 => ?_, fun c2 => ?_⟩
    · skip
      refine h _ ?_
      · clear h; grind [nb]  -- q6
    · skip
      refine h _ ?_
      · clear h; grind [nb]  -- q7

theorem sign_c {C : rCx} (hC : cOK C) (B T : Int32) {σ : rS} {a1 : Int32} {Q : rS → Prop} (hp : tK σ B T) (h : ∀ (σ' : rS), (((∀ k, k ≠ 10 → k ≠ 11 → k ≠ 12 → σ'.1 k = σ.1 k) ∧ σ'.2 = σ.2) ∧ tK σ' B T ∧ (σ.1 11 ≠ 0 → σ' = σ) ∧ (σ'.1 11 = 0 ↔ σ.1 11 = 0 ∧ rd σ 5 (σ.1 10) = 3 ∧ rd σ 7 (σ.1 10) = a1 ∧ rd σ 5 (σ.1 10 + 1) ≠ 4) ∧ (σ'.1 11 = 0 → σ'.1 10 = σ.1 10 + 1)) → Q σ') : cV C 3 m_sign [.ref (co C), .int a1] σ Q := by
  refine m_sign_run hC ?_
  unfold w_sign_0
  refine isAt_c hC  ?_ (fun r1 q3 => ?_)
  · clear h; grind [tK]  -- p1
  refine ⟨fun c4 => ?_, fun c4 => ?_⟩
  · skip
    refine flaw_c hC  ?_ (fun σ_5 q6 => ?_)
    · clear h; grind [tK]  -- p2
    refine h _ ?_
    · clear h; grind [tK]  -- q3
  · skip
    refine go_c hC B T ?_ (fun σ_7 q8 => ?_)
    · clear h; grind [tK]  -- p4
    refine h _ ?_
    · clear h; grind [tK]  -- q5

theorem open_c {C : rCx} (hC : cOK C) (B T : Int32) {σ : rS} {a1 : Int32} {Q : rS → Prop} (hp : tK σ B T) (h : ∀ (σ' : rS), (((∀ k, k ≠ 10 → k ≠ 11 → k ≠ 12 → k ≠ 13 → σ'.1 k = σ.1 k) ∧ σ'.2 = σ.2) ∧ tK σ' B T ∧ (σ'.1 11 = 0 ↔ σ.1 11 = 0 ∧ rd σ 5 (σ.1 10) = 3 ∧ rd σ 7 (σ.1 10) = a1 ∧ rd σ 5 (σ.1 10 + 1) ≠ 4 ∧ σ.1 13 ≠ 40) ∧ (σ'.1 11 = 0 → σ'.1 10 = σ.1 10 + 1 ∧ σ'.1 13 = σ.1 13 + 1)) → Q σ') : cV C 3 m_open [.ref (co C), .int a1] σ Q := by
  refine m_open_run hC ?_
  unfold w_open_0
  refine isAt_c hC  ?_ (fun r1 q3 => ?_)
  · clear h; grind [si1, si2, tK, nb]  -- p1
  refine ⟨fun c4 => ?_, fun c4 => ?_⟩
  · skip
    refine ⟨fun c5 => ?_, fun c5 => ?_⟩
    · skip
      unfold w_open_38
      refine isRight_c hC  (fun r6 q8 => ?_)
      refine ⟨fun c9 => ?_, fun c9 => ?_⟩
      · skip
        unfold w_open_55
        intro σ_10 hσ_10
        refine go_c hC B T ?_ (fun σ_11 q12 => ?_)
        · clear h; grind [si1, si2, tK, nb]  -- p2
        refine h _ ?_
        · clear h; grind [si1, si2, tK, nb]  -- q3
      · skip
        unfold w_open_55
        intro σ_13 hσ_13
        refine go_c hC B T ?_ (fun σ_14 q15 => ?_)
        · clear h; grind [si1, si2, tK, nb]  -- p4
        refine h _ ?_
        · clear h; grind [si1, si2, tK, nb]  -- q5
    · skip
      refine flaw_c hC  ?_ (fun σ_16 q17 => ?_)
      · clear h; grind [si1, si2, tK, nb]  -- p6
      unfold w_open_38
      refine isRight_c hC  (fun r18 q20 => ?_)
      refine ⟨fun c21 => ?_, fun c21 => ?_⟩
      · skip
        unfold w_open_55
        intro σ_22 hσ_22
        refine go_c hC B T ?_ (fun σ_23 q24 => ?_)
        · clear h; grind [si1, si2, tK, nb]  -- p7
        refine h _ ?_
        · clear h; grind [si1, si2, tK, nb]  -- q8
      · skip
        unfold w_open_55
        intro σ_25 hσ_25
        refine go_c hC B T ?_ (fun σ_26 q27 => ?_)
        · clear h; grind [si1, si2, tK, nb]  -- p9
        refine h _ ?_
        · clear h; grind [si1, si2, tK, nb]  -- q10
  · skip
    refine flaw_c hC  ?_ (fun σ_28 q29 => ?_)
    · clear h; grind [si1, si2, tK, nb]  -- p11
    unfold w_open_38
    refine isRight_c hC  (fun r30 q32 => ?_)
    refine ⟨fun c33 => ?_, fun c33 => ?_⟩
    · skip
      unfold w_open_55
      intro σ_34 hσ_34
      refine go_c hC B T ?_ (fun σ_35 q36 => ?_)
      · clear h; grind [si1, si2, tK, nb]  -- p12
      refine h _ ?_
      · clear h; grind [si1, si2, tK, nb]  -- q13
    · skip
      unfold w_open_55
      intro σ_37 hσ_37
      refine go_c hC B T ?_ (fun σ_38 q39 => ?_)
      · clear h; grind [si1, si2, tK, nb]  -- p14
      refine h _ ?_
      · clear h; grind [si1, si2, tK, nb]  -- q15

theorem close_c {C : rCx} (hC : cOK C) (B T : Int32) {σ : rS} {a1 : Int32} {Q : rS → Prop} (hp : tK σ B T) (h : ∀ (σ' : rS), (((∀ k, k ≠ 10 → k ≠ 11 → k ≠ 12 → k ≠ 13 → σ'.1 k = σ.1 k) ∧ σ'.2 = σ.2) ∧ tK σ' B T ∧ (σ'.1 11 = 0 ↔ σ.1 11 = 0 ∧ rd σ 5 (σ.1 10) = 3 ∧ rd σ 7 (σ.1 10) = a1 ∧ rd σ 5 (σ.1 10 + 1) ≠ 4) ∧ (σ'.1 11 = 0 → σ'.1 10 = σ.1 10 + 1 ∧ σ'.1 13 = σ.1 13 - 1)) → Q σ') : cV C 4 m_close [.ref (co C), .int a1] σ Q := by
  refine m_close_run hC ?_
  unfold w_close_0
  refine isAt_c hC  ?_ (fun r1 q3 => ?_)
  · clear h; grind [si1, si2, tK, nb]  -- p1
  refine ⟨fun c4 => ?_, fun c4 => ?_⟩
  · skip
    unfold w_close_18
    intro σ_5 hσ_5
    refine sign_c hC B T ?_ (fun σ_6 q7 => ?_)
    · clear h; grind [si1, si2, tK, nb]  -- p2
    refine h _ ?_
    · clear h; grind [si1, si2, tK, nb]  -- q3
  · skip
    unfold w_close_18
    intro σ_8 hσ_8
    refine sign_c hC B T ?_ (fun σ_9 q10 => ?_)
    · clear h; grind [si1, si2, tK, nb]  -- p4
    refine h _ ?_
    · clear h; grind [si1, si2, tK, nb]  -- q5

theorem due_c {C : rCx} (hC : cOK C) (B T : Int32) {σ : rS} {a1 : Int32} {Q : Int32 → rS → Prop} (hp : tK σ B T) (h : ∀ (v : Int32) (σ' : rS), (((∀ k, k ≠ 11 → k ≠ 12 → σ'.1 k = σ.1 k) ∧ σ'.2 = σ.2) ∧ tK σ' B T ∧ v = σ.1 10 ∧ (σ.1 11 ≠ 0 → σ' = σ) ∧ (σ'.1 11 = 0 → σ.1 11 = 0 ∧ rd σ 5 (σ.1 10) = a1)) → Q v σ') : cI C 1 m_due [.ref (co C), .int a1] σ Q := by
  refine m_due_run hC ?_
  unfold w_due_0
  refine ⟨ib_131074.mpr ?_, ?_⟩
  · clear h; grind [tK]  -- b1
  refine ⟨fun c1 => ?_, fun c1 => ?_⟩
  · skip
    refine h _ _ ?_
    · clear h; grind [tK]  -- q2
  · skip
    refine flaw_c hC  ?_ (fun σ_2 q3 => ?_)
    · clear h; grind [tK]  -- p3
    refine h _ _ ?_
    · clear h; grind [tK]  -- q4

/-- all entries of a row lie within bounds -/
def eB (r : Nat → Int32) (lo hi : Int32) : Prop := ∀ k, lo ≤ r k ∧ r k < hi
/-- ranges of the numbers of a program -/
def tyF (vars arrs cells funcs statements main function blocks : Int32) : Prop := 0 ≤ vars ∧ vars ≤ 10 ∧ 0 ≤ arrs ∧ arrs ≤ 3 ∧ 0 ≤ cells ∧ cells ≤ 8 * arrs ∧ 0 ≤ funcs ∧ funcs ≤ 10 ∧ 0 ≤ statements ∧ statements ≤ 150 ∧ -1 ≤ main ∧ main < 10 ∧ 0 ≤ function ∧ function < 10 ∧ 0 ≤ blocks ∧ blocks ≤ 64
abbrev tF (σ : rS) : Prop := tyF (σ.1 15) (σ.1 16) (σ.1 17) (σ.1 18) (σ.1 19) (σ.1 40) (σ.1 41) (σ.1 42)
/-- ranges of a program's rows: names -/
def tyN (r20 r22 r25 r28 r26 r27 : Nat → Int32) : Prop := eB r20 0 131074 ∧ eB r22 0 131074 ∧ eB r25 0 131074 ∧ eB r28 0 131074 ∧ eB r26 0 5 ∧ eB r27 0 9
abbrev tN (σ : rS) : Prop := tyN (σ.2.2.1 20) (σ.2.2.1 22) (σ.2.2.1 25) (σ.2.2.1 28) (σ.2.2.1 26) (σ.2.2.1 27)
theorem isTold_c {C : rCx} (hC : cOK C)  {σ : rS} {a1 : Int32} {Q : Int32 → rS → Prop} (hp : tF σ ∧ tN σ ∧ 0 ≤ a1 ∧ a1 < 131074) (h : ∀ (v : Int32), (nb v) → Q v σ) : cI C 1 m_isTold [.ref (co C), .int a1] σ Q := by
  refine m_isTold_run hC ?_
  unfold w_isTold_0
  unfold w_isTold_4
  refine ⟨fun n l1 l2 l3 τ => n = (σ.1 15 - l3).toNatClampNeg ∧ (σ = τ ∧ l1 = a1 ∧ nb l2 ∧ 0 ≤ l3 ∧ l3 ≤ σ.1 15), ⟨_, rfl, ?_⟩, ?_⟩
  · clear h; grind [tyF, tyN, eB, nb]  -- j1
  rintro n4 x4_1 x4_2 x4_3 _ ⟨hn4, rfl, i4⟩
  refine ⟨fun c1 => ?_, fun c1 => ?_⟩
  · skip
    unfold w_isTold_44
    refine ⟨fun n l1 l2 l3 τ => n = (σ.1 16 - l3).toNatClampNeg ∧ (σ = τ ∧ l1 = a1 ∧ nb l2 ∧ 0 ≤ l3 ∧ l3 ≤ σ.1 16), ⟨_, rfl, ?_⟩, ?_⟩
    · clear h; grind [tyF, tyN, eB, nb]  -- j2
    rintro n44 x44_1 x44_2 x44_3 _ ⟨hn44, rfl, i44⟩
    refine ⟨fun c2 => ?_, fun c2 => ?_⟩
    · skip
      unfold w_isTold_84
      refine ⟨fun n l1 l2 l3 τ => n = (σ.1 18 - l3).toNatClampNeg ∧ (σ = τ ∧ l1 = a1 ∧ nb l2 ∧ 0 ≤ l3 ∧ l3 ≤ σ.1 18), ⟨_, rfl, ?_⟩, ?_⟩
      · clear h; grind [tyF, tyN, eB, nb]  -- j3
      rintro n84 x84_1 x84_2 x84_3 _ ⟨hn84, rfl, i84⟩
      refine ⟨fun c3 => ?_, fun c3 => ?_⟩
      · skip
        refine ⟨?_, h _ ?_⟩
        · clear h; grind [tyF, tyN, eB, nb]  -- b4
        · clear h; grind [tyF, tyN, eB, nb]  -- q5
      · skip
        refine ⟨fun c4 => ?_, fun c4 => ?_⟩
        · skip
          unfold w_isTold_115
          intro x5 hx5
          refine ⟨_, cn_lt2 hn84 ?_ ?_, rfl, ?_⟩
          · clear h; grind [tyF, tyN, eB, nb]  -- d6
          · clear h; grind [tyF, tyN, eB, nb]  -- d7
          · clear h; grind [tyF, tyN, eB, nb]  -- i8
        · skip
          refine ⟨ib_10.mpr ?_, ?_⟩
          · clear h; grind [tyF, tyN, eB, nb]  -- b9
          refine isSame_c hC  ?_ (fun r6 q8 => ?_)
          · clear h; grind [tyF, tyN, eB, nb]  -- p10
          refine ⟨fun c9 => ?_, fun c9 => ?_⟩
          · skip
            unfold w_isTold_115
            intro x10 hx10
            refine ⟨_, cn_lt2 hn84 ?_ ?_, rfl, ?_⟩
            · clear h; grind [tyF, tyN, eB, nb]  -- d11
            · clear h; grind [tyF, tyN, eB, nb]  -- d12
            · clear h; grind [tyF, tyN, eB, nb]  -- i13
          · skip
            unfold w_isTold_115
            intro x11 hx11
            refine ⟨_, cn_lt2 hn84 ?_ ?_, rfl, ?_⟩
            · clear h; grind [tyF, tyN, eB, nb]  -- d14
            · clear h; grind [tyF, tyN, eB, nb]  -- d15
            · clear h; grind [tyF, tyN, eB, nb]  -- i16
    · skip
      refine ⟨fun c12 => ?_, fun c12 => ?_⟩
      · skip
        unfold w_isTold_75
        intro x13 hx13
        refine ⟨_, cn_lt2 hn44 ?_ ?_, rfl, ?_⟩
        · clear h; grind [tyF, tyN, eB, nb]  -- d17
        · clear h; grind [tyF, tyN, eB, nb]  -- d18
        · clear h; grind [tyF, tyN, eB, nb]  -- i19
      · skip
        refine ⟨ib_3.mpr ?_, ?_⟩
        · clear h; grind [tyF, tyN, eB, nb]  -- b20
        refine isSame_c hC  ?_ (fun r14 q16 => ?_)
        · clear h; grind [tyF, tyN, eB, nb]  -- p21
        refine ⟨fun c17 => ?_, fun c17 => ?_⟩
        · skip
          unfold w_isTold_75
          intro x18 hx18
          refine ⟨_, cn_lt2 hn44 ?_ ?_, rfl, ?_⟩
          · clear h; grind [tyF, tyN, eB, nb]  -- d22
          · clear h; grind [tyF, tyN, eB, nb]  -- d23
          · clear h; grind [tyF, tyN, eB, nb]  -- i24
        · skip
          unfold w_isTold_75
          intro x19 hx19
          refine ⟨_, cn_lt2 hn44 ?_ ?_, rfl, ?_⟩
          · clear h; grind [tyF, tyN, eB, nb]  -- d25
          · clear h; grind [tyF, tyN, eB, nb]  -- d26
          · clear h; grind [tyF, tyN, eB, nb]  -- i27
  · skip
    refine ⟨fun c20 => ?_, fun c20 => ?_⟩
    · skip
      unfold w_isTold_35
      intro x21 hx21
      refine ⟨_, cn_lt2 hn4 ?_ ?_, rfl, ?_⟩
      · clear h; grind [tyF, tyN, eB, nb]  -- d28
      · clear h; grind [tyF, tyN, eB, nb]  -- d29
      · clear h; grind [tyF, tyN, eB, nb]  -- i30
    · skip
      refine ⟨ib_10.mpr ?_, ?_⟩
      · clear h; grind [tyF, tyN, eB, nb]  -- b31
      refine isSame_c hC  ?_ (fun r22 q24 => ?_)
      · clear h; grind [tyF, tyN, eB, nb]  -- p32
      refine ⟨fun c25 => ?_, fun c25 => ?_⟩
      · skip
        unfold w_isTold_35
        intro x26 hx26
        refine ⟨_, cn_lt2 hn4 ?_ ?_, rfl, ?_⟩
        · clear h; grind [tyF, tyN, eB, nb]  -- d33
        · clear h; grind [tyF, tyN, eB, nb]  -- d34
        · clear h; grind [tyF, tyN, eB, nb]  -- i35
      · skip
        unfold w_isTold_35
        intro x27 hx27
        refine ⟨_, cn_lt2 hn4 ?_ ?_, rfl, ?_⟩
        · clear h; grind [tyF, tyN, eB, nb]  -- d36
        · clear h; grind [tyF, tyN, eB, nb]  -- d37
        · clear h; grind [tyF, tyN, eB, nb]  -- i38

theorem variableOf_c {C : rCx} (hC : cOK C)  {σ : rS} {a1 : Int32} {Q : Int32 → rS → Prop} (hp : tF σ ∧ tN σ ∧ 0 ≤ a1 ∧ a1 < 131074) (h : ∀ (v : Int32), (v = -1 ∨ (100 ≤ v ∧ v < 100 + rd σ 27 (σ.1 41)) ∨ (0 ≤ v ∧ v < σ.1 15)) → Q v σ) : cI C 1 m_variableOf [.ref (co C), .int a1] σ Q := by
  refine m_variableOf_run hC ?_
  unfold w_variableOf_0
  unfold w_variableOf_2
  refine ⟨fun n l1 l2 τ => n = (rd σ 27 (σ.1 41) - l2).toNatClampNeg ∧ (σ = τ ∧ l1 = a1 ∧ 0 ≤ l2 ∧ l2 ≤ rd σ 27 (σ.1 41)), ⟨_, rfl, ?_⟩, ?_⟩
  · clear h; grind [tyF, tyN, eB, nb]  -- j1
  rintro n2 x2_1 x2_2 _ ⟨hn2, rfl, i2⟩
  refine ⟨ib_10.mpr ?_, ?_⟩
  · clear h; grind [tyF, tyN, eB, nb]  -- b2
  refine ⟨fun c1 => ?_, fun c1 => ?_⟩
  · skip
    unfold w_variableOf_50
    refine ⟨fun n l1 l2 τ => n = (σ.1 15 - l2).toNatClampNeg ∧ (σ = τ ∧ l1 = a1 ∧ 0 ≤ l2 ∧ l2 ≤ σ.1 15), ⟨_, rfl, ?_⟩, ?_⟩
    · clear h; grind [tyF, tyN, eB, nb]  -- j3
    rintro n50 x50_1 x50_2 _ ⟨hn50, rfl, i50⟩
    refine ⟨fun c2 => ?_, fun c2 => ?_⟩
    · skip
      refine h _ ?_
      · clear h; grind [tyF, tyN, eB, nb]  -- q4
    · skip
      refine ⟨ib_10.mpr ?_, ?_⟩
      · clear h; grind [tyF, tyN, eB, nb]  -- b5
      refine isSame_c hC  ?_ (fun r3 q5 => ?_)
      · clear h; grind [tyF, tyN, eB, nb]  -- p6
      refine ⟨fun c6 => ?_, fun c6 => ?_⟩
      · skip
        intro x7 hx7
        refine ⟨_, cn_lt2 hn50 ?_ ?_, rfl, ?_⟩
        · clear h; grind [tyF, tyN, eB, nb]  -- d7
        · clear h; grind [tyF, tyN, eB, nb]  -- d8
        · clear h; grind [tyF, tyN, eB, nb]  -- i9
      · skip
        refine h _ ?_
        · clear h; grind [tyF, tyN, eB, nb]  -- q10
  · skip
    refine ⟨ib_80.mpr ?_, ?_⟩
    · clear h; grind [tyF, tyN, eB, nb]  -- b11
    refine isSame_c hC  ?_ (fun r8 q10 => ?_)
    · clear h; grind [tyF, tyN, eB, nb]  -- p12
    refine ⟨fun c11 => ?_, fun c11 => ?_⟩
    · skip
      intro x12 hx12
      refine ⟨_, cn_lt2 hn2 ?_ ?_, rfl, ?_⟩
      · clear h; grind [tyF, tyN, eB, nb]  -- d13
      · clear h; grind [tyF, tyN, eB, nb]  -- d14
      · clear h; grind [tyF, tyN, eB, nb]  -- i15
    · skip
      refine h _ ?_
      · clear h; grind [tyF, tyN, eB, nb]  -- q16

theorem arrayOf_c {C : rCx} (hC : cOK C)  {σ : rS} {a1 : Int32} {Q : Int32 → rS → Prop} (hp : tF σ ∧ tN σ ∧ 0 ≤ a1 ∧ a1 < 131074) (h : ∀ (v : Int32), (v = -1 ∨ (200 ≤ v ∧ v < 200 + σ.1 16)) → Q v σ) : cI C 1 m_arrayOf [.ref (co C), .int a1] σ Q := by
  refine m_arrayOf_run hC ?_
  unfold w_arrayOf_0
  unfold w_arrayOf_2
  refine ⟨fun n l1 l2 τ => n = (σ.1 16 - l2).toNatClampNeg ∧ (σ = τ ∧ l1 = a1 ∧ 0 ≤ l2 ∧ l2 ≤ σ.1 16), ⟨_, rfl, ?_⟩, ?_⟩
  · clear h; grind [tyF, tyN, eB, nb]  -- j1
  rintro n2 x2_1 x2_2 _ ⟨hn2, rfl, i2⟩
  refine ⟨fun c1 => ?_, fun c1 => ?_⟩
  · skip
    refine h _ ?_
    · clear h; grind [tyF, tyN, eB, nb]  -- q2
  · skip
    refine ⟨ib_3.mpr ?_, ?_⟩
    · clear h; grind [tyF, tyN, eB, nb]  -- b3
    refine isSame_c hC  ?_ (fun r2 q4 => ?_)
    · clear h; grind [tyF, tyN, eB, nb]  -- p4
    refine ⟨fun c5 => ?_, fun c5 => ?_⟩
    · skip
      intro x6 hx6
      refine ⟨_, cn_lt2 hn2 ?_ ?_, rfl, ?_⟩
      · clear h; grind [tyF, tyN, eB, nb]  -- d5
      · clear h; grind [tyF, tyN, eB, nb]  -- d6
      · clear h; grind [tyF, tyN, eB, nb]  -- i7
    · skip
      refine h _ ?_
      · clear h; grind [tyF, tyN, eB, nb]  -- q8

theorem functionOf_c {C : rCx} (hC : cOK C)  {σ : rS} {a1 : Int32} {Q : Int32 → rS → Prop} (hp : tF σ ∧ tN σ ∧ 0 ≤ a1 ∧ a1 < 131074) (h : ∀ (v : Int32), (v = -1 ∨ (0 ≤ v ∧ v < σ.1 18)) → Q v σ) : cI C 1 m_functionOf [.ref (co C), .int a1] σ Q := by
  refine m_functionOf_run hC ?_
  unfold w_functionOf_0
  unfold w_functionOf_2
  refine ⟨fun n l1 l2 τ => n = (σ.1 18 - l2).toNatClampNeg ∧ (σ = τ ∧ l1 = a1 ∧ 0 ≤ l2 ∧ l2 ≤ σ.1 18), ⟨_, rfl, ?_⟩, ?_⟩
  · clear h; grind [tyF, tyN, eB, nb]  -- j1
  rintro n2 x2_1 x2_2 _ ⟨hn2, rfl, i2⟩
  refine ⟨fun c1 => ?_, fun c1 => ?_⟩
  · skip
    refine h _ ?_
    · clear h; grind [tyF, tyN, eB, nb]  -- q2
  · skip
    refine ⟨ib_10.mpr ?_, ?_⟩
    · clear h; grind [tyF, tyN, eB, nb]  -- b3
    refine isSame_c hC  ?_ (fun r2 q4 => ?_)
    · clear h; grind [tyF, tyN, eB, nb]  -- p4
    refine ⟨fun c5 => ?_, fun c5 => ?_⟩
    · skip
      intro x6 hx6
      refine ⟨_, cn_lt2 hn2 ?_ ?_, rfl, ?_⟩
      · clear h; grind [tyF, tyN, eB, nb]  -- d5
      · clear h; grind [tyF, tyN, eB, nb]  -- d6
      · clear h; grind [tyF, tyN, eB, nb]  -- i7
    · skip
      refine h _ ?_
      · clear h; grind [tyF, tyN, eB, nb]  -- q8

theorem fresh_c {C : rCx} (hC : cOK C) (B T : Int32) {σ : rS} {a1 : Int32} {a2 : Int32} {a3 : Int32} {Q : Int32 → rS → Prop} (hp : tK σ B T ∧ tF σ ∧ tN σ) (h : ∀ (v : Int32) (σ' : rS), (((∀ k, k ≠ 10 → k ≠ 11 → k ≠ 12 → σ'.1 k = σ.1 k) ∧ σ'.2 = σ.2) ∧ tK σ' B T ∧ v = σ.1 10 ∧ (σ.1 11 ≠ 0 → σ' = σ) ∧ (σ'.1 11 = 0 → σ.1 11 = 0 ∧ rd σ 5 (σ.1 10) = 1 ∧ a2 < a3 ∧ σ'.1 10 = σ.1 10 + 1 ∧ rd σ 5 (σ'.1 10) ≠ 4)) → Q v σ') : cI C 3 m_fresh [.ref (co C), .int a1, .int a2, .int a3] σ Q := by
  refine m_fresh_run hC ?_
  unfold w_fresh_0
  have hj98 : ∀ (l2 : Int32) (l3 : Int32) (l4 : Int32) (τ : rS), (l2 = a2 ∧ l3 = a3 ∧ ((∀ k, k ≠ 11 → k ≠ 12 → τ.1 k = σ.1 k) ∧ τ.2 = σ.2) ∧ tK τ B T ∧ l4 = σ.1 10 ∧ (σ.1 11 ≠ 0 → τ = σ) ∧ (τ.1 11 = 0 → σ.1 11 = 0 ∧ rd σ 5 (σ.1 10) = 1)) → w_fresh_98 C Q  l2 l3 l4 τ := by
    rintro y98_2 y98_3 y98_4 τ98 j98
    unfold w_fresh_98
    refine isRight_c hC  (fun r1 q3 => ?_)
    refine ⟨fun c4 => ?_, fun c4 => ?_⟩
    · skip
      refine go_c hC B T ?_ (fun σ_5 q6 => ?_)
      · clear h; grind [tyF, tyN, eB, nb, tK]  -- p1
      refine h _ _ ?_
      · clear h; grind [tyF, tyN, eB, nb, tK]  -- q2
    · skip
      refine ⟨fun c7 => ?_, fun c7 => ?_⟩
      · skip
        refine go_c hC B T ?_ (fun σ_8 q9 => ?_)
        · clear h; grind [tyF, tyN, eB, nb, tK]  -- p3
        refine h _ _ ?_
        · clear h; grind [tyF, tyN, eB, nb, tK]  -- q4
      · skip
        refine flaw_c hC  ?_ (fun σ_10 q11 => ?_)
        · clear h; grind [tyF, tyN, eB, nb, tK]  -- p5
        refine go_c hC B T ?_ (fun σ_12 q13 => ?_)
        · clear h; grind [tyF, tyN, eB, nb, tK]  -- p6
        refine h _ _ ?_
        · clear h; grind [tyF, tyN, eB, nb, tK]  -- q7
  have hj78 : ∀ (l2 : Int32) (l3 : Int32) (l4 : Int32) (l5 : Int32) (τ : rS), (l2 = a2 ∧ l3 = a3 ∧ ((∀ k, k ≠ 11 → k ≠ 12 → τ.1 k = σ.1 k) ∧ τ.2 = σ.2) ∧ tK τ B T ∧ l4 = σ.1 10 ∧ (σ.1 11 ≠ 0 → τ = σ) ∧ (τ.1 11 = 0 → σ.1 11 = 0 ∧ rd σ 5 (σ.1 10) = 1)) → w_fresh_78 C Q  l2 l3 l4 l5 τ := by
    rintro y78_2 y78_3 y78_4 y78_5 τ78 j78
    unfold w_fresh_78
    refine isRight_c hC  (fun r14 q16 => ?_)
    refine ⟨fun c17 => ?_, fun c17 => ?_⟩
    · skip
      refine hj98 _ _ _ _ ?_
      · clear h; grind [tyF, tyN, eB, nb, tK]  -- k8
    · skip
      refine ⟨fun c18 => ?_, fun c18 => ?_⟩
      · skip
        refine hj98 _ _ _ _ ?_
        · clear h; grind [tyF, tyN, eB, nb, tK]  -- k9
      · skip
        refine flaw_c hC  ?_ (fun σ_19 q20 => ?_)
        · clear h; grind [tyF, tyN, eB, nb, tK]  -- p10
        refine hj98 _ _ _ _ ?_
        · clear h; grind [tyF, tyN, eB, nb, tK]  -- k11
  refine due_c hC B T ?_ (fun r21 σ_22 q23 => ?_)
  · clear h; grind [tyF, tyN, eB, nb, tK]  -- p12
  refine isTold_c hC  ?_ (fun r24 q26 => ?_)
  · clear h; grind [tyF, tyN, eB, nb, tK]  -- p13
  unfold w_fresh_18
  refine ⟨fun n l1 l2 l3 l4 l5 l6 τ => n = (rd σ 27 (σ.1 41) - l6).toNatClampNeg ∧ (l1 = a1 ∧ l2 = a2 ∧ l3 = a3 ∧ ((∀ k, k ≠ 11 → k ≠ 12 → τ.1 k = σ.1 k) ∧ τ.2 = σ.2) ∧ tK τ B T ∧ nb l5 ∧ l4 = σ.1 10 ∧ (σ.1 11 ≠ 0 → τ = σ) ∧ (τ.1 11 = 0 → σ.1 11 = 0 ∧ rd σ 5 (σ.1 10) = 1) ∧ 0 ≤ l6 ∧ l6 ≤ rd σ 27 (σ.1 41)), ⟨_, rfl, ?_⟩, ?_⟩
  · clear h; grind [tyF, tyN, eB, nb, tK]  -- j14
  rintro n18 x18_1 x18_2 x18_3 x18_4 x18_5 x18_6 σ18 ⟨hn18, i18⟩
  refine ⟨fun c27 => ?_, fun c27 => ?_⟩
  · skip
    refine hj78 _ _ _ _ _ ?_
    · clear h; grind [tyF, tyN, eB, nb, tK]  -- k15
  · skip
    refine ⟨ib_10.mpr ?_, ?_⟩
    · clear h; grind [tyF, tyN, eB, nb, tK]  -- b16
    refine ⟨fun c28 => ?_, fun c28 => ?_⟩
    · skip
      refine hj78 _ _ _ _ _ ?_
      · clear h; grind [tyF, tyN, eB, nb, tK]  -- k17
    · skip
      refine ⟨fun c29 => ?_, fun c29 => ?_⟩
      · skip
        unfold w_fresh_70
        intro x30 hx30
        refine ⟨_, cn_lt2 hn18 ?_ ?_, rfl, ?_⟩
        · clear h; grind [tyF, tyN, eB, nb, tK]  -- d18
        · clear h; grind [tyF, tyN, eB, nb, tK]  -- d19
        · clear h; grind [tyF, tyN, eB, nb, tK]  -- i20
      · skip
        refine ⟨ib_80.mpr ?_, ?_⟩
        · clear h; grind [tyF, tyN, eB, nb, tK]  -- b21
        refine isSame_c hC  ?_ (fun r31 q33 => ?_)
        · clear h; grind [tyF, tyN, eB, nb, tK]  -- p22
        refine ⟨fun c34 => ?_, fun c34 => ?_⟩
        · skip
          unfold w_fresh_70
          intro x35 hx35
          refine ⟨_, cn_lt2 hn18 ?_ ?_, rfl, ?_⟩
          · clear h; grind [tyF, tyN, eB, nb, tK]  -- d23
          · clear h; grind [tyF, tyN, eB, nb, tK]  -- d24
          · clear h; grind [tyF, tyN, eB, nb, tK]  -- i25
        · skip
          unfold w_fresh_70
          intro x36 hx36
          refine ⟨_, cn_lt2 hn18 ?_ ?_, rfl, ?_⟩
          · clear h; grind [tyF, tyN, eB, nb, tK]  -- d26
          · clear h; grind [tyF, tyN, eB, nb, tK]  -- d27
          · clear h; grind [tyF, tyN, eB, nb, tK]  -- i28

end
section
set_option maxHeartbeats 1600000
/-! the reference: the tape, cut into tokens -/
/-- only the entries at a place differ -/
def onlyAt (t : Int32) (σ σ' : rS) : Prop := (∀ r j, j ≠ t.toNatClampNeg → σ'.2.2.1 r j = σ.2.2.1 r j) ∧ (∀ r j, j ≠ t.toNatClampNeg → σ'.2.2.2 r j = σ.2.2.2 r j)
/-- the entries outside of a text's own place are the same -/
def outB (b : Int32) (σ σ' : rS) : Prop := (∀ r (j : Int32), 0 ≤ j → (j < b ∨ b + 65536 < j) → rd σ' r j = rd σ r j) ∧ (∀ r (j : Int32), 0 ≤ j → (j < b ∨ b + 65536 < j) → σ'.2.2.2 r j.toNatClampNeg = σ.2.2.2 r j.toNatClampNeg)
theorem oa_ri {σ : rS} {r : Nat} {t x : Int32} : onlyAt t σ (riU σ r t.toNatClampNeg x) := by
  refine ⟨fun q j hj => ?_, fun q j hj => rfl⟩
  by_cases h : q = r
  · subst h; rw [ri4, if_neg hj]
  · rw [ri3 h]
theorem oa_rl {σ : rS} {r : Nat} {t : Int32} {x : Int64} : onlyAt t σ (rlU σ r t.toNatClampNeg x) := by
  refine ⟨fun q j hj => rfl, fun q j hj => ?_⟩
  by_cases h : q = r
  · subst h; rw [rl5, if_neg hj]
  · rw [rl4 h]
theorem oa_tr {t : Int32} {a b c : rS} (h1 : onlyAt t a b) (h2 : onlyAt t b c) : onlyAt t a c := ⟨fun r j hj => (h2.1 r j hj).trans (h1.1 r j hj), fun r j hj => (h2.2 r j hj).trans (h1.2 r j hj)⟩
theorem oa_refl {t : Int32} {a : rS} : onlyAt t a a := ⟨fun _ _ _ => rfl, fun _ _ _ => rfl⟩
theorem ob_refl {t : Int32} {a : rS} : outB t a a := ⟨fun _ _ _ _ => rfl, fun _ _ _ _ => rfl⟩
theorem ob_tr {t : Int32} {a b c : rS} (h1 : outB t a b) (h2 : outB t b c) : outB t a c := ⟨fun r j h0 hj => (h2.1 r j h0 hj).trans (h1.1 r j h0 hj), fun r j h0 hj => (h2.2 r j h0 hj).trans (h1.2 r j h0 hj)⟩
theorem ob_oa {t b : Int32} {σ τ : rS} (h : onlyAt t σ τ) (h0 : 0 ≤ t) (h1 : b ≤ t) (h2 : t ≤ b + 65536) : outB b σ τ :=
  ⟨fun r j hj0 hj => h.1 r _ (fun e => by have := cn_inj hj0 h0 e; grind), fun r j hj0 hj => h.2 r _ (fun e => by have := cn_inj hj0 h0 e; grind)⟩
theorem ob_si {b : Int32} {σ : rS} {k : Nat} {x : Int32} : outB b σ (siU σ k x) := ⟨fun _ _ _ _ => rfl, fun _ _ _ _ => rfl⟩
theorem ob_ri {t b : Int32} {σ τ : rS} {r : Nat} {x : Int32} (h : outB b σ τ) (h0 : 0 ≤ t) (h1 : b ≤ t) (h2 : t ≤ b + 65536) : outB b σ (riU τ r t.toNatClampNeg x) := ob_tr h (ob_oa oa_ri h0 h1 h2)
theorem ob_si2 {b : Int32} {σ τ : rS} {k : Nat} {x : Int32} (h : outB b σ τ) : outB b σ (siU τ k x) := ob_tr h ob_si
theorem ob_only {t b : Int32} {σ τ υ : rS} (h : outB b σ τ) (ho : onlyAt t τ υ) (h0 : 0 ≤ t) (h1 : b ≤ t) (h2 : t ≤ b + 65536) : outB b σ υ := ob_tr h (ob_oa ho h0 h1 h2)
theorem vb5 : vp_nar .byte (5 : Int32) = 5 := by decide
theorem word_c {C : rCx} (hC : cOK C)  {σ : rS} {a0 : Int32} {a1 : Int32} {a2 : Int32} {a3 : Int32} {a4 : Int32} {a5 : Int32} {a6 : Int32} {Q : Int64 → rS → Prop} (h : ∀ (v : Int64), (True) → Q v σ) : cJ C 0 m_word [.int a0, .int a1, .int a2, .int a3, .int a4, .int a5, .int a6] σ Q := by
  refine m_word_run hC ?_
  unfold w_word_0
  refine h _ ?_
  · clear h; trivial  -- q1

theorem shortWord_c {C : rCx} (hC : cOK C)  {σ : rS} {a0 : Int64} {Q : Int32 → rS → Prop} (h : ∀ (v : Int32), (True) → Q v σ) : cI C 1 m_shortWord [.long a0] σ Q := by
  refine m_shortWord_run hC ?_
  unfold w_shortWord_0
  refine word_c hC  (fun r1 q3 => ?_)
  refine ⟨fun c4 => ?_, fun c4 => ?_⟩
  · skip
    refine word_c hC  (fun r5 q7 => ?_)
    refine ⟨fun c8 => ?_, fun c8 => ?_⟩
    · skip
      refine word_c hC  (fun r9 q11 => ?_)
      refine ⟨fun c12 => ?_, fun c12 => ?_⟩
      · skip
        refine word_c hC  (fun r13 q15 => ?_)
        refine ⟨fun c16 => ?_, fun c16 => ?_⟩
        · skip
          refine word_c hC  (fun r17 q19 => ?_)
          refine ⟨fun c20 => ?_, fun c20 => ?_⟩
          · skip
            refine word_c hC  (fun r21 q23 => ?_)
            refine ⟨fun c24 => ?_, fun c24 => ?_⟩
            · skip
              refine word_c hC  (fun r25 q27 => ?_)
              refine ⟨fun c28 => ?_, fun c28 => ?_⟩
              · skip
                refine word_c hC  (fun r29 q31 => ?_)
                refine ⟨fun c32 => ?_, fun c32 => ?_⟩
                · skip
                  refine h _ ?_
                  · clear h; trivial  -- q1
                · skip
                  refine h _ ?_
                  · clear h; trivial  -- q2
              · skip
                refine h _ ?_
                · clear h; trivial  -- q3
            · skip
              refine h _ ?_
              · clear h; trivial  -- q4
          · skip
            refine h _ ?_
            · clear h; trivial  -- q5
        · skip
          refine h _ ?_
          · clear h; trivial  -- q6
      · skip
        refine h _ ?_
        · clear h; trivial  -- q7
    · skip
      refine h _ ?_
      · clear h; trivial  -- q8
  · skip
    refine h _ ?_
    · clear h; trivial  -- q9

theorem wordOf_c {C : rCx} (hC : cOK C)  {σ : rS} {a0 : Int64} {Q : Int32 → rS → Prop} (h : ∀ (v : Int32), (True) → Q v σ) : cI C 2 m_wordOf [.long a0] σ Q := by
  refine m_wordOf_run hC ?_
  unfold w_wordOf_0
  refine shortWord_c hC  (fun r1 q3 => ?_)
  refine ⟨fun c4 => ?_, fun c4 => ?_⟩
  · skip
    refine word_c hC  (fun r5 q7 => ?_)
    refine ⟨fun c8 => ?_, fun c8 => ?_⟩
    · skip
      refine word_c hC  (fun r9 q11 => ?_)
      refine ⟨fun c12 => ?_, fun c12 => ?_⟩
      · skip
        refine word_c hC  (fun r13 q15 => ?_)
        refine ⟨fun c16 => ?_, fun c16 => ?_⟩
        · skip
          refine word_c hC  (fun r17 q19 => ?_)
          refine ⟨fun c20 => ?_, fun c20 => ?_⟩
          · skip
            refine word_c hC  (fun r21 q23 => ?_)
            refine ⟨fun c24 => ?_, fun c24 => ?_⟩
            · skip
              refine h _ ?_
              · clear h; trivial  -- q1
            · skip
              refine h _ ?_
              · clear h; trivial  -- q2
          · skip
            refine h _ ?_
            · clear h; trivial  -- q3
        · skip
          refine h _ ?_
          · clear h; trivial  -- q4
      · skip
        refine h _ ?_
        · clear h; trivial  -- q5
    · skip
      refine h _ ?_
      · clear h; trivial  -- q6
  · skip
    refine h _ ?_
    · clear h; trivial  -- q7

theorem takeName_c {C : rCx} (hC : cOK C)  {σ : rS} {a1 : Int32} {a2 : Int32} {Q : Int32 → rS → Prop} (hp : 0 ≤ a1 ∧ a1 < 131074 ∧ 0 ≤ a2 ∧ a2 ≤ σ.1 2 ∧ σ.1 2 ≤ 65536 ∧ lett (bAt (σ.1 2) (σ.2.2.1 1) a2)) (h : ∀ (v : Int32) (σ' : rS), (((∀ k,  σ'.1 k = σ.1 k) ∧ (∀ k,  σ'.2.1 k = σ.2.1 k) ∧ (∀ k, k ≠ 5 → k ≠ 7 → k ≠ 9 → σ'.2.2.1 k = σ.2.2.1 k) ∧ (∀ k j, k ≠ 5 → k ≠ 7 → k ≠ 9 → σ'.2.2.1 k j = σ.2.2.1 k j) ∧ (∀ k j, k ≠ 8 → σ'.2.2.2 k j = σ.2.2.2 k j)) ∧ onlyAt a1 σ σ' ∧ a2 < v ∧ v ≤ σ.1 2) → Q v σ') : cI C 3 m_takeName [.ref (co C), .int a1, .int a2] σ Q := by
  refine m_takeName_run hC ?_
  unfold w_takeName_0
  have hj159 : ∀ (l1 : Int32) (l2 : Int32) (l3 : Int32) (s1 : Int32) (s2 : Int32) (τ : rS), (l1 = a1 ∧ l2 = a2 ∧ ((∀ k,  τ.1 k = σ.1 k) ∧ (∀ k,  τ.2.1 k = σ.2.1 k) ∧ (∀ k, k ≠ 9 → τ.2.2.1 k = σ.2.2.1 k) ∧ (∀ k j, k ≠ 9 → τ.2.2.1 k j = σ.2.2.1 k j) ∧ (∀ k j, k ≠ 8 → τ.2.2.2 k j = σ.2.2.2 k j)) ∧ onlyAt a1 σ τ ∧ a2 < l3 ∧ l3 ≤ σ.1 2 ∧ s1 = a1) → w_takeName_159 C Q  l1 l2 l3 s1 s2 τ := by
    rintro y159_1 y159_2 y159_3 y159_s1 y159_s2 τ159 j159
    unfold w_takeName_159
    refine ⟨ib_131074.mpr ?_, ?_⟩
    · clear h; grind (splits := 24) [si1, si2, ri1, ri2, ri3, ri34, ri5, rl1, rl2, rl3, rl3a, rl4, rl45, onlyAt, nb]  -- b1
    intro σ_1 hσ_1
    refine ⟨fun c2 => ?_, fun c2 => ?_⟩
    · skip
      refine ⟨ib_131074.mpr ?_, ?_⟩
      · clear h; grind (splits := 24) [si1, si2, ri1, ri2, ri3, ri34, ri5, rl1, rl2, rl3, rl3a, rl4, rl45, onlyAt, nb]  -- b2
      refine ⟨fun c3 => ?_, fun c3 => ?_⟩
      · skip
        refine ⟨ib_131074.mpr ?_, ?_⟩
        · clear h; grind (splits := 24) [si1, si2, ri1, ri2, ri3, ri34, ri5, rl1, rl2, rl3, rl3a, rl4, rl45, onlyAt, nb]  -- b3
        intro σ_4 hσ_4
        refine h _ _ ?_
        · clear h; grind (splits := 24) [si1, si2, ri1, ri2, ri3, ri34, ri5, rl1, rl2, rl3, rl3a, rl4, rl45, onlyAt, nb]  -- q4
      · skip
        refine ⟨ib_131074.mpr ?_, ?_⟩
        · clear h; grind (splits := 24) [si1, si2, ri1, ri2, ri3, ri34, ri5, rl1, rl2, rl3, rl3a, rl4, rl45, onlyAt, nb]  -- b5
        intro σ_5 hσ_5
        refine h _ _ ?_
        · clear h; grind (splits := 24) [si1, si2, ri1, ri2, ri3, ri34, ri5, rl1, rl2, rl3, rl3a, rl4, rl45, onlyAt, nb]  -- q6
    · skip
      refine ⟨ib_131074.mpr ?_, ?_⟩
      · clear h; grind (splits := 24) [si1, si2, ri1, ri2, ri3, ri34, ri5, rl1, rl2, rl3, rl3a, rl4, rl45, onlyAt, nb]  -- b7
      intro σ_6 hσ_6
      refine h _ _ ?_
      · clear h; grind (splits := 24) [si1, si2, ri1, ri2, ri3, ri34, ri5, rl1, rl2, rl3, rl3a, rl4, rl45, onlyAt, nb]  -- q8
  unfold w_takeName_2
  refine ⟨fun n l1 l2 l3 τ => n = (σ.1 2 - l3).toNatClampNeg ∧ (l1 = a1 ∧ l2 = a2 ∧ ((∀ k,  τ.1 k = σ.1 k) ∧ (∀ k,  τ.2.1 k = σ.2.1 k) ∧ (∀ k, k ≠ 9 → τ.2.2.1 k = σ.2.2.1 k) ∧ (∀ k j, k ≠ 9 → τ.2.2.1 k j = σ.2.2.1 k j) ∧ (∀ k j, k ≠ 8 → τ.2.2.2 k j = σ.2.2.2 k j)) ∧ onlyAt a1 σ τ ∧ a2 ≤ l3 ∧ l3 ≤ σ.1 2 ∧ (a2 = l3 → lett (bAt (σ.1 2) (σ.2.2.1 1) l3))), ⟨_, rfl, ?_⟩, ?_⟩
  · clear h; grind (splits := 24) [si1, si2, ri1, ri2, ri3, ri34, ri5, rl1, rl2, rl3, rl3a, rl4, rl45, onlyAt, nb]  -- j9
  rintro n2 x2_1 x2_2 x2_3 σ2 ⟨hn2, i2⟩
  have hj125 : ∀ (l1 : Int32) (l2 : Int32) (l3 : Int32) (s1 : Int32) (s2 : Int32) (τ : rS), (l1 = a1 ∧ l2 = a2 ∧ ((∀ k,  τ.1 k = σ.1 k) ∧ (∀ k,  τ.2.1 k = σ.2.1 k) ∧ (∀ k, k ≠ 9 → τ.2.2.1 k = σ.2.2.1 k) ∧ (∀ k j, k ≠ 9 → τ.2.2.1 k j = σ.2.2.1 k j) ∧ (∀ k j, k ≠ 8 → τ.2.2.2 k j = σ.2.2.2 k j)) ∧ onlyAt a1 σ τ ∧ l3 = x2_3 ∧ s1 = a1 ∧ l3 < σ.1 2) → w_takeName_125 C Q (fun l1' l2' l3' τ => ∃ k < n2, (fun n l1 l2 l3 τ => n = (σ.1 2 - l3).toNatClampNeg ∧ (l1 = a1 ∧ l2 = a2 ∧ ((∀ k,  τ.1 k = σ.1 k) ∧ (∀ k,  τ.2.1 k = σ.2.1 k) ∧ (∀ k, k ≠ 9 → τ.2.2.1 k = σ.2.2.1 k) ∧ (∀ k j, k ≠ 9 → τ.2.2.1 k j = σ.2.2.1 k j) ∧ (∀ k j, k ≠ 8 → τ.2.2.2 k j = σ.2.2.2 k j)) ∧ onlyAt a1 σ τ ∧ a2 ≤ l3 ∧ l3 ≤ σ.1 2 ∧ (a2 = l3 → lett (bAt (σ.1 2) (σ.2.2.1 1) l3)))) k l1' l2' l3' τ) l1 l2 l3 s1 s2 τ := by
    rintro y125_1 y125_2 y125_3 y125_s1 y125_s2 τ125 j125
    unfold w_takeName_125
    refine ⟨ib_131074.mpr ?_, ?_⟩
    · clear h; grind (splits := 24) [si1, si2, ri1, ri2, ri3, ri34, ri5, rl1, rl2, rl3, rl3a, rl4, rl45, onlyAt, nb]  -- b10
    intro σ_7 hσ_7
    intro x8 hx8
    refine ⟨_, cn_lt2 hn2 ?_ ?_, rfl, ?_⟩
    · clear h; grind (splits := 24) [si1, si2, ri1, ri2, ri3, ri34, ri5, rl1, rl2, rl3, rl3a, rl4, rl45, onlyAt, nb]  -- d11
    · clear h; grind (splits := 24) [si1, si2, ri1, ri2, ri3, ri34, ri5, rl1, rl2, rl3, rl3a, rl4, rl45, onlyAt, nb]  -- d12
    · clear h; grind (splits := 24) [si1, si2, ri1, ri2, ri3, ri34, ri5, rl1, rl2, rl3, rl3a, rl4, rl45, onlyAt, nb]  -- i13
  have hj119 : ∀ (l1 : Int32) (l2 : Int32) (l3 : Int32) (s1 : Int32) (τ : rS), (l1 = a1 ∧ l2 = a2 ∧ ((∀ k,  τ.1 k = σ.1 k) ∧ (∀ k,  τ.2.1 k = σ.2.1 k) ∧ (∀ k, k ≠ 9 → τ.2.2.1 k = σ.2.2.1 k) ∧ (∀ k j, k ≠ 9 → τ.2.2.1 k j = σ.2.2.1 k j) ∧ (∀ k j, k ≠ 8 → τ.2.2.2 k j = σ.2.2.2 k j)) ∧ onlyAt a1 σ τ ∧ l3 = x2_3 ∧ s1 = a1 ∧ l3 < σ.1 2) → w_takeName_119 C Q (fun l1' l2' l3' τ => ∃ k < n2, (fun n l1 l2 l3 τ => n = (σ.1 2 - l3).toNatClampNeg ∧ (l1 = a1 ∧ l2 = a2 ∧ ((∀ k,  τ.1 k = σ.1 k) ∧ (∀ k,  τ.2.1 k = σ.2.1 k) ∧ (∀ k, k ≠ 9 → τ.2.2.1 k = σ.2.2.1 k) ∧ (∀ k j, k ≠ 9 → τ.2.2.1 k j = σ.2.2.1 k j) ∧ (∀ k j, k ≠ 8 → τ.2.2.2 k j = σ.2.2.2 k j)) ∧ onlyAt a1 σ τ ∧ a2 ≤ l3 ∧ l3 ≤ σ.1 2 ∧ (a2 = l3 → lett (bAt (σ.1 2) (σ.2.2.1 1) l3)))) k l1' l2' l3' τ) l1 l2 l3 s1 τ := by
    rintro y119_1 y119_2 y119_3 y119_s1 τ119 j119
    unfold w_takeName_119
    refine ⟨ib_131074.mpr ?_, ?_⟩
    · clear h; grind (splits := 24) [si1, si2, ri1, ri2, ri3, ri34, ri5, rl1, rl2, rl3, rl3a, rl4, rl45, onlyAt, nb]  -- b14
    refine hj125 _ _ _ _ _ _ ?_
    · clear h; grind (splits := 24) [si1, si2, ri1, ri2, ri3, ri34, ri5, rl1, rl2, rl3, rl3a, rl4, rl45, onlyAt, nb]  -- k15
  have hj72 : ∀ (l1 : Int32) (l2 : Int32) (l3 : Int32) (l4 : Int32) (s1 : Int32) (s2 : Int64) (τ : rS), (l1 = a1 ∧ l2 = a2 ∧ ((∀ k,  τ.1 k = σ.1 k) ∧ (∀ k,  τ.2.1 k = σ.2.1 k) ∧ (∀ k, k ≠ 9 → τ.2.2.1 k = σ.2.2.1 k) ∧ (∀ k j, k ≠ 9 → τ.2.2.1 k j = σ.2.2.1 k j) ∧ (∀ k j, k ≠ 8 → τ.2.2.2 k j = σ.2.2.2 k j)) ∧ onlyAt a1 σ τ ∧ l3 = x2_3 ∧ s1 = a1 ∧ l3 < σ.1 2) → w_takeName_72 C Q (fun l1' l2' l3' τ => ∃ k < n2, (fun n l1 l2 l3 τ => n = (σ.1 2 - l3).toNatClampNeg ∧ (l1 = a1 ∧ l2 = a2 ∧ ((∀ k,  τ.1 k = σ.1 k) ∧ (∀ k,  τ.2.1 k = σ.2.1 k) ∧ (∀ k, k ≠ 9 → τ.2.2.1 k = σ.2.2.1 k) ∧ (∀ k j, k ≠ 9 → τ.2.2.1 k j = σ.2.2.1 k j) ∧ (∀ k j, k ≠ 8 → τ.2.2.2 k j = σ.2.2.2 k j)) ∧ onlyAt a1 σ τ ∧ a2 ≤ l3 ∧ l3 ≤ σ.1 2 ∧ (a2 = l3 → lett (bAt (σ.1 2) (σ.2.2.1 1) l3)))) k l1' l2' l3' τ) l1 l2 l3 l4 s1 s2 τ := by
    rintro y72_1 y72_2 y72_3 y72_4 y72_s1 y72_s2 τ72 j72
    unfold w_takeName_72
    refine ⟨ib_131074.mpr ?_, ?_⟩
    · clear h; grind (splits := 24) [si1, si2, ri1, ri2, ri3, ri34, ri5, rl1, rl2, rl3, rl3a, rl4, rl45, onlyAt, nb]  -- b16
    intro σ_9 hσ_9
    refine ⟨fun c10 => ?_, fun c10 => ?_⟩
    · skip
      refine hj119 _ _ _ _ _ ?_
      · clear h; grind (splits := 24) [si1, si2, ri1, ri2, ri3, ri34, ri5, rl1, rl2, rl3, rl3a, rl4, rl45, onlyAt, nb]  -- k17
    · skip
      refine ⟨fun c11 => ?_, fun c11 => ?_⟩
      · skip
        refine hj119 _ _ _ _ _ ?_
        · clear h; grind (splits := 24) [si1, si2, ri1, ri2, ri3, ri34, ri5, rl1, rl2, rl3, rl3a, rl4, rl45, onlyAt, nb]  -- k18
      · skip
        refine ⟨ib_131074.mpr ?_, ?_⟩
        · clear h; grind (splits := 24) [si1, si2, ri1, ri2, ri3, ri34, ri5, rl1, rl2, rl3, rl3a, rl4, rl45, onlyAt, nb]  -- b19
        refine byteAt_c hC  ?_ (fun r12 q14 => ?_)
        · clear h; grind (splits := 24) [si1, si2, ri1, ri2, ri3, ri34, ri5, rl1, rl2, rl3, rl3a, rl4, rl45, onlyAt, nb]  -- p20
        refine hj125 _ _ _ _ _ _ ?_
        · clear h; grind (splits := 24) [si1, si2, ri1, ri2, ri3, ri34, ri5, rl1, rl2, rl3, rl3a, rl4, rl45, onlyAt, nb]  -- k21
  have hj24 : ∀ (l1 : Int32) (l2 : Int32) (l3 : Int32) (τ : rS), (l1 = a1 ∧ l2 = a2 ∧ ((∀ k,  τ.1 k = σ.1 k) ∧ (∀ k,  τ.2.1 k = σ.2.1 k) ∧ (∀ k, k ≠ 9 → τ.2.2.1 k = σ.2.2.1 k) ∧ (∀ k j, k ≠ 9 → τ.2.2.1 k j = σ.2.2.1 k j) ∧ (∀ k j, k ≠ 8 → τ.2.2.2 k j = σ.2.2.2 k j)) ∧ onlyAt a1 σ τ ∧ l3 = x2_3 ∧ l3 < σ.1 2) → w_takeName_24 C Q (fun l1' l2' l3' τ => ∃ k < n2, (fun n l1 l2 l3 τ => n = (σ.1 2 - l3).toNatClampNeg ∧ (l1 = a1 ∧ l2 = a2 ∧ ((∀ k,  τ.1 k = σ.1 k) ∧ (∀ k,  τ.2.1 k = σ.2.1 k) ∧ (∀ k, k ≠ 9 → τ.2.2.1 k = σ.2.2.1 k) ∧ (∀ k j, k ≠ 9 → τ.2.2.1 k j = σ.2.2.1 k j) ∧ (∀ k j, k ≠ 8 → τ.2.2.2 k j = σ.2.2.2 k j)) ∧ onlyAt a1 σ τ ∧ a2 ≤ l3 ∧ l3 ≤ σ.1 2 ∧ (a2 = l3 → lett (bAt (σ.1 2) (σ.2.2.1 1) l3)))) k l1' l2' l3' τ) l1 l2 l3 τ := by
    rintro y24_1 y24_2 y24_3 τ24 j24
    unfold w_takeName_24
    intro x15 hx15
    refine ⟨fun c16 => ?_, fun c16 => ?_⟩
    · skip
      refine ⟨ib_131074.mpr ?_, ?_⟩
      · clear h; grind (splits := 24) [si1, si2, ri1, ri2, ri3, ri34, ri5, rl1, rl2, rl3, rl3a, rl4, rl45, onlyAt, nb]  -- b22
      refine hj72 _ _ _ _ _ _ _ ?_
      · clear h; grind (splits := 24) [si1, si2, ri1, ri2, ri3, ri34, ri5, rl1, rl2, rl3, rl3a, rl4, rl45, onlyAt, nb]  -- k23
    · skip
      refine ⟨ib_131074.mpr ?_, ?_⟩
      · clear h; grind (splits := 24) [si1, si2, ri1, ri2, ri3, ri34, ri5, rl1, rl2, rl3, rl3a, rl4, rl45, onlyAt, nb]  -- b24
      refine byteAt_c hC  ?_ (fun r17 q19 => ?_)
      · clear h; grind (splits := 24) [si1, si2, ri1, ri2, ri3, ri34, ri5, rl1, rl2, rl3, rl3a, rl4, rl45, onlyAt, nb]  -- p25
      refine hj72 _ _ _ _ _ _ _ ?_
      · clear h; grind (splits := 24) [si1, si2, ri1, ri2, ri3, ri34, ri5, rl1, rl2, rl3, rl3a, rl4, rl45, onlyAt, nb]  -- k26
  refine byteAt_c hC  ?_ (fun r20 q22 => ?_)
  · clear h; grind (splits := 24) [si1, si2, ri1, ri2, ri3, ri34, ri5, rl1, rl2, rl3, rl3a, rl4, rl45, onlyAt, nb]  -- p27
  refine isLetter_c hC  (fun r23 q25 => ?_)
  refine ⟨fun c26 => ?_, fun c26 => ?_⟩
  · skip
    refine hj24 _ _ _ _ ?_
    · clear h; grind (splits := 24) [ri1, ri2, ri3, ri5, rl1, rl2, rl3, rl3a, nb, lett]  -- k28
  · skip
    refine byteAt_c hC  ?_ (fun r27 q29 => ?_)
    · clear h; grind (splits := 24) [si1, si2, ri1, ri2, ri3, ri34, ri5, rl1, rl2, rl3, rl3a, rl4, rl45, onlyAt, nb]  -- p29
    refine isDigit_c hC  (fun r30 q32 => ?_)
    refine ⟨fun c33 => ?_, fun c33 => ?_⟩
    · skip
      refine ⟨ib_131074.mpr ?_, ?_⟩
      · clear h; grind (splits := 24) [si1, si2, ri1, ri2, ri3, ri34, ri5, rl1, rl2, rl3, rl3a, rl4, rl45, onlyAt, nb]  -- b30
      refine ⟨fun c34 => ?_, fun c34 => ?_⟩
      · skip
        refine hj159 _ _ _ _ _ _ ?_
        · clear h; grind (splits := 24) [si1, si2, ri1, ri2, ri3, ri34, ri5, rl1, rl2, rl3, rl3a, rl4, rl45, onlyAt, nb]  -- k31
      · skip
        refine ⟨ib_131074.mpr ?_, ?_⟩
        · clear h; grind (splits := 24) [si1, si2, ri1, ri2, ri3, ri34, ri5, rl1, rl2, rl3, rl3a, rl4, rl45, onlyAt, nb]  -- b32
        refine wordOf_c hC  (fun r35 q37 => ?_)
        refine hj159 _ _ _ _ _ _ ?_
        · clear h; grind (splits := 24) [si1, si2, ri1, ri2, ri3, ri34, ri5, rl1, rl2, rl3, rl3a, rl4, rl45, onlyAt, nb]  -- k33
    · skip
      refine hj24 _ _ _ _ ?_
      · clear h; grind (splits := 24) [si1, si2, ri1, ri2, ri3, ri34, ri5, rl1, rl2, rl3, rl3a, rl4, rl45, onlyAt, nb]  -- k34

theorem take_c {C : rCx} (hC : cOK C)  {σ : rS} {a1 : Int32} {Q : Int32 → rS → Prop} (hp : 0 ≤ a1 ∧ a1 < σ.1 2 ∧ σ.1 2 ≤ 65536 ∧ 0 ≤ σ.1 3 + σ.1 4 ∧ σ.1 3 + σ.1 4 < 131074) (h : ∀ (v : Int32) (σ' : rS), (((∀ k,  σ'.1 k = σ.1 k) ∧ (∀ k,  σ'.2.1 k = σ.2.1 k) ∧ (∀ k, k ≠ 5 → k ≠ 6 → k ≠ 7 → k ≠ 9 → σ'.2.2.1 k = σ.2.2.1 k) ∧ (∀ k j, k ≠ 5 → k ≠ 6 → k ≠ 7 → k ≠ 9 → σ'.2.2.1 k j = σ.2.2.1 k j) ∧ (∀ k j, k ≠ 8 → σ'.2.2.2 k j = σ.2.2.2 k j)) ∧ onlyAt (σ.1 3 + σ.1 4) σ σ' ∧ a1 < v ∧ v ≤ σ.1 2) → Q v σ') : cI C 4 m_take [.ref (co C), .int a1] σ Q := by
  refine m_take_run hC ?_
  unfold w_take_0
  have hj268 : ∀ (l1 : Int32) (l4 : Int32) (s1 : Int32) (s2 : Int32) (τ : rS), (l1 = a1 ∧ ((∀ k,  τ.1 k = σ.1 k) ∧ (∀ k,  τ.2.1 k = σ.2.1 k) ∧ (∀ k, k ≠ 5 → k ≠ 6 → k ≠ 7 → k ≠ 9 → τ.2.2.1 k = σ.2.2.1 k) ∧ (∀ k j, k ≠ 5 → k ≠ 6 → k ≠ 7 → k ≠ 9 → τ.2.2.1 k j = σ.2.2.1 k j) ∧ (∀ k j, k ≠ 8 → τ.2.2.2 k j = σ.2.2.2 k j)) ∧ s1 = σ.1 3 + σ.1 4 ∧ onlyAt s1 σ τ ∧ (l4 ≠ 0 → a1 + 1 < σ.1 2)) → w_take_268 C Q  l1 l4 s1 s2 τ := by
    rintro y268_1 y268_4 y268_s1 y268_s2 τ268 j268
    unfold w_take_268
    refine ⟨ib_131074.mpr ?_, ?_⟩
    · clear h; grind (splits := 24) [si1, si2, ri1, ri2, ri3, ri34, ri5, rl1, rl2, rl3, rl3a, rl4, rl45, onlyAt, nb]  -- b1
    intro σ_1 hσ_1
    refine ⟨fun c2 => ?_, fun c2 => ?_⟩
    · skip
      refine h _ _ ?_
      · clear h; grind (splits := 24) [si1, si2, ri1, ri2, ri3, ri34, ri5, rl1, rl2, rl3, rl3a, rl4, rl45, onlyAt, nb]  -- q2
    · skip
      refine h _ _ ?_
      · clear h; have k5 := j268.2.2.2.2 c2
        have k6 : a1 + 2 ≤ σ.1 2 := by clear j268; grind
        grind (splits := 24) [si1, si2, ri1, ri2, ri3, ri34, ri5, rl1, rl2, rl3, rl3a, rl4, rl45, onlyAt, nb]
  have hj213 : ∀ (l1 : Int32) (l2 : Int32) (l3 : Int32) (l4 : Int32) (s1 : Int32) (s2 : Int32) (τ : rS), (l1 = a1 ∧ ((∀ k,  τ.1 k = σ.1 k) ∧ (∀ k,  τ.2.1 k = σ.2.1 k) ∧ (∀ k, k ≠ 5 → k ≠ 6 → k ≠ 7 → k ≠ 9 → τ.2.2.1 k = σ.2.2.1 k) ∧ (∀ k j, k ≠ 5 → k ≠ 6 → k ≠ 7 → k ≠ 9 → τ.2.2.1 k j = σ.2.2.1 k j) ∧ (∀ k j, k ≠ 8 → τ.2.2.2 k j = σ.2.2.2 k j)) ∧ l2 = σ.1 3 + σ.1 4 ∧ s1 = l2 ∧ onlyAt s1 σ τ ∧ (l4 ≠ 0 → a1 + 1 < σ.1 2)) → w_take_213 C Q  l1 l2 l3 l4 s1 s2 τ := by
    rintro y213_1 y213_2 y213_3 y213_4 y213_s1 y213_s2 τ213 j213
    unfold w_take_213
    refine ⟨ib_131074.mpr ?_, ?_⟩
    · clear h; grind (splits := 24) [si1, si2, ri1, ri2, ri3, ri34, ri5, rl1, rl2, rl3, rl3a, rl4, rl45, onlyAt, nb]  -- b4
    intro σ_3 hσ_3
    refine ⟨fun c4 => ?_, fun c4 => ?_⟩
    · skip
      refine ⟨fun c5 => ?_, fun c5 => ?_⟩
      · skip
        refine ⟨fun c6 => ?_, fun c6 => ?_⟩
        · skip
          refine ⟨fun c7 => ?_, fun c7 => ?_⟩
          · skip
            refine hj268 _ _ _ _ _ ?_
            · clear h; grind (splits := 24) [si1, si2, ri1, ri2, ri3, ri34, ri5, rl1, rl2, rl3, rl3a, rl4, rl45, onlyAt, nb]  -- k5
          · skip
            refine hj268 _ _ _ _ _ ?_
            · clear h; grind (splits := 24) [si1, si2, ri1, ri2, ri3, ri34, ri5, rl1, rl2, rl3, rl3a, rl4, rl45, onlyAt, nb]  -- k6
        · skip
          refine hj268 _ _ _ _ _ ?_
          · clear h; grind (splits := 24) [si1, si2, ri1, ri2, ri3, ri34, ri5, rl1, rl2, rl3, rl3a, rl4, rl45, onlyAt, nb]  -- k7
      · skip
        refine hj268 _ _ _ _ _ ?_
        · clear h; grind (splits := 24) [si1, si2, ri1, ri2, ri3, ri34, ri5, rl1, rl2, rl3, rl3a, rl4, rl45, onlyAt, nb]  -- k8
    · skip
      refine hj268 _ _ _ _ _ ?_
      · clear h; grind (splits := 24) [si1, si2, ri1, ri2, ri3, ri34, ri5, rl1, rl2, rl3, rl3a, rl4, rl45, onlyAt, nb]  -- k9
  have hj194 : ∀ (l1 : Int32) (l2 : Int32) (l3 : Int32) (s0 : Int32) (τ : rS), (l1 = a1 ∧ ((∀ k,  τ.1 k = σ.1 k) ∧ (∀ k,  τ.2.1 k = σ.2.1 k) ∧ (∀ k, k ≠ 5 → k ≠ 6 → k ≠ 7 → k ≠ 9 → τ.2.2.1 k = σ.2.2.1 k) ∧ (∀ k j, k ≠ 5 → k ≠ 6 → k ≠ 7 → k ≠ 9 → τ.2.2.1 k j = σ.2.2.1 k j) ∧ (∀ k j, k ≠ 8 → τ.2.2.2 k j = σ.2.2.2 k j)) ∧ l2 = σ.1 3 + σ.1 4 ∧ onlyAt l2 σ τ ∧ (s0 ≠ 0 → a1 + 1 < σ.1 2)) → w_take_194 C Q  l1 l2 l3 s0 τ := by
    rintro y194_1 y194_2 y194_3 y194_s0 τ194 j194
    unfold w_take_194
    refine isSign_c hC  (fun r8 q10 => ?_)
    refine ⟨fun c11 => ?_, fun c11 => ?_⟩
    · skip
      refine hj213 _ _ _ _ _ _ _ ?_
      · clear h; grind (splits := 24) [si1, si2, ri1, ri2, ri3, ri34, ri5, rl1, rl2, rl3, rl3a, rl4, rl45, onlyAt, nb]  -- k10
    · skip
      refine hj213 _ _ _ _ _ _ _ ?_
      · clear h; grind (splits := 24) [si1, si2, ri1, ri2, ri3, ri34, ri5, rl1, rl2, rl3, rl3a, rl4, rl45, onlyAt, nb]  -- k11
  intro x12 hx12
  refine ⟨ib_131074.mpr ?_, ?_⟩
  · clear h; grind (splits := 24) [si1, si2, ri1, ri2, ri3, ri34, ri5, rl1, rl2, rl3, rl3a, rl4, rl45, onlyAt, nb]  -- b12
  intro σ_13 hσ_13
  refine ⟨ib_131074.mpr ?_, ?_⟩
  · clear h; grind (splits := 24) [si1, si2, ri1, ri2, ri3, ri34, ri5, rl1, rl2, rl3, rl3a, rl4, rl45, onlyAt, nb]  -- b13
  intro σ_14 hσ_14
  refine ⟨ib_131074.mpr ?_, ?_⟩
  · clear h; grind (splits := 24) [si1, si2, ri1, ri2, ri3, ri34, ri5, rl1, rl2, rl3, rl3a, rl4, rl45, onlyAt, nb]  -- b14
  intro σ_15 hσ_15
  refine ⟨ib_131074.mpr ?_, ?_⟩
  · clear h; grind (splits := 24) [si1, si2, ri1, ri2, ri3, ri34, ri5, rl1, rl2, rl3, rl3a, rl4, rl45, onlyAt, nb]  -- b15
  intro σ_16 hσ_16
  refine byteAt_c hC  ?_ (fun r17 q19 => ?_)
  · clear h; grind (splits := 24) [si1, si2, ri1, ri2, ri3, ri34, ri5, rl1, rl2, rl3, rl3a, rl4, rl45, onlyAt, nb]  -- p16
  refine isLetter_c hC  (fun r20 q22 => ?_)
  refine ⟨fun c23 => ?_, fun c23 => ?_⟩
  · skip
    refine isDigit_c hC  (fun r24 q26 => ?_)
    refine ⟨fun c27 => ?_, fun c27 => ?_⟩
    · skip
      refine byteAt_c hC  ?_ (fun r28 q30 => ?_)
      · clear h; grind (splits := 24) [si1, si2, ri1, ri2, ri3, ri34, ri5, rl1, rl2, rl3, rl3a, rl4, rl45, onlyAt, nb]  -- p17
      refine ⟨fun c31 => ?_, fun c31 => ?_⟩
      · skip
        refine hj194 _ _ _ _ _ ?_
        · clear h; grind (splits := 24) [si1, si2, ri1, ri2, ri3, ri34, ri5, rl1, rl2, rl3, rl3a, rl4, rl45, onlyAt, nb]  -- k18
      · skip
        refine ⟨fun c32 => ?_, fun c32 => ?_⟩
        · skip
          refine hj194 _ _ _ _ _ ?_
          · clear h; grind (splits := 24) [si1, si2, ri1, ri2, ri3, ri34, ri5, rl1, rl2, rl3, rl3a, rl4, rl45, onlyAt, nb]  -- k19
        · skip
          refine ⟨fun c33 => ?_, fun c33 => ?_⟩
          · skip
            refine hj194 _ _ _ _ _ ?_
            · clear h; grind (splits := 24) [si1, si2, ri1, ri2, ri3, ri34, ri5, rl1, rl2, rl3, rl3a, rl4, rl45, onlyAt, nb]  -- k20
          · skip
            refine ⟨fun c34 => ?_, fun c34 => ?_⟩
            · skip
              refine hj194 _ _ _ _ _ ?_
              · clear h; grind (splits := 24) [si1, si2, ri1, ri2, ri3, ri34, ri5, rl1, rl2, rl3, rl3a, rl4, rl45, onlyAt, nb]  -- k21
            · skip
              refine ⟨fun c35 => ?_, fun c35 => ?_⟩
              · skip
                refine hj194 _ _ _ _ _ ?_
                · clear h; grind (splits := 24) [si1, si2, ri1, ri2, ri3, ri34, ri5, rl1, rl2, rl3, rl3a, rl4, rl45, onlyAt, nb]  -- k22
              · skip
                refine hj194 _ _ _ _ _ ?_
                · clear h; grind (splits := 24) [si1, si2, ri1, ri2, ri3, ri34, ri5, rl1, rl2, rl3, rl3a, rl4, rl45, onlyAt, nb]  -- k23
    · skip
      unfold w_take_68
      refine ⟨fun n l1 l2 l4 τ => n = (σ.1 2 - l4).toNatClampNeg ∧ (l1 = a1 ∧ ((∀ k,  τ.1 k = σ.1 k) ∧ (∀ k,  τ.2.1 k = σ.2.1 k) ∧ (∀ k, k ≠ 5 → k ≠ 6 → k ≠ 7 → k ≠ 9 → τ.2.2.1 k = σ.2.2.1 k) ∧ (∀ k j, k ≠ 5 → k ≠ 6 → k ≠ 7 → k ≠ 9 → τ.2.2.1 k j = σ.2.2.1 k j) ∧ (∀ k j, k ≠ 8 → τ.2.2.2 k j = σ.2.2.2 k j)) ∧ l2 = σ.1 3 + σ.1 4 ∧ onlyAt l2 σ τ ∧ a1 ≤ l4 ∧ l4 ≤ σ.1 2 ∧ (a1 = l4 → 48 ≤ bAt (σ.1 2) (σ.2.2.1 1) l4 ∧ bAt (σ.1 2) (σ.2.2.1 1) l4 ≤ 57)), ⟨_, rfl, ?_⟩, ?_⟩
      · clear h; grind (splits := 24) [si1, si2, ri1, ri2, ri3, ri34, ri5, rl1, rl2, rl3, rl3a, rl4, rl45, onlyAt, nb]  -- j24
      rintro n68 x68_1 x68_2 x68_4 σ68 ⟨hn68, i68⟩
      have hj122 : ∀ (l1 : Int32) (l2 : Int32) (l4 : Int32) (s1 : Int32) (s2 : Int32) (τ : rS), (l1 = a1 ∧ ((∀ k,  τ.1 k = σ.1 k) ∧ (∀ k,  τ.2.1 k = σ.2.1 k) ∧ (∀ k, k ≠ 5 → k ≠ 6 → k ≠ 7 → k ≠ 9 → τ.2.2.1 k = σ.2.2.1 k) ∧ (∀ k j, k ≠ 5 → k ≠ 6 → k ≠ 7 → k ≠ 9 → τ.2.2.1 k j = σ.2.2.1 k j) ∧ (∀ k j, k ≠ 8 → τ.2.2.2 k j = σ.2.2.2 k j)) ∧ l2 = σ.1 3 + σ.1 4 ∧ onlyAt l2 σ τ ∧ l4 = x68_4 ∧ l4 < σ.1 2 ∧ s1 = l2) → w_take_122 C Q (fun l1' l2' l4' τ => ∃ k < n68, (fun n l1 l2 l4 τ => n = (σ.1 2 - l4).toNatClampNeg ∧ (l1 = a1 ∧ ((∀ k,  τ.1 k = σ.1 k) ∧ (∀ k,  τ.2.1 k = σ.2.1 k) ∧ (∀ k, k ≠ 5 → k ≠ 6 → k ≠ 7 → k ≠ 9 → τ.2.2.1 k = σ.2.2.1 k) ∧ (∀ k j, k ≠ 5 → k ≠ 6 → k ≠ 7 → k ≠ 9 → τ.2.2.1 k j = σ.2.2.1 k j) ∧ (∀ k j, k ≠ 8 → τ.2.2.2 k j = σ.2.2.2 k j)) ∧ l2 = σ.1 3 + σ.1 4 ∧ onlyAt l2 σ τ ∧ a1 ≤ l4 ∧ l4 ≤ σ.1 2 ∧ (a1 = l4 → 48 ≤ bAt (σ.1 2) (σ.2.2.1 1) l4 ∧ bAt (σ.1 2) (σ.2.2.1 1) l4 ≤ 57))) k l1' l2' l4' τ) l1 l2 l4 s1 s2 τ := by
        rintro y122_1 y122_2 y122_4 y122_s1 y122_s2 τ122 j122
        unfold w_take_122
        refine ⟨ib_131074.mpr ?_, ?_⟩
        · clear h; grind (splits := 24) [si1, si2, ri1, ri2, ri3, ri34, ri5, rl1, rl2, rl3, rl3a, rl4, rl45, onlyAt, nb]  -- b25
        intro σ_36 hσ_36
        intro x37 hx37
        refine ⟨_, cn_lt2 hn68 ?_ ?_, rfl, ?_⟩
        · clear h; grind (splits := 24) [si1, si2, ri1, ri2, ri3, ri34, ri5, rl1, rl2, rl3, rl3a, rl4, rl45, onlyAt, nb]  -- d26
        · clear h; grind (splits := 24) [si1, si2, ri1, ri2, ri3, ri34, ri5, rl1, rl2, rl3, rl3a, rl4, rl45, onlyAt, nb]  -- d27
        · clear h; grind (splits := 24) [si1, si2, ri1, ri2, ri3, ri34, ri5, rl1, rl2, rl3, rl3a, rl4, rl45, onlyAt, nb]  -- i28
      refine byteAt_c hC  ?_ (fun r38 q40 => ?_)
      · clear h; grind (splits := 24) [si1, si2, ri1, ri2, ri3, ri34, ri5, rl1, rl2, rl3, rl3a, rl4, rl45, onlyAt, nb]  -- p29
      refine isDigit_c hC  (fun r41 q43 => ?_)
      refine ⟨fun c44 => ?_, fun c44 => ?_⟩
      · skip
        refine ⟨fun c45 => ?_, fun c45 => ?_⟩
        · skip
          refine ⟨ib_131074.mpr ?_, ?_⟩
          · clear h; grind (splits := 24) [si1, si2, ri1, ri2, ri3, ri34, ri5, rl1, rl2, rl3, rl3a, rl4, rl45, onlyAt, nb]  -- b30
          intro σ_46 hσ_46
          refine h _ _ ?_
          · clear h; grind (splits := 24) [si1, si2, ri1, ri2, ri3, ri34, ri5, rl1, rl2, rl3, rl3a, rl4, rl45, onlyAt, nb]  -- q31
        · skip
          refine ⟨ib_131074.mpr ?_, ?_⟩
          · clear h; grind (splits := 24) [si1, si2, ri1, ri2, ri3, ri34, ri5, rl1, rl2, rl3, rl3a, rl4, rl45, onlyAt, nb]  -- b32
          intro σ_47 hσ_47
          refine h _ _ ?_
          · clear h; grind (splits := 24) [si1, si2, ri1, ri2, ri3, ri34, ri5, rl1, rl2, rl3, rl3a, rl4, rl45, onlyAt, nb]  -- q33
      · skip
        refine ⟨fun c48 => ?_, fun c48 => ?_⟩
        · skip
          refine ⟨ib_131074.mpr ?_, ?_⟩
          · clear h; grind (splits := 24) [si1, si2, ri1, ri2, ri3, ri34, ri5, rl1, rl2, rl3, rl3a, rl4, rl45, onlyAt, nb]  -- b34
          refine hj122 _ _ _ _ _ _ ?_
          · clear h; grind (splits := 24) [si1, si2, ri1, ri2, ri3, ri34, ri5, rl1, rl2, rl3, rl3a, rl4, rl45, onlyAt, nb]  -- k35
        · skip
          refine ⟨ib_131074.mpr ?_, ?_⟩
          · clear h; grind (splits := 24) [si1, si2, ri1, ri2, ri3, ri34, ri5, rl1, rl2, rl3, rl3a, rl4, rl45, onlyAt, nb]  -- b36
          refine byteAt_c hC  ?_ (fun r49 q51 => ?_)
          · clear h; grind (splits := 24) [si1, si2, ri1, ri2, ri3, ri34, ri5, rl1, rl2, rl3, rl3a, rl4, rl45, onlyAt, nb]  -- p37
          refine hj122 _ _ _ _ _ _ ?_
          · clear h; grind (splits := 24) [si1, si2, ri1, ri2, ri3, ri34, ri5, rl1, rl2, rl3, rl3a, rl4, rl45, onlyAt, nb]  -- k38
  · skip
    refine takeName_c hC  ?_ (fun r52 σ_53 q54 => ?_)
    · clear h; grind (splits := 24) [si1, si2, ri1, ri2, ri3, ri34, ri5, rl1, rl2, rl3, rl3a, rl4, rl45, onlyAt, nb]  -- p39
    refine h _ _ ?_
    · clear h; grind (splits := 24) [si1, si2, ri1, ri2, ri3, ri34, ri5, rl1, rl2, rl3, rl3a, rl4, rl45, onlyAt, nb]  -- q40

theorem cutTape_c {C : rCx} (hC : cOK C)  {σ : rS}  {Q : rS → Prop} (hp : (σ.1 3 = 0 ∨ σ.1 3 = 65537) ∧ 0 ≤ σ.1 2 ∧ σ.1 2 ≤ 65536) (h : ∀ (σ' : rS), (((∀ k, k ≠ 4 → σ'.1 k = σ.1 k) ∧ (∀ k,  σ'.2.1 k = σ.2.1 k) ∧ (∀ k, k ≠ 5 → k ≠ 6 → k ≠ 7 → k ≠ 9 → σ'.2.2.1 k = σ.2.2.1 k) ∧ (∀ k j, k ≠ 5 → k ≠ 6 → k ≠ 7 → k ≠ 9 → σ'.2.2.1 k j = σ.2.2.1 k j) ∧ (∀ k j, k ≠ 8 → σ'.2.2.2 k j = σ.2.2.2 k j)) ∧ outB (σ.1 3) σ σ' ∧ 0 ≤ σ'.1 4 ∧ σ'.1 4 ≤ 65536 ∧ rd σ' 5 (σ.1 3 + σ'.1 4) = 5) → Q σ') : cV C 5 m_cutTape [.ref (co C)] σ Q := by
  refine m_cutTape_run hC ?_
  unfold w_cutTape_0
  have hj72 : ∀  (τ : rS), (((∀ k, k ≠ 4 → τ.1 k = σ.1 k) ∧ (∀ k,  τ.2.1 k = σ.2.1 k) ∧ (∀ k, k ≠ 5 → k ≠ 6 → k ≠ 7 → k ≠ 9 → τ.2.2.1 k = σ.2.2.1 k) ∧ (∀ k j, k ≠ 5 → k ≠ 6 → k ≠ 7 → k ≠ 9 → τ.2.2.1 k j = σ.2.2.1 k j) ∧ (∀ k j, k ≠ 8 → τ.2.2.2 k j = σ.2.2.2 k j)) ∧ outB (σ.1 3) σ τ ∧ 0 ≤ τ.1 4 ∧ τ.1 4 ≤ 65536) → w_cutTape_72 C Q   τ := by
    rintro  τ72 j72
    unfold w_cutTape_72
    refine ⟨ib_131074.mpr ?_, ?_⟩
    · clear h; grind (splits := 24) [si1, si2, ri1, ri2, ri3, ri34, ri5, ob_ri, ob_si2, ob_only, ob_refl, vb5]  -- b1
    intro σ_1 hσ_1
    refine ⟨ib_131074.mpr ?_, ?_⟩
    · clear h; grind (splits := 24) [si1, si2, ri1, ri2, ri3, ri34, ri5, ob_ri, ob_si2, ob_only, ob_refl, vb5]  -- b2
    intro σ_2 hσ_2
    refine ⟨ib_131074.mpr ?_, ?_⟩
    · clear h; grind (splits := 24) [si1, si2, ri1, ri2, ri3, ri34, ri5, ob_ri, ob_si2, ob_only, ob_refl, vb5]  -- b3
    intro σ_3 hσ_3
    refine h _ ?_
    · clear h; grind (splits := 24) [si1, si2, ri1, ri2, ri3, ri34, ri5, ob_ri, ob_si2, ob_only, ob_refl, vb5]  -- q4
  intro σ_4 hσ_4
  refine skip_c hC  ?_ (fun r5 q7 => ?_)
  · clear h; grind (splits := 24) [si1, si2, ri1, ri2, ri3, ri34, ri5, ob_ri, ob_si2, ob_only, ob_refl, vb5]  -- p5
  unfold w_cutTape_13
  refine ⟨fun n l1 l2 τ => n = (σ.1 2 - l1).toNatClampNeg ∧ (((∀ k, k ≠ 4 → τ.1 k = σ.1 k) ∧ (∀ k,  τ.2.1 k = σ.2.1 k) ∧ (∀ k, k ≠ 5 → k ≠ 6 → k ≠ 7 → k ≠ 9 → τ.2.2.1 k = σ.2.2.1 k) ∧ (∀ k j, k ≠ 5 → k ≠ 6 → k ≠ 7 → k ≠ 9 → τ.2.2.1 k j = σ.2.2.1 k j) ∧ (∀ k j, k ≠ 8 → τ.2.2.2 k j = σ.2.2.2 k j)) ∧ outB (σ.1 3) σ τ ∧ 0 ≤ τ.1 4 ∧ τ.1 4 ≤ l1 ∧ l1 ≤ σ.1 2), ⟨_, rfl, ?_⟩, ?_⟩
  · clear h; grind (splits := 24) [si1, si2, ri1, ri2, ri3, ri34, ri5, ob_ri, ob_si2, ob_only, ob_refl, vb5]  -- j6
  rintro n13 x13_1 x13_2 σ13 ⟨hn13, i13⟩
  refine ⟨fun c8 => ?_, fun c8 => ?_⟩
  · skip
    refine hj72 _ ?_
    · clear h; grind (splits := 24) [si1, si2, ri1, ri2, ri3, ri34, ri5, ob_ri, ob_si2, ob_only, ob_refl, vb5]  -- k7
  · skip
    refine ⟨fun c9 => ?_, fun c9 => ?_⟩
    · skip
      refine hj72 _ ?_
      · clear h; grind (splits := 24) [si1, si2, ri1, ri2, ri3, ri34, ri5, ob_ri, ob_si2, ob_only, ob_refl, vb5]  -- k8
    · skip
      refine take_c hC  ?_ (fun r10 σ_11 q12 => ?_)
      · clear h; grind (splits := 24) [si1, si2, ri1, ri2, ri3, ri34, ri5, ob_ri, ob_si2, ob_only, ob_refl, vb5]  -- p9
      refine skip_c hC  ?_ (fun r13 q15 => ?_)
      · clear h; grind (splits := 24) [si1, si2, ri1, ri2, ri3, ri34, ri5, ob_ri, ob_si2, ob_only, ob_refl, vb5]  -- p10
      refine ⟨ib_131074.mpr ?_, ?_⟩
      · clear h; grind (splits := 24) [si1, si2, ri1, ri2, ri3, ri34, ri5, ob_ri, ob_si2, ob_only, ob_refl, vb5]  -- b11
      refine ⟨fun c16 => ?_, fun c16 => ?_⟩
      · skip
        unfold w_cutTape_58
        intro σ_17 hσ_17
        refine ⟨_, cn_lt2 hn13 ?_ ?_, rfl, ?_⟩
        · clear h; grind (splits := 24) [si1, si2, ri1, ri2, ri3, ri34, ri5, ob_ri, ob_si2, ob_only, ob_refl, vb5]  -- d12
        · clear h; grind (splits := 24) [si1, si2, ri1, ri2, ri3, ri34, ri5, ob_ri, ob_si2, ob_only, ob_refl, vb5]  -- d13
        · clear h; grind (splits := 24) [si1, si2, ri1, ri2, ri3, ri34, ri5, ob_ri, ob_si2, ob_only, ob_refl, vb5]  -- i14
      · skip
        unfold w_cutTape_58
        intro σ_18 hσ_18
        refine ⟨_, cn_lt2 hn13 ?_ ?_, rfl, ?_⟩
        · clear h; grind (splits := 24) [si1, si2, ri1, ri2, ri3, ri34, ri5, ob_ri, ob_si2, ob_only, ob_refl, vb5]  -- d15
        · clear h; grind (splits := 24) [si1, si2, ri1, ri2, ri3, ri34, ri5, ob_ri, ob_si2, ob_only, ob_refl, vb5]  -- d16
        · clear h; grind (splits := 24) [si1, si2, ri1, ri2, ri3, ri34, ri5, ob_ri, ob_si2, ob_only, ob_refl, vb5]  -- i17

theorem feed_c {C : rCx} (hC : cOK C)  {σ : rS} {a1 : Int32} {a2 : Int32} {a3 : Int32} {a4 : Int32} {a5 : Int32} {Q : Int32 → rS → Prop} (hp : 0 ≤ σ.1 2 ∧ σ.1 2 ≤ 65536) (h : ∀ (v : Int32) (σ' : rS), (((∀ k, k ≠ 0 → k ≠ 2 → σ'.1 k = σ.1 k) ∧ (∀ k,  σ'.2.1 k = σ.2.1 k) ∧ (∀ k, k ≠ 1 → σ'.2.2.1 k = σ.2.2.1 k) ∧ (∀ k j, k ≠ 1 → σ'.2.2.1 k j = σ.2.2.1 k j) ∧ (∀ k j,  σ'.2.2.2 k j = σ.2.2.2 k j)) ∧ 0 ≤ σ'.1 2 ∧ σ'.1 2 ≤ 65536) → Q v σ') : cI C 0 m_feed [.ref (co C), .int a1, .int a2, .int a3, .int a4, .int a5] σ Q := by
  refine m_feed_run hC ?_
  unfold w_feed_0
  have hj18 : ∀ (l1 : Int32) (l2 : Int32) (l3 : Int32) (l4 : Int32) (l5 : Int32) (s1 : Int32) (τ : rS), (l1 = a1 ∧ l2 = a2 ∧ l3 = a3 ∧ l4 = a4 ∧ l5 = a5 ∧ τ = σ ∧ (s1 ≤ 0 → σ.1 2 + 20 ≤ 65536)) → w_feed_18 C Q  l1 l2 l3 l4 l5 s1 τ := by
    rintro y18_1 y18_2 y18_3 y18_4 y18_5 y18_s1 τ18 j18
    unfold w_feed_18
    intro σ_1 hσ_1
    refine ⟨fun c2 => ?_, fun c2 => ?_⟩
    · skip
      unfold w_feed_33
      refine ⟨fun n l1 l2 l3 l4 l5 l6 τ => n = (20 - l6).toNatClampNeg ∧ (l1 = a1 ∧ l2 = a2 ∧ l3 = a3 ∧ l4 = a4 ∧ l5 = a5 ∧ ((∀ k, k ≠ 0 → k ≠ 2 → τ.1 k = σ.1 k) ∧ (∀ k,  τ.2.1 k = σ.2.1 k) ∧ (∀ k, k ≠ 1 → τ.2.2.1 k = σ.2.2.1 k) ∧ (∀ k j, k ≠ 1 → τ.2.2.1 k j = σ.2.2.1 k j) ∧ (∀ k j,  τ.2.2.2 k j = σ.2.2.2 k j)) ∧ τ.1 2 = σ.1 2 + l6 ∧ 0 ≤ l6 ∧ l6 ≤ 20 ∧ σ.1 2 + 20 ≤ 65536), ⟨_, rfl, ?_⟩, ?_⟩
      · clear h; grind (splits := 24) [si1, si2, ri1, ri2, ri3, ri34, ri5, ob_ri, ob_si2, ob_only, ob_refl, vb5]  -- j1
      rintro n33 x33_1 x33_2 x33_3 x33_4 x33_5 x33_6 σ33 ⟨hn33, i33⟩
      have hj86 : ∀ (l1 : Int32) (l2 : Int32) (l3 : Int32) (l4 : Int32) (l5 : Int32) (l6 : Int32) (s0 : Int32) (τ : rS), (l1 = a1 ∧ l2 = a2 ∧ l3 = a3 ∧ l4 = a4 ∧ l5 = a5 ∧ τ = σ33 ∧ l6 = x33_6 ∧ l6 < 20) → w_feed_86 C Q (fun l1' l2' l3' l4' l5' l6' τ => ∃ k < n33, (fun n l1 l2 l3 l4 l5 l6 τ => n = (20 - l6).toNatClampNeg ∧ (l1 = a1 ∧ l2 = a2 ∧ l3 = a3 ∧ l4 = a4 ∧ l5 = a5 ∧ ((∀ k, k ≠ 0 → k ≠ 2 → τ.1 k = σ.1 k) ∧ (∀ k,  τ.2.1 k = σ.2.1 k) ∧ (∀ k, k ≠ 1 → τ.2.2.1 k = σ.2.2.1 k) ∧ (∀ k j, k ≠ 1 → τ.2.2.1 k j = σ.2.2.1 k j) ∧ (∀ k j,  τ.2.2.2 k j = σ.2.2.2 k j)) ∧ τ.1 2 = σ.1 2 + l6 ∧ 0 ≤ l6 ∧ l6 ≤ 20 ∧ σ.1 2 + 20 ≤ 65536)) k l1' l2' l3' l4' l5' l6' τ) l1 l2 l3 l4 l5 l6 s0 τ := by
        rintro y86_1 y86_2 y86_3 y86_4 y86_5 y86_6 y86_s0 τ86 j86
        unfold w_feed_86
        refine ⟨ib_65536.mpr ?_, ?_⟩
        · clear h; grind (splits := 24) [si1, si2, ri1, ri2, ri3, ri34, ri5, ob_ri, ob_si2, ob_only, ob_refl, vb5]  -- b2
        intro σ_3 hσ_3
        intro σ_4 hσ_4
        intro x5 hx5
        refine ⟨_, cn_lt2 hn33 ?_ ?_, rfl, ?_⟩
        · clear h; grind (splits := 24) [si1, si2, ri1, ri2, ri3, ri34, ri5, ob_ri, ob_si2, ob_only, ob_refl, vb5]  -- d3
        · clear h; grind (splits := 24) [si1, si2, ri1, ri2, ri3, ri34, ri5, ob_ri, ob_si2, ob_only, ob_refl, vb5]  -- d4
        · clear h; grind (splits := 24) [si1, si2, ri1, ri2, ri3, ri34, ri5, ob_ri, ob_si2, ob_only, ob_refl, vb5]  -- i5
      refine ⟨fun c6 => ?_, fun c6 => ?_⟩
      · skip
        refine h _ _ ?_
        · clear h; grind (splits := 24) [si1, si2, ri1, ri2, ri3, ri34, ri5, ob_ri, ob_si2, ob_only, ob_refl, vb5]  -- q6
      · skip
        refine ⟨fun c7 => ?_, fun c7 => ?_⟩
        · skip
          refine ⟨fun c8 => ?_, fun c8 => ?_⟩
          · skip
            refine ⟨fun c9 => ?_, fun c9 => ?_⟩
            · skip
              refine ⟨fun c10 => ?_, fun c10 => ?_⟩
              · skip
                refine hj86 _ _ _ _ _ _ _ _ ?_
                · clear h; grind (splits := 24) [si1, si2, ri1, ri2, ri3, ri34, ri5, ob_ri, ob_si2, ob_only, ob_refl, vb5]  -- k7
              · skip
                refine hj86 _ _ _ _ _ _ _ _ ?_
                · clear h; grind (splits := 24) [si1, si2, ri1, ri2, ri3, ri34, ri5, ob_ri, ob_si2, ob_only, ob_refl, vb5]  -- k8
            · skip
              refine hj86 _ _ _ _ _ _ _ _ ?_
              · clear h; grind (splits := 24) [si1, si2, ri1, ri2, ri3, ri34, ri5, ob_ri, ob_si2, ob_only, ob_refl, vb5]  -- k9
          · skip
            refine hj86 _ _ _ _ _ _ _ _ ?_
            · clear h; grind (splits := 24) [si1, si2, ri1, ri2, ri3, ri34, ri5, ob_ri, ob_si2, ob_only, ob_refl, vb5]  -- k10
        · skip
          refine hj86 _ _ _ _ _ _ _ _ ?_
          · clear h; grind (splits := 24) [si1, si2, ri1, ri2, ri3, ri34, ri5, ob_ri, ob_si2, ob_only, ob_refl, vb5]  -- k11
    · skip
      refine h _ _ ?_
      · clear h; grind (splits := 24) [si1, si2, ri1, ri2, ri3, ri34, ri5, ob_ri, ob_si2, ob_only, ob_refl, vb5]  -- q12
  refine ⟨fun c11 => ?_, fun c11 => ?_⟩
  · skip
    refine hj18 _ _ _ _ _ _ _ ?_
    · clear h; grind (splits := 24) [si1, si2, ri1, ri2, ri3, ri34, ri5, ob_ri, ob_si2, ob_only, ob_refl, vb5]  -- k13
  · skip
    refine hj18 _ _ _ _ _ _ _ ?_
    · clear h; grind (splits := 24) [si1, si2, ri1, ri2, ri3, ri34, ri5, ob_ri, ob_si2, ob_only, ob_refl, vb5]  -- k14

theorem end_c {C : rCx} (hC : cOK C)  {σ : rS} {a1 : Int32} {Q : rS → Prop} (hp : 0 ≤ σ.1 2 ∧ σ.1 2 ≤ 65536) (h : ∀ (σ' : rS), (((∀ k, k ≠ 0 → k ≠ 2 → σ'.1 k = σ.1 k) ∧ σ'.2 = σ.2) ∧ 0 ≤ σ'.1 2 ∧ σ'.1 2 ≤ 65536) → Q σ') : cV C 0 m_end [.ref (co C), .int a1] σ Q := by
  refine m_end_run hC ?_
  unfold w_end_0
  refine ⟨fun c1 => ?_, fun c1 => ?_⟩
  · skip
    unfold w_end_18
    intro σ_2 hσ_2
    refine ⟨fun c3 => ?_, fun c3 => ?_⟩
    · skip
      intro σ_4 hσ_4
      refine h _ ?_
      · clear h; grind (splits := 24) [si1, si2, ri1, ri2, ri3, ri34, ri5, ob_ri, ob_si2, ob_only, ob_refl, vb5]  -- q1
    · skip
      intro σ_5 hσ_5
      refine h _ ?_
      · clear h; grind (splits := 24) [si1, si2, ri1, ri2, ri3, ri34, ri5, ob_ri, ob_si2, ob_only, ob_refl, vb5]  -- q2
  · skip
    refine ⟨fun c6 => ?_, fun c6 => ?_⟩
    · skip
      unfold w_end_18
      intro σ_7 hσ_7
      refine ⟨fun c8 => ?_, fun c8 => ?_⟩
      · skip
        intro σ_9 hσ_9
        refine h _ ?_
        · clear h; grind (splits := 24) [si1, si2, ri1, ri2, ri3, ri34, ri5, ob_ri, ob_si2, ob_only, ob_refl, vb5]  -- q3
      · skip
        intro σ_10 hσ_10
        refine h _ ?_
        · clear h; grind (splits := 24) [si1, si2, ri1, ri2, ri3, ri34, ri5, ob_ri, ob_si2, ob_only, ob_refl, vb5]  -- q4
    · skip
      unfold w_end_18
      intro σ_11 hσ_11
      refine ⟨fun c12 => ?_, fun c12 => ?_⟩
      · skip
        intro σ_13 hσ_13
        refine h _ ?_
        · clear h; grind (splits := 24) [si1, si2, ri1, ri2, ri3, ri34, ri5, ob_ri, ob_si2, ob_only, ob_refl, vb5]  -- q5
      · skip
        intro σ_14 hσ_14
        refine h _ ?_
        · clear h; grind (splits := 24) [si1, si2, ri1, ri2, ri3, ri34, ri5, ob_ri, ob_si2, ob_only, ob_refl, vb5]  -- q6

end
