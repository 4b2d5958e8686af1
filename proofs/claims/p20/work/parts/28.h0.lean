/-! numbers of 32 bits as whole numbers; first promises of the reference's methods -/
theorem inb_iff {i : Int32} {n : Nat} : inb i n ↔ 0 ≤ i.toInt ∧ i.toInt < n := by
  unfold inb
  rw [Int32.lt_iff_toInt_lt, Int32.toInt_zero]
  have : i.toNatClampNeg = i.toInt.toNat := rfl
  rw [this]
  omega
theorem inb_lt {i x : Int32} {n : Nat} (h0 : 0 ≤ i) (h1 : i < x) (hx : x.toInt = n) : inb i n := by
  rw [inb_iff]
  rw [Int32.le_iff_toInt_le, Int32.toInt_zero] at h0
  rw [Int32.lt_iff_toInt_lt] at h1
  omega
theorem cn_lt {x y : Int32} (h0 : 0 ≤ x) (h : x < y) : x.toNatClampNeg < y.toNatClampNeg := by
  rw [Int32.le_iff_toInt_le, Int32.toInt_zero] at h0
  rw [Int32.lt_iff_toInt_lt] at h
  have h1 : x.toNatClampNeg = x.toInt.toNat := rfl
  have h2 : y.toNatClampNeg = y.toInt.toNat := rfl
  omega
theorem cn_inj {x y : Int32} (h0 : 0 ≤ x) (h1 : 0 ≤ y) (h : x.toNatClampNeg = y.toNatClampNeg) : x = y := by
  rw [Int32.le_iff_toInt_le, Int32.toInt_zero] at h0 h1
  have h2 : x.toNatClampNeg = x.toInt.toNat := rfl
  have h3 : y.toNatClampNeg = y.toInt.toNat := rfl
  exact Int32.toInt_inj.mp (by omega)
section H0
variable {C : rCx} {σ : rS}
/-- the byte at a place, -1 behind the tape -/
def bAt (σ : rS) (k : Int32) : Int32 := if σ.1 2 ≤ k then -1 else σ.2.2.1 1 k.toNatClampNeg &&& 255
theorem byteAt_c (hC : cOK C) {k : Int32} {Q : Int32 → rS → Prop} (h0 : 0 ≤ k) (hs : σ.1 2 ≤ 65536) (h : Q (bAt σ k) σ) : cI C 0 m_byteAt [.ref (co C), .int k] σ Q := by
  refine m_byteAt_run hC ?_
  unfold w_byteAt_0
  unfold bAt at h
  refine ⟨fun hc => ?_, fun hc => ⟨?_, ?_⟩⟩
  · rwa [if_pos hc] at h
  · exact inb_lt (x := 65536) h0 (by grind) rfl
  · rwa [if_neg hc] at h
theorem isLetter_c (hC : cOK C) {c : Int32} {Q : Int32 → rS → Prop} (h : ∀ v, nb v → (¬ v = 0 → 65 ≤ c) → Q v σ) : cI C 0 m_isLetter [.int c] σ Q := by
  refine m_isLetter_run hC ?_
  have h0 := h 0 nb_0 (by simp)
  have h1 := fun hc => h 1 nb_1 (fun _ => hc)
  unfold w_isLetter_0 w_isLetter_12 w_isLetter_24
  grind
theorem isDigit_c (hC : cOK C) {c : Int32} {Q : Int32 → rS → Prop} (h : ∀ v, nb v → (¬ v = 0 → 48 ≤ c) → Q v σ) : cI C 0 m_isDigit [.int c] σ Q := by
  refine m_isDigit_run hC ?_
  have h0 := h 0 nb_0 (by simp)
  have h1 := fun hc => h 1 nb_1 (fun _ => hc)
  unfold w_isDigit_0
  grind
theorem isBlank_c (hC : cOK C) {c : Int32} {Q : Int32 → rS → Prop} (h : ∀ v, nb v → (¬ v = 0 → 9 ≤ c) → Q v σ) : cI C 0 m_isBlank [.int c] σ Q := by
  refine m_isBlank_run hC ?_
  have h0 := h 0 nb_0 (by simp)
  have h1 := fun hc => h 1 nb_1 (fun _ => hc)
  unfold w_isBlank_0
  grind
theorem isSign_c (hC : cOK C) {c : Int32} {Q : Int32 → rS → Prop} (h : ∀ v, nb v → Q v σ) : cI C 0 m_isSign [.int c] σ Q := by
  refine m_isSign_run hC ?_
  have h0 := h 0 nb_0
  have h1 := h 1 nb_1
  unfold w_isSign_0
  simp only [h0, h1, implies_true, and_self]
theorem bAt_pos {k : Int32} (h : ¬ bAt σ k = -1) : ¬ σ.1 2 ≤ k := fun hc => h (by unfold bAt; rw [if_pos hc])
/-- over blanks and remarks -/
theorem skip_c (hC : cOK C) {k : Int32} {Q : Int32 → rS → Prop} (h0 : 0 ≤ k) (hk : k ≤ σ.1 2) (hs : σ.1 2 ≤ 65536) (h : ∀ v, k ≤ v → v ≤ σ.1 2 → Q v σ) : cI C 1 m_skip [.ref (co C), .int k] σ Q := by
  refine m_skip_run hC ?_
  unfold w_skip_0 w_skip_2
  refine ⟨fun n a τ => σ = τ ∧ k ≤ a ∧ a ≤ σ.1 2 ∧ n = (σ.1 2 - a).toNatClampNeg, ⟨_, rfl, by grind, hk, rfl⟩, ?_⟩
  rintro n a _ ⟨rfl, ha, hb, rfl⟩
  have key : ¬ σ.1 2 ≤ a → w_skip_23 C Q (fun a' τ' => ∃ k' < (σ.1 2 - a).toNatClampNeg, σ = τ' ∧ k ≤ a' ∧ a' ≤ σ.1 2 ∧ k' = (σ.1 2 - a').toNatClampNeg) a σ := by
    intro hlt
    unfold w_skip_23
    refine byteAt_c hC (by grind) hs ⟨fun hc v hv => ?_, fun hc => ?_⟩
    · exact ⟨_, cn_lt (by grind) (by grind), rfl, by grind, by grind, rfl⟩
    · unfold w_skip_33
      refine ⟨fun m a' τ' => σ = τ' ∧ a ≤ a' ∧ a' ≤ σ.1 2 ∧ (a' = a → bAt σ a = 35) ∧ m = (σ.1 2 - a').toNatClampNeg, ⟨_, rfl, by grind, hb, fun _ => hc, rfl⟩, ?_⟩
      rintro m a' _ ⟨rfl, g1, g2, g3, rfl⟩
      refine ⟨fun hx => ?_, fun hx => byteAt_c hC (by grind) hs ⟨fun hc2 => ?_, fun hc2 v hv => ?_⟩⟩
      · exact ⟨_, cn_lt (by grind) (by grind), rfl, by grind, by grind, rfl⟩
      · have : ¬ a' = a := fun q => by rw [q, hc] at hc2; exact absurd hc2 (by decide)
        exact ⟨_, cn_lt (by grind) (by grind), rfl, by grind, by grind, rfl⟩
      · exact ⟨_, cn_lt (by grind) (by grind), rfl, by grind, by grind, by grind, rfl⟩
  refine byteAt_c hC (by grind) hs (isBlank_c hC (fun v hv hv2 => ⟨fun hc => ?_, fun hc => byteAt_c hC (by grind) hs ⟨fun hc2 => ?_, fun hc2 => ?_⟩⟩))
  · exact key (bAt_pos (fun q => by have := hv2 hc; rw [q] at this; exact absurd this (by decide)))
  · exact h a (by grind) hb
  · exact key (bAt_pos (fun q => by rw [q] at hc2; exact absurd hc2 (by decide)))
end H0
