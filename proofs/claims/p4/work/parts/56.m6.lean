set_option maxHeartbeats 1600000
/-! the reference: swingAll -/
abbrev kPt : List (Nat × Nat × Nat) := [(20, 8, 10), (21, 18, 10), (22, 28, 3), (23, 31, 3), (24, 34, 3), (25, 37, 10), (26, 47, 10), (27, 57, 10), (28, 67, 80), (29, 147, 10), (30, 157, 150), (31, 307, 150), (32, 457, 150), (33, 607, 150), (34, 757, 150), (35, 907, 150), (36, 1057, 150), (37, 1207, 150), (38, 1357, 150)]
/-- the tables of state σ lie in the kept row of state υ -/
def kept (σ υ : rS) : Prop := (∀ p ∈ kPt, ∀ i, i < p.2.2 → υ.2.2.1 54 (p.2.1 + i) = σ.2.2.1 p.1 i) ∧ υ.2.2.1 54 0 = σ.1 15 ∧ υ.2.2.1 54 1 = σ.1 16 ∧ υ.2.2.1 54 2 = σ.1 17 ∧ υ.2.2.1 54 3 = σ.1 18 ∧ υ.2.2.1 54 4 = σ.1 19 ∧ υ.2.2.1 54 5 = σ.1 40 ∧ υ.2.2.1 54 6 = σ.1 3
theorem swingAll_c_s {C : rCx} (hC : cOK C) {σ : rS} {Q : rS → Prop} (h : ∀ (σ' : rS), (((∀ k, k ≠ 55 → σ'.1 k = σ.1 k) ∧ (∀ k,  σ'.2.1 k = σ.2.1 k) ∧ (∀ k, k ≠ 54 → k ≠ 56 → σ'.2.2.1 k = σ.2.2.1 k) ∧ (∀ k j, k ≠ 54 → k ≠ 56 → σ'.2.2.1 k j = σ.2.2.1 k j) ∧ (∀ k j,  σ'.2.2.2 k j = σ.2.2.2 k j)) ∧ kept σ σ') → Q σ') : cV C 1 m_swingAll [.ref (co C), .int 0] σ Q := by
  refine m_swingAll_run hC ?_
  unfold w_swingAll_0
  intro σ1 h1
  refine ⟨fun z => absurd rfl z, fun _ => ?_⟩
  refine ⟨ib_8.mpr (by decide), ?_⟩
  intro σ2 h2
  refine ⟨ib_8.mpr (by decide), ?_⟩
  intro σ3 h3
  refine ⟨ib_8.mpr (by decide), ?_⟩
  intro σ4 h4
  refine ⟨ib_8.mpr (by decide), ?_⟩
  intro σ5 h5
  refine ⟨ib_8.mpr (by decide), ?_⟩
  intro σ6 h6
  refine ⟨ib_8.mpr (by decide), ?_⟩
  intro σ7 h7
  refine ⟨ib_8.mpr (by decide), ?_⟩
  intro σ8 h8
  have ff : ∀ k, σ8.1 k = σ1.1 k := fun k => by rw [h8, ri1, h7, ri1, h6, ri1, h5, ri1, h4, ri1, h3, ri1, h2, ri1]
  have f1 : ∀ k, k ≠ 55 → σ1.1 k = σ.1 k := fun k hk => by rw [h1, si1, if_neg hk]
  have rr : ∀ k, k ≠ 56 → σ8.2.2.1 k = σ.2.2.1 k := fun k hk => by rw [h8, ri3 hk, h7, ri3 hk, h6, ri3 hk, h5, ri3 hk, h4, ri3 hk, h3, ri3 hk, h2, ri3 hk, h1, si2]
  have g2 : ∀ k, σ8.2.1 k = σ.2.1 k := fun k => by rw [h8, ri2, h7, ri2, h6, ri2, h5, ri2, h4, ri2, h3, ri2, h2, ri2, h1, si2]
  have g3 : ∀ k j, σ8.2.2.2 k j = σ.2.2.2 k j := fun k j => by rw [h8, ri5, h7, ri5, h6, ri5, h5, ri5, h4, ri5, h3, ri5, h2, ri5, h1, si2]
  have w0 : σ8.2.2.1 56 0 = σ.1 15 := by rw [h8, ri4, if_neg (by decide), h7, ri4, if_neg (by decide), h6, ri4, if_neg (by decide), h5, ri4, if_neg (by decide), h4, ri4, if_neg (by decide), h3, ri4, if_neg (by decide), h2, ri4, if_pos (by decide)]; exact f1 15 (by decide)
  have w1 : σ8.2.2.1 56 1 = σ.1 16 := by rw [h8, ri4, if_neg (by decide), h7, ri4, if_neg (by decide), h6, ri4, if_neg (by decide), h5, ri4, if_neg (by decide), h4, ri4, if_neg (by decide), h3, ri4, if_pos (by decide), h2, ri1]; exact f1 16 (by decide)
  have w2 : σ8.2.2.1 56 2 = σ.1 17 := by rw [h8, ri4, if_neg (by decide), h7, ri4, if_neg (by decide), h6, ri4, if_neg (by decide), h5, ri4, if_neg (by decide), h4, ri4, if_pos (by decide), h3, ri1, h2, ri1]; exact f1 17 (by decide)
  have w3 : σ8.2.2.1 56 3 = σ.1 18 := by rw [h8, ri4, if_neg (by decide), h7, ri4, if_neg (by decide), h6, ri4, if_neg (by decide), h5, ri4, if_pos (by decide), h4, ri1, h3, ri1, h2, ri1]; exact f1 18 (by decide)
  have w4 : σ8.2.2.1 56 4 = σ.1 19 := by rw [h8, ri4, if_neg (by decide), h7, ri4, if_neg (by decide), h6, ri4, if_pos (by decide), h5, ri1, h4, ri1, h3, ri1, h2, ri1]; exact f1 19 (by decide)
  have w5 : σ8.2.2.1 56 5 = σ.1 40 := by rw [h8, ri4, if_neg (by decide), h7, ri4, if_pos (by decide), h6, ri1, h5, ri1, h4, ri1, h3, ri1, h2, ri1]; exact f1 40 (by decide)
  have w6 : σ8.2.2.1 56 6 = σ.1 3 := by rw [h8, ri4, if_pos (by decide), h7, ri1, h6, ri1, h5, ri1, h4, ri1, h3, ri1, h2, ri1]; exact f1 3 (by decide)
  refine sa_s hC (by rw [ff, h1, si1, if_pos rfl]) (fun υ k => h υ ⟨⟨fun q z => ?_, fun q => ?_, fun q z1 z2 => ?_, fun q j z1 z2 => ?_, fun q j => ?_⟩, fun p hp i hi => ?_, ?_, ?_, ?_, ?_, ?_, ?_, ?_⟩)
  · rw [k.1.1 q z, ff]; exact f1 q z
  · rw [k.1.2.1 q]; exact g2 q
  · rw [k.1.2.2.1 q z1]; exact rr q z2
  · rw [k.1.2.2.1 q z1, rr q z2]
  · rw [k.1.2.2.2.2 q j]; exact g3 q j
  · have nm : ∀ p, p ∈ kPt → p ∈ [(38, 1357, 150), (37, 1207, 150), (36, 1057, 150), (35, 907, 150), (34, 757, 150), (33, 607, 150), (32, 457, 150), (31, 307, 150), (30, 157, 150), (29, 147, 10), (28, 67, 80), (27, 57, 10), (26, 47, 10), (25, 37, 10), (24, 34, 3), (23, 31, 3), (22, 28, 3), (21, 18, 10), (20, 8, 10), (56, 0, 8)] ∧ p.1 ≠ 56 := by decide
    have m := nm p hp
    rw [(k.2.2.2 p m.1).2 i hi, rr p.1 m.2]
  · exact ((k.2.2.2 (56, 0, 8) (by decide)).2 0 (by decide)).trans w0
  · exact ((k.2.2.2 (56, 0, 8) (by decide)).2 1 (by decide)).trans w1
  · exact ((k.2.2.2 (56, 0, 8) (by decide)).2 2 (by decide)).trans w2
  · exact ((k.2.2.2 (56, 0, 8) (by decide)).2 3 (by decide)).trans w3
  · exact ((k.2.2.2 (56, 0, 8) (by decide)).2 4 (by decide)).trans w4
  · exact ((k.2.2.2 (56, 0, 8) (by decide)).2 5 (by decide)).trans w5
  · exact ((k.2.2.2 (56, 0, 8) (by decide)).2 6 (by decide)).trans w6
/-- the tables of state σ0 are back in state υ, which comes from σ -/
def back (σ0 σ υ : rS) : Prop := (∀ k, k ≠ 55 → k ≠ 15 → k ≠ 16 → k ≠ 17 → k ≠ 18 → k ≠ 19 → k ≠ 40 → k ≠ 3 → υ.1 k = σ.1 k) ∧ υ.1 15 = σ0.1 15 ∧ υ.1 16 = σ0.1 16 ∧ υ.1 17 = σ0.1 17 ∧ υ.1 18 = σ0.1 18 ∧ υ.1 19 = σ0.1 19 ∧ υ.1 40 = σ0.1 40 ∧ υ.1 3 = σ0.1 3 ∧ (∀ k, υ.2.1 k = σ.2.1 k) ∧ (∀ k j, υ.2.2.2 k j = σ.2.2.2 k j) ∧ (∀ k, k ≠ 56 → (∀ p ∈ kPt, p.1 ≠ k) → υ.2.2.1 k = σ.2.2.1 k) ∧ (∀ p ∈ kPt, (∀ i, i < p.2.2 → υ.2.2.1 p.1 i = σ0.2.2.1 p.1 i) ∧ (∀ j, p.2.2 ≤ j → υ.2.2.1 p.1 j = σ.2.2.1 p.1 j))
theorem swingAll_c_b {C : rCx} (hC : cOK C) (σ0 : rS) {σ : rS} {Q : rS → Prop} (hp : kept σ0 σ) (h : ∀ (σ' : rS), back σ0 σ σ' → Q σ') : cV C 1 m_swingAll [.ref (co C), .int 1] σ Q := by
  refine m_swingAll_run hC ?_
  unfold w_swingAll_0
  intro σ1 h1
  refine ⟨fun _ => ?_, fun z => absurd z (by decide)⟩
  have f1 : ∀ k, k ≠ 55 → σ1.1 k = σ.1 k := fun k hk => by rw [h1, si1, if_neg hk]
  have s1 : σ1.2 = σ.2 := by rw [h1, si2]
  refine sa_b hC (by rw [h1, si1, if_pos rfl]) (fun τ υ b e bf ef => h υ ?_)
  obtain ⟨b1, b2, b3, b4, b5, b6, b7⟩ := b
  obtain ⟨d0, d1, d2, d3, d4, d5, d6⟩ := bf
  obtain ⟨p0', p1, p2, p3, p4, p5, p6, p7⟩ := hp
  rw [s1] at d0 d1 d2 d3 d4 d5 d6
  have nm : ∀ p, p ∈ [(38, 1357, 150), (37, 1207, 150), (36, 1057, 150), (35, 907, 150), (34, 757, 150), (33, 607, 150), (32, 457, 150), (31, 307, 150), (30, 157, 150), (29, 147, 10), (28, 67, 80), (27, 57, 10), (26, 47, 10), (25, 37, 10), (24, 34, 3), (23, 31, 3), (22, 28, 3), (21, 18, 10), (20, 8, 10), (56, 0, 8)] → p = (56, 0, 8) ∨ p ∈ kPt := by decide
  refine ⟨fun k z0 z1 z2 z3 z4 z5 z6 z7 => (ef k z0 z1 z2 z3 z4 z5 z6 z7).trans (f1 k z0), d0.trans p1, d1.trans p2, d2.trans p3, d3.trans p4, d4.trans p5, d5.trans p6, d6.trans p7, fun k => ?_, fun k j => ?_, fun k z zp => ?_, fun p hp => ?_⟩
  · rw [e, b2 k, s1]
  · rw [e, b3 k j, s1]
  · rw [e, b4 k (fun p hp => ?_), s1]
    rcases nm p hp with y | y
    · rw [y]; exact fun q => z q.symm
    · exact zp p y
  · have nm2 : ∀ p, p ∈ kPt → p ∈ [(38, 1357, 150), (37, 1207, 150), (36, 1057, 150), (35, 907, 150), (34, 757, 150), (33, 607, 150), (32, 457, 150), (31, 307, 150), (30, 157, 150), (29, 147, 10), (28, 67, 80), (27, 57, 10), (26, 47, 10), (25, 37, 10), (24, 34, 3), (23, 31, 3), (22, 28, 3), (21, 18, 10), (20, 8, 10), (56, 0, 8)] := by decide
    have m := nm2 p hp
    obtain ⟨c1, c2⟩ := b7 p m
    refine ⟨fun i hi => ?_, fun j hj => ?_⟩
    · rw [e, c1 i hi, s1]; exact p0' p hp i hi
    · rw [e, c2 j hj, s1]
