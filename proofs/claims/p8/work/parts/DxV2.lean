section
set_option maxHeartbeats 1600000
/-! what was explored, of both sides, between calls -/
abbrev Av8 : Type := (Nat → Int32) × (Nat → Nat → Int32)
/-- what the class's atlas holds -/
def av8 (κ : zS) (t : Nat) : Av8 := (fun g => if g = 0 then zI κ hoTotal (zR κ atStates t) else if g = 1 then zI κ hoTotal (zR κ atEndings t) else zI κ atNexts t, fun g => if g = 0 then zA κ (zR κ hoStarts (zR κ atStates t)) else if g = 1 then zA κ (zR κ hoPool (zR κ atStates t)) else if g = 2 then zA κ (zR κ hoStarts (zR κ atEndings t)) else if g = 3 then zA κ (zR κ hoPool (zR κ atEndings t)) else if g = 4 then zA κ (zR κ atFirsts t) else if g = 5 then zA κ (zR κ atTotals t) else if g = 6 then zA κ (zR κ atGains t) else if g = 7 then zA κ (zR κ atChooses t) else if g = 8 then zA κ (zR κ atSorts t) else if g = 9 then zA κ (zR κ atNumbers t) else if g = 10 then zA κ (zR κ atWeights t) else zA κ (zR κ atHopeless t))
theorem av_f8 {C : zC} {n0 t : Nat} {κ τ : zS} {F : Nat → Nat → Prop} (W : zW C n0 κ) (T : zT κ t = 3) (Z : zF F κ τ) (h : ∀ f, f / 100 = 3 → f ≠ atPlan → ¬ F f t) (h1 : ∀ f, f / 100 = 6 → ¬ F f (zR κ atStates t)) (h2 : ∀ f, f / 100 = 6 → ¬ F f (zR κ atEndings t)) : av8 τ t = av8 κ t := by
  have tS := ty_atStates W T
  have tE := ty_atEndings W T
  have rS : zR τ atStates t = zR κ atStates t := Z.r (h _ (by decide) (by decide))
  have rE : zR τ atEndings t = zR κ atEndings t := Z.r (h _ (by decide) (by decide))
  have i0 : zI τ hoTotal (zR κ atStates t) = zI κ hoTotal (zR κ atStates t) := Z.i (h1 _ (by decide))
  have i1 : zI τ hoTotal (zR κ atEndings t) = zI κ hoTotal (zR κ atEndings t) := Z.i (h2 _ (by decide))
  have i2 : zI τ atNexts t = zI κ atNexts t := Z.i (h _ (by decide) (by decide))
  have a0 := (Z.row W (show zr hoStarts = some 20 by decide +kernel) (by decide) tS (h1 hoStarts (by decide))).1
  have a1 := (Z.row W (show zr hoPool = some 20 by decide +kernel) (by decide) tS (h1 hoPool (by decide))).1
  have a2 := (Z.row W (show zr hoStarts = some 20 by decide +kernel) (by decide) tE (h2 hoStarts (by decide))).1
  have a3 := (Z.row W (show zr hoPool = some 20 by decide +kernel) (by decide) tE (h2 hoPool (by decide))).1
  have a4 := (Z.row W (show zr atFirsts = some 20 by decide +kernel) (by decide) T (h atFirsts (by decide) (by decide))).1
  have a5 := (Z.row W (show zr atTotals = some 20 by decide +kernel) (by decide) T (h atTotals (by decide) (by decide))).1
  have a6 := (Z.row W (show zr atGains = some 20 by decide +kernel) (by decide) T (h atGains (by decide) (by decide))).1
  have a7 := (Z.row W (show zr atChooses = some 23 by decide +kernel) (by decide) T (h atChooses (by decide) (by decide))).1
  have a8 := (Z.row W (show zr atSorts = some 20 by decide +kernel) (by decide) T (h atSorts (by decide) (by decide))).1
  have a9 := (Z.row W (show zr atNumbers = some 20 by decide +kernel) (by decide) T (h atNumbers (by decide) (by decide))).1
  have a10 := (Z.row W (show zr atWeights = some 20 by decide +kernel) (by decide) T (h atWeights (by decide) (by decide))).1
  have a11 := (Z.row W (show zr atHopeless = some 23 by decide +kernel) (by decide) T (h atHopeless (by decide) (by decide))).1
  unfold av8
  rw [rS, rE, i0, i1, i2, a0, a1, a2, a3, a4, a5, a6, a7, a8, a9, a10, a11]
/-- a state's row, of both sides -/
def KS8 (w s d : Nat) (K q : Nat → Int32) : Prop := (0 < d ∧ d ≤ 12 ∧ w ≤ 34 ∧ q 0 = Int32.ofNat d) ∧ (∀ i, i < w → K i = q (1 + i)) ∧ (∀ c, c < d → K (w + 9 * c) = q (35 + 9 * c)) ∧ (∀ c k, c < d → k < 8 → K (w + 9 * c + 1 + k) = q (36 + 9 * c + k)) ∧ (∀ c, c < d → ∃ j, j < s ∧ K (w + 9 * c) = Int32.ofNat j)
theorem KS_68 {w s d : Nat} {r K q : Nat → Int32} (h : KS6 w s d r K q) : KS8 w s d K q := by
  obtain ⟨h1, h2, _, h4, h5, _, h7, h8⟩ := h
  refine ⟨h1, h2, h4, h5, fun c hc => ?_⟩
  by_cases e : c + 1 < d
  · obtain ⟨j, j1, j2, _⟩ := h7 c e
    exact ⟨j, j1, j2⟩
  · have e2 : c = d - 1 := by omega
    rw [e2]
    exact h8
/-- what was explored, of both sides -/
def AT8 (w s : Nat) (v : Av8) (σ : rS) : Prop := ∃ n m x : Nat, (σ.1 70 = Int32.ofNat n ∧ σ.1 71 = Int32.ofNat m ∧ σ.1 72 = Int32.ofNat x) ∧ (n ≤ 1000 ∧ m ≤ 1000 ∧ x ≤ 20000) ∧ (v.1 0 = Int32.ofNat n ∧ v.1 1 = Int32.ofNat m ∧ v.1 2 = Int32.ofNat x) ∧ (∀ g, g < n → ∃ d K, KS8 w s d K (fun i => σ.2.2.1 73 (143 * g + i)) ∧ hkM9 (v.2 0) (v.2 1) (n : Int) K (w + 9 * d : Nat) g) ∧ (∀ g, g < m → ∃ K, (∀ i, i < w → K i = σ.2.2.1 75 (35 * g + 1 + i)) ∧ K w = σ.2.2.1 75 (35 * g) ∧ hkM9 (v.2 2) (v.2 3) (m : Int) K (w + 1 : Nat) g) ∧ (∀ j, j < x → v.2 8 j = σ.2.2.1 77 j ∧ v.2 9 j = σ.2.2.1 78 j ∧ v.2 10 j = σ.2.2.1 79 j) ∧ (∀ j, j < n → v.2 4 j = σ.2.2.1 76 j ∧ v.2 5 j = σ.2.2.1 80 j ∧ v.2 6 j = σ.2.2.1 82 j ∧ v.2 7 j = σ.2.2.1 81 j) ∧ (0 < n → v.2 4 n = σ.2.2.1 76 n)
abbrev ke8 : List Nat := [69, 70, 71, 72]
abbrev kt8 : List Nat := [73, 75, 76, 77, 78, 79, 80, 81, 82]
abbrev kx8 : List Nat := [73, 75, 76, 77, 78, 79, 80, 81, 82, 87]
/-- the reference's tables stay -/
def kS8 (σ τ : rS) : Prop := (∀ g, g ∈ ke8 → τ.1 g = σ.1 g) ∧ (∀ g, g ∈ kx8 → τ.2.2.1 g = σ.2.2.1 g)
theorem AT_k8 {w s : Nat} {v : Av8} {σ τ : rS} (h : AT8 w s v σ) (f : ∀ g, g = 70 ∨ g = 71 ∨ g = 72 → τ.1 g = σ.1 g) (r : ∀ g, g ∈ kt8 → τ.2.2.1 g = σ.2.2.1 g) : AT8 w s v τ := by
  obtain ⟨n, m, x, ⟨a1, a2, a3⟩, a4, a5, a6, a7, a8, a9, a10⟩ := h
  refine ⟨n, m, x, ⟨by rw [f 70 (by decide)]; exact a1, by rw [f 71 (by decide)]; exact a2, by rw [f 72 (by decide)]; exact a3⟩, a4, a5, ?_, ?_, ?_, ?_, ?_⟩
  · rw [r 73 (by decide)]; exact a6
  · rw [r 75 (by decide)]; exact a7
  · rw [r 77 (by decide), r 78 (by decide), r 79 (by decide)]; exact a8
  · rw [r 76 (by decide), r 80 (by decide), r 82 (by decide), r 81 (by decide)]; exact a9
  · rw [r 76 (by decide)]; exact a10
/-- out of what exploring leaves -/
theorem AT_d8 {u s w l t : Nat} {κ : zS} {σ : rS} (h : DX6 u s w l κ t σ) (hw : w ≤ 34) : AT8 w s (av8 κ t) σ := by
  obtain ⟨n, e70, ⟨n2, m, x, SH, EH, ⟨f1, f2, f3, _⟩, ⟨b1, b2, b3⟩, _, en, ht⟩, B, f0⟩ := h
  have b9 : n2 ≤ 1000 := SH.2.2.1
  have le : n2 ≤ n := by
    refine Decidable.byContradiction (fun c => ?_)
    have q := congrArg Int32.toInt (f1.symm.trans e70)
    rw [ofn_i (by omega), ofn_i (by omega)] at q
    omega
  obtain ⟨_, s1, s2, s3⟩ := SH
  obtain ⟨_, e1, e2, e3⟩ := EH
  refine ⟨n2, m, x, ⟨f1, f2, f3⟩, ⟨by omega, e2, b3⟩, ⟨s1, e1, en⟩, fun g hg => ?_, fun g hg => ?_, ht, fun j hj => B j (by omega), fun q => ?_⟩
  · obtain ⟨d, K, k1, k2, _⟩ := s3 g hg
    have l9 := k1.1.2.1
    refine ⟨d, K, KS_68 k1, ?_⟩
    have z : hkM9 (zA κ (zR κ hoStarts (zR κ atStates t))) (zA κ (zR κ hoPool (zR κ atStates t))) ((zI κ hoTotal (zR κ atStates t)).toInt) K (Int32.ofNat (w + 9 * d)).toInt g := k2
    rw [s1, ofn_i (by omega), ofn_i (by omega)] at z
    exact z
  · obtain ⟨K, k1, _, k3, k4, _⟩ := e3 g hg
    refine ⟨K, k1, k3, ?_⟩
    have z : hkM9 (zA κ (zR κ hoStarts (zR κ atEndings t))) (zA κ (zR κ hoPool (zR κ atEndings t))) ((zI κ hoTotal (zR κ atEndings t)).toInt) K (Int32.ofNat (w + 1)).toInt g := k4
    rw [e1, ofn_i (by omega), ofn_i (by omega)] at z
    exact z
  · by_cases c : n2 = n
    · rw [c]; exact f0 (by omega)
    · exact (B n2 (by omega)).1
/-- which states are hopeless, of both sides -/
def HQ8 (v : Av8) (σ : rS) : Prop := ∀ k, k < (σ.1 70).toNatClampNeg → (v.2 11 k ≠ 0 ↔ σ.2.2.1 87 k ≠ 0)
theorem HQ_k8 {v : Av8} {σ τ : rS} (h : HQ8 v σ) (k : kS8 σ τ) : HQ8 v τ := by
  unfold HQ8
  rw [k.1 70 (by decide), k.2 87 (by decide)]
  exact h
theorem HQ_x8 {v : Av8} {σc σ : rS} (h : hC8 (v.2 11) σc) (g : hl8 σc σ (σc.1 70).toNatClampNeg) (e : σ.1 70 = σc.1 70) : HQ8 v σ := fun k hk => by
  rw [e] at hk
  rw [h k hk, g k hk]

end
section
set_option maxHeartbeats 1600000
/-! the reference: ending, next, value by what they answer -/
def ec8 (σ : rS) (k i : Int32) : Prop := σ.1 69 ≠ 0 ∧ (0 ≤ k ∧ k < σ.1 71) ∧ -1 ≤ i ∧ i < σ.1 15 + σ.1 17
def ev8 (σ : rS) (k i : Int32) : Int32 := σ.2.2.1 75 ((((35 : Int32) * k) + (1 : Int32)) + i).toNatClampNeg
def XE8 (k i : Int32) (σ σ' : rS) (v : Int32) : Prop := (ec8 σ k i ∧ σ'.1 0 = 0 ∧ v = ev8 σ k i) ∨ (¬ ec8 σ k i ∧ σ'.1 0 = 1)
def nc8 (σ : rS) (k i w : Int32) : Prop := (σ.1 69 ≠ 0 ∧ 0 ≤ k ∧ k < σ.1 70) ∧ (0 ≤ i ∧ i < σ.2.2.1 76 (k + (1 : Int32)).toNatClampNeg - σ.2.2.1 76 k.toNatClampNeg) ∧ 0 ≤ w ∧ w ≤ 2
def nv8 (σ : rS) (k i w : Int32) : Int32 := if w = 0 then σ.2.2.1 77 (σ.2.2.1 76 k.toNatClampNeg + i).toNatClampNeg else if w = 1 then σ.2.2.1 78 (σ.2.2.1 76 k.toNatClampNeg + i).toNatClampNeg else σ.2.2.1 79 (σ.2.2.1 76 k.toNatClampNeg + i).toNatClampNeg
def XN8 (k i w : Int32) (σ σ' : rS) (v : Int32) : Prop := (nc8 σ k i w ∧ σ'.1 0 = 0 ∧ v = nv8 σ k i w) ∨ (¬ nc8 σ k i w ∧ σ'.1 0 = 1)
def vb8 (σ : rS) (k c i : Int32) : Prop := (σ.1 69 ≠ 0 ∧ 0 ≤ k ∧ k < σ.1 70) ∧ 0 ≤ i ∧ -1 ≤ c
def vc8 (σ : rS) (k c i : Int32) : Prop := vb8 σ k c i ∧ ((c = -1 ∧ i < σ.1 15 + σ.1 17) ∨ (c ≠ -1 ∧ c < σ.2.2.1 73 ((143 : Int32) * k).toNatClampNeg ∧ i < σ.2.2.1 27 (σ.2.2.1 38 (σ.2.2.1 73 ((((143 : Int32) * k) + (35 : Int32)) + ((9 : Int32) * c)).toNatClampNeg).toNatClampNeg).toNatClampNeg))
def vv8 (σ : rS) (k c i : Int32) : Int32 := if c = -1 then σ.2.2.1 73 ((((143 : Int32) * k) + (1 : Int32)) + i).toNatClampNeg else σ.2.2.1 73 (((((143 : Int32) * k) + (36 : Int32)) + ((9 : Int32) * c)) + i).toNatClampNeg
def XV8 (k c i : Int32) (σ σ' : rS) (v : Int32) : Prop := (vc8 σ k c i ∧ σ'.1 0 = 0 ∧ v = vv8 σ k c i) ∨ (¬ vc8 σ k c i ∧ σ'.1 0 = 1)
theorem ending_g5 {C : rCx} (hC : cOK C)  {σ : rS} {a1 : Int32} {a2 : Int32} {Q : Int32 → rS → Prop} (hp : exP σ ∧ tyAll σ) (h : ∀ (v : Int32) (σ' : rS), ((frG [0] [] σ σ') ∧ (XE8 a1 a2 σ σ' v)) → Q v σ') : cI C 0 m_ending [.ref (co C), .int a1, .int a2] σ Q := by
  refine m_ending_run hC ?_
  unfold w_ending_0
  have hj43 : ∀ (l1 : Int32) (l2 : Int32) (s1 : Int32) (τ : rS), ((σ = τ ∧ l1 = a1 ∧ l2 = a2 ∧ (s1 ≤ 0 → 0 ≤ a1 ∧ a1 < 1000 ∧ -1 ≤ a2 ∧ a2 < 34)) ∧ ((s1 = 0 ∧ ec8 σ a1 a2) ∨ (s1 = 1 ∧ ¬ ec8 σ a1 a2))) → w_ending_43 C Q  l1 l2 s1 τ := by
    rintro y43_1 y43_2 y43_s1 _ ⟨⟨rfl, j43⟩, hE⟩
    unfold w_ending_43
    intro σ_1 hσ_1
    have e0 : σ_1.1 0 = y43_s1 := by rw [hσ_1, si1, if_pos rfl]
    obtain ⟨e1, e2, jw⟩ := j43
    refine ⟨fun c2 => ?_, fun c2 => ?_⟩
    · skip
      refine ⟨ib_35000.mpr ?_, ?_⟩
      · clear h; obtain ⟨w1, w2, w3, w4⟩ := jw (by rw [← e0]; exact c2)
        rw [e1, e2]; exact xe2 w1 w2 w3 w4
      refine h _ _ ?_
      · refine and_5 ?_ (fun o9 => ?_)  -- q2
        · clear h; rw [hσ_1]; exact frG_0 (by decide)
        · clear o9
          rcases hE with ⟨z1, z2⟩ | ⟨z1, z2⟩
          · exact Or.inl ⟨z2, e0.trans z1, by rw [hσ_1, si2, e1, e2]; rfl⟩
          · rw [e0, z1] at c2; exact absurd c2 (by decide)
    · skip
      refine h _ _ ?_
      · refine and_5 ?_ (fun o9 => ?_)  -- q3
        · clear h; rw [hσ_1]; exact frG_0 (by decide)
        · clear o9
          rcases hE with ⟨z1, z2⟩ | ⟨z1, z2⟩
          · exact absurd (by rw [e0, z1]; decide) c2
          · exact Or.inr ⟨z2, e0.trans z1⟩
  refine ⟨fun c3 => ?_, fun c3 => ?_⟩
  · skip
    refine hj43 _ _ _ _ ?_
    · refine and_5 ?_ (fun o9 => Or.inr ⟨rfl, fun z => z.1 c3⟩)  -- k4
      clear h; exact ⟨rfl, rfl, rfl, fun z => absurd z (by decide)⟩
  · skip
    refine ⟨fun c4 => ?_, fun c4 => ?_⟩
    · skip
      refine hj43 _ _ _ _ ?_
      · refine and_5 ?_ (fun o9 => Or.inr ⟨rfl, fun z => absurd c4 (Int32.not_lt.mpr z.2.1.1)⟩)  -- k5
        clear h; exact ⟨rfl, rfl, rfl, fun z => absurd z (by decide)⟩
    · skip
      refine ⟨fun c5 => ?_, fun c5 => ?_⟩
      · skip
        refine hj43 _ _ _ _ ?_
        · refine and_5 ?_ (fun o9 => Or.inr ⟨rfl, fun z => absurd z.2.1.2 (Int32.not_lt.mpr c5)⟩)  -- k6
          clear h; exact ⟨rfl, rfl, rfl, fun z => absurd z (by decide)⟩
      · skip
        refine ⟨fun c6 => ?_, fun c6 => ?_⟩
        · skip
          refine hj43 _ _ _ _ ?_
          · refine and_5 ?_ (fun o9 => Or.inr ⟨rfl, fun z => absurd c6 (Int32.not_lt.mpr z.2.2.1)⟩)  -- k7
            clear h; exact ⟨rfl, rfl, rfl, fun z => absurd z (by decide)⟩
        · skip
          refine ⟨fun c7 => ?_, fun c7 => ?_⟩
          · skip
            refine hj43 _ _ _ _ ?_
            · refine and_5 ?_ (fun o9 => Or.inl ⟨rfl, c3, ⟨Int32.not_lt.mp c4, Int32.not_le.mp c5⟩, Int32.not_lt.mp c6, c7⟩)  -- k8
              clear h; exact ⟨rfl, rfl, rfl, fun _ => ⟨Int32.not_lt.mp c4, Int32.lt_of_lt_of_le (Int32.not_le.mp c5) hp.1.1.2.1.2, Int32.not_lt.mp c6, Int32.lt_of_lt_of_le c7 (vc34 hp.2).2⟩⟩
          · skip
            refine hj43 _ _ _ _ ?_
            · refine and_5 ?_ (fun o9 => Or.inr ⟨rfl, fun z => c7 z.2.2.2⟩)  -- k9
              clear h; exact ⟨rfl, rfl, rfl, fun z => absurd z (by decide)⟩

theorem next_g5 {C : rCx} (hC : cOK C)  {σ : rS} {a1 : Int32} {a2 : Int32} {a3 : Int32} {Q : Int32 → rS → Prop} (hp : exP σ) (h : ∀ (v : Int32) (σ' : rS), ((frG [0] [] σ σ') ∧ (XN8 a1 a2 a3 σ σ' v)) → Q v σ') : cI C 1 m_next [.ref (co C), .int a1, .int a2, .int a3] σ Q := by
  refine m_next_run hC ?_
  unfold w_next_0
  have hj46 : ∀ (l1 : Int32) (l2 : Int32) (l3 : Int32) (s1 : Int32) (τ : rS), ((σ = τ ∧ l1 = a1 ∧ l2 = a2 ∧ l3 = a3 ∧ (s1 ≤ 0 → 0 ≤ a1 ∧ a1 < σ.1 70 ∧ 0 ≤ a2 ∧ a2 < rd σ 76 (a1 + 1) - rd σ 76 a1)) ∧ ((s1 = 0 ∧ nc8 σ a1 a2 a3) ∨ (s1 = 1 ∧ ¬ nc8 σ a1 a2 a3))) → w_next_46 C Q  l1 l2 l3 s1 τ := by
    rintro y46_1 y46_2 y46_3 y46_s1 _ ⟨⟨rfl, j46⟩, hE⟩
    unfold w_next_46
    intro σ_1 hσ_1
    have e0 : σ_1.1 0 = y46_s1 := by rw [hσ_1, si1, if_pos rfl]
    obtain ⟨e1, e2, e3, jw⟩ := j46
    refine ⟨fun c2 => ?_, fun c2 => ?_⟩
    · skip
      refine ⟨ib_1001.mpr ?_, ?_⟩
      · clear h; have w := jw (by rw [← e0]; exact c2)
        have k := k1001 w.1 (Int32.lt_of_lt_of_le w.2.1 hp.1.1.2)
        rw [e1]; exact ⟨w.1, k.2.2.1⟩
      intro x3 hx3
      have w := jw (by rw [← e0]; exact c2)
      have sn := st_ns hp.1 w.1 w.2.1
      have ni := nx_in sn.1 sn.2.1 sn.2.2 w.2.2.1 w.2.2.2
      have ex : x3 = rd σ 76 a1 + a2 := by rw [hx3, e1, e2, hσ_1, si2]
      have b : 0 ≤ x3 ∧ x3 < 20000 := by rw [ex]; exact ⟨ni.1, Int32.lt_of_lt_of_le ni.2 sn.2.2⟩
      refine ⟨fun c4 => ?_, fun c4 => ?_⟩
      · skip
        refine ⟨fun c5 => ?_, fun c5 => ?_⟩
        · skip
          refine ⟨ib_20000.mpr ?_, ?_⟩
          · clear h; exact b  -- b2
          refine h _ _ ?_
          · refine and_5 ?_ (fun o9 => ?_)  -- q3
            · clear h; rw [hσ_1]; exact frG_0 (by decide)
            · clear o9
              rcases hE with ⟨z1, z2⟩ | ⟨z1, z2⟩
              · exact Or.inl ⟨z2, e0.trans z1, by unfold nv8; rw [if_neg (by rw [← e3]; exact c4), if_neg (by rw [← e3]; exact c5), ex, hσ_1, si2]⟩
              · rw [e0, z1] at c2; exact absurd c2 (by decide)
        · skip
          refine ⟨ib_20000.mpr ?_, ?_⟩
          · clear h; exact b  -- b4
          refine h _ _ ?_
          · refine and_5 ?_ (fun o9 => ?_)  -- q5
            · clear h; rw [hσ_1]; exact frG_0 (by decide)
            · clear o9
              rcases hE with ⟨z1, z2⟩ | ⟨z1, z2⟩
              · exact Or.inl ⟨z2, e0.trans z1, by unfold nv8; rw [if_neg (by rw [← e3]; exact c4), if_pos (by rw [← e3]; exact c5), ex, hσ_1, si2]⟩
              · rw [e0, z1] at c2; exact absurd c2 (by decide)
      · skip
        refine ⟨ib_20000.mpr ?_, ?_⟩
        · clear h; exact b  -- b6
        refine h _ _ ?_
        · refine and_5 ?_ (fun o9 => ?_)  -- q7
          · clear h; rw [hσ_1]; exact frG_0 (by decide)
          · clear o9
            rcases hE with ⟨z1, z2⟩ | ⟨z1, z2⟩
            · exact Or.inl ⟨z2, e0.trans z1, by unfold nv8; rw [if_pos (by rw [← e3]; exact c4), ex, hσ_1, si2]⟩
            · rw [e0, z1] at c2; exact absurd c2 (by decide)
    · skip
      refine h _ _ ?_
      · refine and_5 ?_ (fun o9 => ?_)  -- q8
        · clear h; rw [hσ_1]; exact frG_0 (by decide)
        · clear o9
          rcases hE with ⟨z1, z2⟩ | ⟨z1, z2⟩
          · exact absurd (by rw [e0, z1]; decide) c2
          · exact Or.inr ⟨z2, e0.trans z1⟩
  refine isState_c hC  (fun r6 q8 => ?_)
  refine ⟨fun c9 => ?_, fun c9 => ?_⟩
  · skip
    refine hj46 _ _ _ _ _ ?_
    · refine and_5 ?_ (fun o9 => Or.inr ⟨rfl, fun z => q8.2.mpr z.1 c9⟩)  -- k9
      clear h; exact ⟨rfl, rfl, rfl, rfl, fun z => absurd z (by decide)⟩
  · skip
    refine ⟨fun c10 => ?_, fun c10 => ?_⟩
    · skip
      refine hj46 _ _ _ _ _ ?_
      · refine and_5 ?_ (fun o9 => Or.inr ⟨rfl, fun z => absurd c10 (Int32.not_lt.mpr z.2.1.1)⟩)  -- k10
        clear h; exact ⟨rfl, rfl, rfl, rfl, fun z => absurd z (by decide)⟩
    · skip
      have w := q8.2.mp c9
      have k := k1001 w.2.1 (Int32.lt_of_lt_of_le w.2.2 hp.1.1.2)
      refine ⟨ib_1001.mpr ?_, ?_⟩
      · clear h; exact ⟨k.1, k.2.1⟩  -- b11
      refine ⟨ib_1001.mpr ?_, ?_⟩
      · clear h; exact ⟨w.2.1, k.2.2.1⟩  -- b12
      refine ⟨fun c11 => ?_, fun c11 => ?_⟩
      · skip
        refine hj46 _ _ _ _ _ ?_
        · refine and_5 ?_ (fun o9 => Or.inr ⟨rfl, fun z => absurd z.2.1.2 (Int32.not_lt.mpr c11)⟩)  -- k13
          clear h; exact ⟨rfl, rfl, rfl, rfl, fun z => absurd z (by decide)⟩
      · skip
        refine within_c hC  (fun r12 q14 => ?_)
        refine ⟨fun c15 => ?_, fun c15 => ?_⟩
        · skip
          refine hj46 _ _ _ _ _ ?_
          · refine and_5 ?_ (fun o9 => Or.inl ⟨rfl, q8.2.mp c9, ⟨Int32.not_lt.mp c10, Int32.not_le.mp c11⟩, q14.2.mp c15⟩)  -- k14
            clear h; exact ⟨rfl, rfl, rfl, rfl, fun _ => ⟨w.2.1, w.2.2, Int32.not_lt.mp c10, Int32.not_le.mp c11⟩⟩
        · skip
          refine hj46 _ _ _ _ _ ?_
          · refine and_5 ?_ (fun o9 => Or.inr ⟨rfl, fun z => q14.2.mpr z.2.2 c15⟩)  -- k15
            clear h; exact ⟨rfl, rfl, rfl, rfl, fun z => absurd z (by decide)⟩

theorem value_g5 {C : rCx} (hC : cOK C)  {σ : rS} {a1 : Int32} {a2 : Int32} {a3 : Int32} {Q : Int32 → rS → Prop} (hp : exP σ ∧ tyAll σ) (h : ∀ (v : Int32) (σ' : rS), ((frG [0] [] σ σ') ∧ (XV8 a1 a2 a3 σ σ' v)) → Q v σ') : cI C 1 m_value [.ref (co C), .int a1, .int a2, .int a3] σ Q := by
  refine m_value_run hC ?_
  unfold w_value_0
  have hj126 : ∀ (l1 : Int32) (l2 : Int32) (l3 : Int32) (s1 : Int32) (τ : rS), ((σ = τ ∧ l1 = a1 ∧ l2 = a2 ∧ l3 = a3 ∧ (s1 ≤ 0 → 0 ≤ a1 ∧ a1 < σ.1 70 ∧ 0 ≤ a3 ∧ ((a2 = -1 ∧ a3 < 34) ∨ (0 ≤ a2 ∧ a2 < 12 ∧ a3 < 8)))) ∧ ((s1 = 0 ∧ vc8 σ a1 a2 a3) ∨ (s1 = 1 ∧ ¬ vc8 σ a1 a2 a3))) → w_value_126 C Q  l1 l2 l3 s1 τ := by
    rintro y126_1 y126_2 y126_3 y126_s1 _ ⟨⟨rfl, j126⟩, hE⟩
    unfold w_value_126
    intro σ_1 hσ_1
    have e0 : σ_1.1 0 = y126_s1 := by rw [hσ_1, si1, if_pos rfl]
    obtain ⟨e1, e2, e3, jw⟩ := j126
    refine ⟨fun c2 => ?_, fun c2 => ?_⟩
    · skip
      refine ⟨fun c3 => ?_, fun c3 => ?_⟩
      · skip
        refine ⟨ib_143000.mpr ?_, ?_⟩
        · clear h; obtain ⟨w1, w2, w3, w4⟩ := jw (by rw [← e0]; exact c2)
          rw [e2] at c3
          rw [e1, e2, e3]
          rcases w4 with z | z
          · exact absurd z.1 c3
          · exact (xr9 w1 (Int32.lt_of_lt_of_le w2 hp.1.1.1.2) z.1 z.2.1 w3 z.2.2).1
        refine h _ _ ?_
        · refine and_5 ?_ (fun o9 => ?_)  -- q2
          · clear h; rw [hσ_1]; exact frG_0 (by decide)
          · clear o9
            rcases hE with ⟨z1, z2⟩ | ⟨z1, z2⟩
            · exact Or.inl ⟨z2, e0.trans z1, by unfold vv8; rw [if_neg (by rw [← e2]; exact c3), hσ_1, si2, e1, e2, e3]⟩
            · rw [e0, z1] at c2; exact absurd c2 (by decide)
      · skip
        refine ⟨ib_143000.mpr ?_, ?_⟩
        · clear h; obtain ⟨w1, w2, w3, w4⟩ := jw (by rw [← e0]; exact c2)
          rw [e2] at c3
          rw [e1, e3]
          rcases w4 with z | z
          · exact xr1 w1 (Int32.lt_of_lt_of_le w2 hp.1.1.1.2) w3 z.2
          · rw [c3] at z; exact absurd z.1 (by decide)
        refine h _ _ ?_
        · refine and_5 ?_ (fun o9 => ?_)  -- q4
          · clear h; rw [hσ_1]; exact frG_0 (by decide)
          · clear o9
            rcases hE with ⟨z1, z2⟩ | ⟨z1, z2⟩
            · exact Or.inl ⟨z2, e0.trans z1, by unfold vv8; rw [if_pos (by rw [← e2]; exact c3), hσ_1, si2, e1, e3]⟩
            · rw [e0, z1] at c2; exact absurd c2 (by decide)
    · skip
      refine h _ _ ?_
      · refine and_5 ?_ (fun o9 => ?_)  -- q5
        · clear h; rw [hσ_1]; exact frG_0 (by decide)
        · clear o9
          rcases hE with ⟨z1, z2⟩ | ⟨z1, z2⟩
          · exact absurd (by rw [e0, z1]; decide) c2
          · exact Or.inr ⟨z2, e0.trans z1⟩
  have hj115 : ∀ (l1 : Int32) (l2 : Int32) (l3 : Int32) (l4 : Int32) (τ : rS), ((σ = τ ∧ l1 = a1 ∧ l2 = a2 ∧ l3 = a3 ∧ (l4 ≠ 0 → 0 ≤ a1 ∧ a1 < σ.1 70 ∧ 0 ≤ a3 ∧ ((a2 = -1 ∧ a3 < 34) ∨ (0 ≤ a2 ∧ a2 < 12 ∧ a3 < 8)))) ∧ ((l4 = 0 ∧ ¬ vc8 σ a1 a2 a3) ∨ (¬ l4 = 0 ∧ vc8 σ a1 a2 a3))) → w_value_115 C Q  l1 l2 l3 l4 τ := by
    rintro y115_1 y115_2 y115_3 y115_4 _ ⟨⟨rfl, j115⟩, hE⟩
    unfold w_value_115
    obtain ⟨e1, e2, e3, jw⟩ := j115
    refine ⟨fun c4 => ?_, fun c4 => ?_⟩
    · skip
      refine hj126 _ _ _ _ _ ?_
      · refine and_5 ?_ (fun o9 => Or.inr ⟨rfl, hE.elim (fun z => z.2) (fun z => absurd c4 z.1)⟩)  -- k6
        clear h; exact ⟨rfl, e1, e2, e3, fun z => absurd z (by decide)⟩
    · skip
      refine hj126 _ _ _ _ _ ?_
      · refine and_5 ?_ (fun o9 => Or.inl ⟨rfl, hE.elim (fun z => absurd z.1 c4) (fun z => z.2)⟩)  -- k7
        clear h; exact ⟨rfl, e1, e2, e3, fun _ => jw c4⟩
  have hj57 : ∀ (l1 : Int32) (l2 : Int32) (l3 : Int32) (l4 : Int32) (τ : rS), ((σ = τ ∧ l1 = a1 ∧ l2 = a2 ∧ l3 = a3 ∧ (l4 ≠ 0 → 0 ≤ a1 ∧ a1 < σ.1 70 ∧ 0 ≤ a3 ∧ 0 ≤ a2)) ∧ ((l4 = 0 ∧ ¬ vc8 σ a1 a2 a3) ∨ (¬ l4 = 0 ∧ vb8 σ a1 a2 a3 ∧ ¬ a2 = -1))) → w_value_57 C Q  l1 l2 l3 l4 τ := by
    rintro y57_1 y57_2 y57_3 y57_4 _ ⟨⟨rfl, j57⟩, hE⟩
    unfold w_value_57
    obtain ⟨e1, e2, e3, jw⟩ := j57
    refine ⟨fun c5 => ?_, fun c5 => ?_⟩
    · skip
      refine hj115 _ _ _ _ _ ?_
      · refine and_5 ?_ (fun o9 => Or.inl ⟨c5, hE.elim (fun z => z.2) (fun z => absurd c5 z.1)⟩)  -- k8
        clear h; exact ⟨rfl, e1, e2, e3, fun z => absurd c5 z⟩
    · skip
      obtain ⟨w1, w2, w3, w4⟩ := jw c5
      have k1 := Int32.lt_of_lt_of_le w2 hp.1.1.1.2
      obtain ⟨r1, r2, r3⟩ := hp.1.2.1 a1 w1 w2
      refine ⟨ib_143000.mpr ?_, ?_⟩
      · clear h; rw [e1]; exact (xr w1 k1 (Int32.le_refl 0) (by decide)).2  -- b9
      refine ⟨fun c6 => ?_, fun c6 => ?_⟩
      · skip
        refine hj115 _ _ _ _ _ ?_
        · refine and_5 ?_ (fun o9 => ?_)  -- k10
          · clear h; exact ⟨rfl, e1, e2, e3, fun z => absurd rfl z⟩
          · clear o9
            rcases hE with z | z
            · exact absurd z.1 c5
            · refine Or.inl ⟨rfl, fun y => ?_⟩
              rcases y.2 with q | q
              · exact z.2.2 q.1
              · rw [e1, e2] at c6
                exact absurd q.2.1 (Int32.not_lt.mpr c6)
      · skip
        rw [e1, e2] at c6
        have c12 : a2 < 12 := Int32.lt_of_lt_of_le (Int32.not_le.mp c6) r2
        have at_ := r3 a2 w4 (Int32.not_le.mp c6)
        refine ⟨ib_143000.mpr ?_, ?_⟩
        · clear h; rw [e1, e2]; exact (xr9 w1 k1 w4 c12 (Int32.le_refl 0) (by decide)).2  -- b11
        refine ⟨ib_150.mpr ?_, ?_⟩
        · clear h; rw [e1, e2]; exact at_  -- b12
        refine ⟨ib_10.mpr ?_, ?_⟩
        · clear h; exact hp.2.2.2.2.1.2.2.2.2.2.1 _  -- b13
        refine ⟨fun c7 => ?_, fun c7 => ?_⟩
        · skip
          refine hj115 _ _ _ _ _ ?_
          · refine and_5 ?_ (fun o9 => ?_)  -- k14
            · clear h; exact ⟨rfl, e1, e2, e3, fun z => absurd rfl z⟩
            · clear o9
              rcases hE with z | z
              · exact absurd z.1 c5
              · refine Or.inl ⟨rfl, fun y => ?_⟩
                rcases y.2 with q | q
                · exact z.2.2 q.1
                · rw [e1, e2, e3] at c7
                  exact absurd q.2.2 (Int32.not_lt.mpr c7)
        · skip
          refine hj115 _ _ _ _ _ ?_
          · refine and_5 ?_ (fun o9 => ?_)  -- k15
            · clear h; rw [e3] at c7
              exact ⟨rfl, e1, e2, e3, fun _ => ⟨w1, w2, w3, Or.inr ⟨w4, c12, lt_89 c7 (hp.2.2.1.2.2.2.2.2 _).2⟩⟩⟩
            · clear o9
              rcases hE with z | z
              · exact absurd z.1 c5
              · refine Or.inr ⟨by decide, z.2.1, Or.inr ⟨z.2.2, Int32.not_le.mp c6, ?_⟩⟩
                rw [e1, e2, e3] at c7
                exact Int32.not_le.mp c7
  have hj22 : ∀ (l1 : Int32) (l2 : Int32) (l3 : Int32) (s0 : Int32) (τ : rS), ((σ = τ ∧ l1 = a1 ∧ l2 = a2 ∧ l3 = a3 ∧ nb s0 ∧ (s0 ≠ 0 → 0 ≤ a1 ∧ a1 < σ.1 70 ∧ 0 ≤ a3 ∧ -1 ≤ a2)) ∧ ((s0 = 0 ∧ ¬ vb8 σ a1 a2 a3) ∨ (¬ s0 = 0 ∧ vb8 σ a1 a2 a3))) → w_value_22 C Q  l1 l2 l3 s0 τ := by
    rintro y22_1 y22_2 y22_3 y22_s0 _ ⟨⟨rfl, j22⟩, hE⟩
    unfold w_value_22
    obtain ⟨e1, e2, e3, jn, jw⟩ := j22
    refine ⟨fun c8 => ?_, fun c8 => ?_⟩
    · skip
      refine hj57 _ _ _ _ _ ?_
      · refine and_5 ?_ (fun o9 => Or.inl ⟨c8, hE.elim (fun z y => z.2 y.1) (fun z => absurd c8 z.1)⟩)  -- k16
        clear h; exact ⟨rfl, e1, e2, e3, fun z => absurd c8 z⟩
    · skip
      refine ⟨fun c9 => ?_, fun c9 => ?_⟩
      · skip
        refine hj57 _ _ _ _ _ ?_
        · refine and_5 ?_ (fun o9 => Or.inr ⟨c8, hE.elim (fun z => absurd z.1 c8) (fun z => z.2), by rw [← e2]; exact c9⟩)  -- k17
          clear h; obtain ⟨w1, w2, w3, w4⟩ := jw c8
          rw [e2] at c9
          exact ⟨rfl, e1, e2, e3, fun _ => ⟨w1, w2, w3, m1_0 w4 c9⟩⟩
      · skip
        refine ⟨fun c10 => ?_, fun c10 => ?_⟩
        · skip
          refine hj115 _ _ _ _ _ ?_
          · refine and_5 ?_ (fun o9 => ?_)  -- k18
            · clear h; exact ⟨rfl, e1, e2, e3, fun z => absurd rfl z⟩
            · clear o9
              rcases hE with z | z
              · exact absurd z.1 c8
              · refine Or.inl ⟨rfl, fun y => ?_⟩
                rcases y.2 with q | q
                · rw [e3] at c10
                  exact absurd q.2 (Int32.not_lt.mpr c10)
                · exact q.1 (e2.symm.trans c9)
        · skip
          refine hj115 _ _ _ _ _ ?_
          · refine and_5 ?_ (fun o9 => ?_)  -- k19
            · clear h; obtain ⟨w1, w2, w3, w4⟩ := jw c8
              rw [e2] at c9
              rw [e3] at c10
              exact ⟨rfl, e1, e2, e3, fun _ => ⟨w1, w2, w3, Or.inl ⟨c9, Int32.lt_of_lt_of_le (Int32.not_le.mp c10) (vc34 hp.2).2⟩⟩⟩
            · clear o9
              rcases hE with z | z
              · exact absurd z.1 c8
              · refine Or.inr ⟨by decide, z.2, Or.inl ⟨e2.symm.trans c9, ?_⟩⟩
                rw [e3] at c10
                exact Int32.not_le.mp c10
  refine isState_c hC  (fun r11 q13 => ?_)
  refine ⟨fun c14 => ?_, fun c14 => ?_⟩
  · skip
    refine hj22 _ _ _ _ _ ?_
    · refine and_5 ?_ (fun o9 => Or.inl ⟨rfl, fun y => q13.2.mpr y.1 c14⟩)  -- k20
      clear h; exact ⟨rfl, rfl, rfl, rfl, nb_0, fun z => absurd rfl z⟩
  · skip
    refine ⟨fun c15 => ?_, fun c15 => ?_⟩
    · skip
      refine hj22 _ _ _ _ _ ?_
      · refine and_5 ?_ (fun o9 => Or.inl ⟨rfl, fun y => absurd c15 (Int32.not_lt.mpr y.2.1)⟩)  -- k21
        clear h; exact ⟨rfl, rfl, rfl, rfl, nb_0, fun z => absurd rfl z⟩
    · skip
      refine ⟨fun c16 => ?_, fun c16 => ?_⟩
      · skip
        refine hj22 _ _ _ _ _ ?_
        · refine and_5 ?_ (fun o9 => Or.inl ⟨rfl, fun y => absurd c16 (Int32.not_lt.mpr y.2.2)⟩)  -- k22
          clear h; exact ⟨rfl, rfl, rfl, rfl, nb_0, fun z => absurd rfl z⟩
      · skip
        refine hj22 _ _ _ _ _ ?_
        · refine and_5 ?_ (fun o9 => Or.inr ⟨by decide, q13.2.mp c14, Int32.not_lt.mp c15, Int32.not_lt.mp c16⟩)  -- k23
          clear h; exact ⟨rfl, rfl, rfl, rfl, nb_1, fun _ => ⟨(q13.2.mp c14).2.1, (q13.2.mp c14).2.2, Int32.not_lt.mp c15, Int32.not_lt.mp c16⟩⟩

end
section
set_option maxHeartbeats 1600000
/-! the reference: state by what it answers -/
def sc8 (σ : rS) (k w : Int32) : Prop := (σ.1 69 ≠ 0 ∧ 0 ≤ k ∧ k < σ.1 70) ∧ 0 ≤ w ∧ w ≤ 5
def sl8 (σ : rS) (k : Int32) : Int32 := σ.2.2.1 73 (((((143 : Int32) * k) + (35 : Int32)) + ((9 : Int32) * ((σ.2.2.1 73 (((143 : Int32) * k)).toNatClampNeg) - (1 : Int32))))).toNatClampNeg
def sv8 (σ : rS) (k w : Int32) : Int32 := if w.toInt = 0 then sl8 σ k else if w.toInt = 1 then σ.2.2.1 73 ((143 : Int32) * k).toNatClampNeg else if w.toInt = 2 then σ.2.2.1 76 (k + (1 : Int32)).toNatClampNeg - σ.2.2.1 76 k.toNatClampNeg else if w.toInt = 3 then (if σ.2.2.1 81 k.toNatClampNeg = 0 then 0 else 1) else if w.toInt = 4 then (if σ.2.2.1 87 k.toNatClampNeg = 0 then 0 else 1) else σ.2.2.1 80 k.toNatClampNeg
def XT8 (k w : Int32) (σ σ' : rS) (v : Int32) : Prop := (sc8 σ k w ∧ σ'.1 0 = 0 ∧ v = sv8 σ k w) ∨ (¬ sc8 σ k w ∧ σ'.1 0 = 1)
theorem latestAt_g5 {C : rCx} (hC : cOK C)  {σ : rS} {a1 : Int32} {Q : Int32 → rS → Prop} (hp : 0 ≤ a1 ∧ a1 < 1000 ∧ rowR σ a1) (h : ∀ (v : Int32), ((0 ≤ v ∧ v < 150) ∧ (v = sl8 σ a1)) → Q v σ) : cI C 0 m_latestAt [.ref (co C), .int a1] σ Q := by
  refine m_latestAt_run hC ?_
  unfold w_latestAt_0
  obtain ⟨h0, h1, r1, r2, r3⟩ := hp
  have m := c_m1 r1 r2
  have d := c_d1 r1 r2
  refine ⟨ib_143000.mpr ?_, ?_⟩
  · clear h; exact (xr h0 h1 (Int32.le_refl 0) (by decide)).2  -- b1
  refine ⟨ib_143000.mpr ?_, ?_⟩
  · clear h; exact (xr9 h0 h1 m.1 m.2 (Int32.le_refl 0) (by decide)).2  -- b2
  refine h _ ?_
  · refine and_5 ?_ (fun o9 => rfl)  -- q3
    clear h; exact r3 _ m.1 d

theorem state_g5 {C : rCx} (hC : cOK C)  {σ : rS} {a1 : Int32} {a2 : Int32} {Q : Int32 → rS → Prop} (hp : exP σ) (h : ∀ (v : Int32) (σ' : rS), ((frG [0] [] σ σ') ∧ (XT8 a1 a2 σ σ' v)) → Q v σ') : cI C 1 m_state [.ref (co C), .int a1, .int a2] σ Q := by
  refine m_state_run hC ?_
  unfold w_state_0
  have hj23 : ∀ (l1 : Int32) (l2 : Int32) (s1 : Int32) (τ : rS), ((σ = τ ∧ l1 = a1 ∧ l2 = a2 ∧ (s1 ≤ 0 → 0 ≤ a1 ∧ a1 < σ.1 70)) ∧ ((s1 = 0 ∧ sc8 σ a1 a2) ∨ (s1 = 1 ∧ ¬ sc8 σ a1 a2))) → w_state_23 C Q  l1 l2 s1 τ := by
    rintro y23_1 y23_2 y23_s1 _ ⟨⟨rfl, j23⟩, hE⟩
    unfold w_state_23
    intro σ_1 hσ_1
    have e0 : σ_1.1 0 = y23_s1 := by rw [hσ_1, si1, if_pos rfl]
    obtain ⟨e1, e2, jw⟩ := j23
    refine ⟨fun c2 => ?_, fun c2 => ?_⟩
    · skip
      refine ⟨fun c3 => ?_, fun c3 => ?_, fun c3 => ?_, fun c3 => ?_, fun c3 => ?_, fun c3 => ?_⟩
      · skip
        refine ⟨ib_1000.mpr ?_, ?_⟩
        · clear h; have w := jw (by rw [← e0]; exact c2)
          rw [e1]; exact ⟨w.1, Int32.lt_of_lt_of_le w.2 hp.1.1.2⟩
        refine h _ _ ?_
        · refine and_5 ?_ (fun o9 => ?_)  -- q2
          · clear h; rw [hσ_1]; exact frG_0 (by decide)
          · clear o9
            rcases hE with ⟨z1, z2⟩ | ⟨z1, z2⟩
            · rw [e2] at c3
              refine Or.inl ⟨z2, e0.trans z1, ?_⟩
              unfold sv8
              rw [if_neg (by omega), if_neg (by omega), if_neg (by omega), if_neg (by omega), if_neg (by omega), hσ_1, si2, e1]
            · rw [e0, z1] at c2; exact absurd c2 (by decide)
      · skip
        refine latestAt_g5 hC  ?_ (fun r4 q6 => ?_)
        · clear h; have w := jw (by rw [← e0]; exact c2)
          have r := hp.2.1 a1 w.1 w.2
          rw [e1, hσ_1]; exact ⟨w.1, Int32.lt_of_lt_of_le w.2 hp.1.1.2, r⟩
        obtain ⟨q6, z9⟩ := q6
        refine h _ _ ?_
        · refine and_5 ?_ (fun o9 => ?_)  -- q4
          · clear h; rw [hσ_1]; exact frG_0 (by decide)
          · clear o9
            rcases hE with ⟨z1, z2⟩ | ⟨z1, z2⟩
            · rw [e2] at c3
              refine Or.inl ⟨z2, e0.trans z1, ?_⟩
              unfold sv8
              rw [if_pos c3, z9]
              unfold sl8
              rw [hσ_1, si2, e1]
            · rw [e0, z1] at c2; exact absurd c2 (by decide)
      · skip
        refine ⟨ib_143000.mpr ?_, ?_⟩
        · clear h; have w := jw (by rw [← e0]; exact c2)
          rw [e1]; exact (xr w.1 (Int32.lt_of_lt_of_le w.2 hp.1.1.2) (Int32.le_refl 0) (by decide)).2
        refine h _ _ ?_
        · refine and_5 ?_ (fun o9 => ?_)  -- q6
          · clear h; rw [hσ_1]; exact frG_0 (by decide)
          · clear o9
            rcases hE with ⟨z1, z2⟩ | ⟨z1, z2⟩
            · rw [e2] at c3
              refine Or.inl ⟨z2, e0.trans z1, ?_⟩
              unfold sv8
              rw [if_neg (by omega), if_pos c3, hσ_1, si2, e1]
            · rw [e0, z1] at c2; exact absurd c2 (by decide)
      · skip
        refine ⟨ib_1001.mpr ?_, ?_⟩
        · clear h; have w := jw (by rw [← e0]; exact c2)
          have k := k1001 w.1 (Int32.lt_of_lt_of_le w.2 hp.1.1.2)
          rw [e1]; exact ⟨k.1, k.2.1⟩
        refine ⟨ib_1001.mpr ?_, ?_⟩
        · clear h; have w := jw (by rw [← e0]; exact c2)
          have k := k1001 w.1 (Int32.lt_of_lt_of_le w.2 hp.1.1.2)
          rw [e1]; exact ⟨w.1, k.2.2.1⟩
        refine h _ _ ?_
        · refine and_5 ?_ (fun o9 => ?_)  -- q9
          · clear h; rw [hσ_1]; exact frG_0 (by decide)
          · clear o9
            rcases hE with ⟨z1, z2⟩ | ⟨z1, z2⟩
            · rw [e2] at c3
              refine Or.inl ⟨z2, e0.trans z1, ?_⟩
              unfold sv8
              rw [if_neg (by omega), if_neg (by omega), if_pos c3, hσ_1, si2, e1]
            · rw [e0, z1] at c2; exact absurd c2 (by decide)
      · skip
        refine ⟨ib_1000.mpr ?_, ?_⟩
        · clear h; have w := jw (by rw [← e0]; exact c2)
          rw [e1]; exact ⟨w.1, Int32.lt_of_lt_of_le w.2 hp.1.1.2⟩
        refine ⟨fun c7 => ?_, fun c7 => ?_⟩
        · skip
          refine h _ _ ?_
          · refine and_5 ?_ (fun o9 => ?_)  -- q11
            · clear h; rw [hσ_1]; exact frG_0 (by decide)
            · clear o9
              rcases hE with ⟨z1, z2⟩ | ⟨z1, z2⟩
              · rw [e2] at c3
                refine Or.inl ⟨z2, e0.trans z1, ?_⟩
                unfold sv8
                rw [hσ_1, si2, e1] at c7
                rw [if_neg (by omega), if_neg (by omega), if_neg (by omega), if_pos c3, if_pos c7]
              · rw [e0, z1] at c2; exact absurd c2 (by decide)
        · skip
          refine h _ _ ?_
          · refine and_5 ?_ (fun o9 => ?_)  -- q12
            · clear h; rw [hσ_1]; exact frG_0 (by decide)
            · clear o9
              rcases hE with ⟨z1, z2⟩ | ⟨z1, z2⟩
              · rw [e2] at c3
                refine Or.inl ⟨z2, e0.trans z1, ?_⟩
                unfold sv8
                rw [hσ_1, si2, e1] at c7
                rw [if_neg (by omega), if_neg (by omega), if_neg (by omega), if_pos c3, if_neg c7]
              · rw [e0, z1] at c2; exact absurd c2 (by decide)
      · skip
        refine ⟨ib_1000.mpr ?_, ?_⟩
        · clear h; have w := jw (by rw [← e0]; exact c2)
          rw [e1]; exact ⟨w.1, Int32.lt_of_lt_of_le w.2 hp.1.1.2⟩
        refine ⟨fun c8 => ?_, fun c8 => ?_⟩
        · skip
          refine h _ _ ?_
          · refine and_5 ?_ (fun o9 => ?_)  -- q14
            · clear h; rw [hσ_1]; exact frG_0 (by decide)
            · clear o9
              rcases hE with ⟨z1, z2⟩ | ⟨z1, z2⟩
              · rw [e2] at c3
                refine Or.inl ⟨z2, e0.trans z1, ?_⟩
                unfold sv8
                rw [hσ_1, si2, e1] at c8
                rw [if_neg (by omega), if_neg (by omega), if_neg (by omega), if_neg (by omega), if_pos c3, if_pos c8]
              · rw [e0, z1] at c2; exact absurd c2 (by decide)
        · skip
          refine h _ _ ?_
          · refine and_5 ?_ (fun o9 => ?_)  -- q15
            · clear h; rw [hσ_1]; exact frG_0 (by decide)
            · clear o9
              rcases hE with ⟨z1, z2⟩ | ⟨z1, z2⟩
              · rw [e2] at c3
                refine Or.inl ⟨z2, e0.trans z1, ?_⟩
                unfold sv8
                rw [hσ_1, si2, e1] at c8
                rw [if_neg (by omega), if_neg (by omega), if_neg (by omega), if_neg (by omega), if_pos c3, if_neg c8]
              · rw [e0, z1] at c2; exact absurd c2 (by decide)
    · skip
      refine h _ _ ?_
      · refine and_5 ?_ (fun o9 => ?_)  -- q16
        · clear h; rw [hσ_1]; exact frG_0 (by decide)
        · clear o9
          rcases hE with ⟨z1, z2⟩ | ⟨z1, z2⟩
          · exact absurd (by rw [e0, z1]; decide) c2
          · exact Or.inr ⟨z2, e0.trans z1⟩
  refine isState_c hC  (fun r9 q11 => ?_)
  refine ⟨fun c12 => ?_, fun c12 => ?_⟩
  · skip
    refine hj23 _ _ _ _ ?_
    · refine and_5 ?_ (fun o9 => Or.inr ⟨rfl, fun z => q11.2.mpr z.1 c12⟩)  -- k17
      clear h; exact ⟨rfl, rfl, rfl, fun z => absurd z (by decide)⟩
  · skip
    refine within_c hC  (fun r13 q15 => ?_)
    refine ⟨fun c16 => ?_, fun c16 => ?_⟩
    · skip
      refine hj23 _ _ _ _ ?_
      · refine and_5 ?_ (fun o9 => Or.inl ⟨rfl, q11.2.mp c12, q15.2.mp c16⟩)  -- k18
        clear h; exact ⟨rfl, rfl, rfl, fun _ => (q11.2.mp c12).2⟩
    · skip
      refine hj23 _ _ _ _ ?_
      · refine and_5 ?_ (fun o9 => Or.inr ⟨rfl, fun z => q15.2.mpr z.2 c16⟩)  -- k19
        clear h; exact ⟨rfl, rfl, rfl, fun z => absurd z (by decide)⟩

end
section
set_option maxHeartbeats 1600000
/-! what is seen of the tape and of the last fault, on both sides: bytes below the length, the length, the fault -/
abbrev Ob9 : Type := (Nat → Int32) × Int32 × Int32
def mkO9 (f : Nat → Int32) (n x : Int32) : Ob9 := (fun j => if j < n.toInt.toNat then f j else 0, n, x)
def oR9 (σ : rS) : Ob9 := mkO9 (σ.2.2.1 1) (σ.1 2) (σ.1 53)
theorem oR_k9 {σ τ : rS} (h2 : τ.1 2 = σ.1 2) (h53 : τ.1 53 = σ.1 53) (h1 : τ.2.2.1 1 = σ.2.2.1 1) : oR9 τ = oR9 σ := by
  unfold oR9
  rw [h2, h53, h1]
/-- end -/
def trO9 (w : Ob9) (m : Int32) : Ob9 := if 0 ≤ m ∧ m ≤ w.2.1 then mkO9 w.1 m w.2.2 else w
theorem tr_m9 {f : Nat → Int32} {n x m : Int32} (h : 0 ≤ m ∧ m ≤ n) : trO9 (mkO9 f n x) m = mkO9 f m x := by
  unfold trO9
  rw [if_pos (show 0 ≤ m ∧ m ≤ (mkO9 f n x).2.1 from h)]
  refine Prod.ext (funext fun j => ?_) rfl
  show (if j < m.toInt.toNat then (if j < n.toInt.toNat then f j else 0) else 0) = if j < m.toInt.toNat then f j else 0
  by_cases c : j < m.toInt.toNat
  · have z := h.2
    rw [lei] at z
    rw [if_pos c, if_pos c, if_pos (by omega)]
  · rw [if_neg c, if_neg c]
theorem tr_n9 {f : Nat → Int32} {n x m : Int32} (h : ¬ (0 ≤ m ∧ m ≤ n)) : trO9 (mkO9 f n x) m = mkO9 f n x := if_neg h
/-- a byte of a word -/
def bw9 (w : Int32) (i : Nat) : Int32 := vp_nar .byte (Int8.toInt32 (Int32.toInt8 (w >>> (((24 : Int32) - 8 * Int32.ofNat i) &&& 31))))
def vs9 (a b c d e : Int32) (i : Nat) : Int32 := if i < 4 then a else if i < 8 then b else if i < 12 then c else if i < 16 then d else e
def by9 (a b c d e : Int32) (i : Nat) : Int32 := bw9 (vs9 a b c d e i) (i % 4)
/-- feed -/
def fdO9 (w : Ob9) (G : Nat → Int32) : Ob9 := (fun j => if j < w.2.1.toInt.toNat then w.1 j else if j < w.2.1.toInt.toNat + 20 then G (j - w.2.1.toInt.toNat) else 0, w.2.1 + 20, w.2.2)
theorem fd_m9 {f f' G : Nat → Int32} {n n' x : Int32} (h0 : 0 ≤ n.toInt) (h60 : n.toInt ≤ 60000) (hn : n' = n + 20) (h1 : ∀ j, j < n.toInt.toNat → f' j = f j) (h2 : ∀ i, i < 20 → f' (n.toInt.toNat + i) = G i) : mkO9 f' n' x = fdO9 (mkO9 f n x) G := by
  subst hn
  have t20 : (20 : Int32).toInt = 20 := rfl
  have e : (n + 20).toInt = n.toInt + 20 := by rw [add_i (by rw [t20]; omega) (by rw [t20]; omega), t20]
  refine Prod.ext (funext fun j => ?_) rfl
  show (if j < (n + 20).toInt.toNat then f' j else 0) = if j < n.toInt.toNat then (if j < n.toInt.toNat then f j else 0) else if j < n.toInt.toNat + 20 then G (j - n.toInt.toNat) else 0
  by_cases c : j < n.toInt.toNat
  · rw [if_pos (by omega), if_pos c, if_pos c, h1 j c]
  · rw [if_neg c]
    by_cases c2 : j < n.toInt.toNat + 20
    · rw [if_pos (by omega), if_pos c2]
      have z := h2 (j - n.toInt.toNat) (by omega)
      rw [show n.toInt.toNat + (j - n.toInt.toNat) = j by omega] at z
      exact z
    · rw [if_neg (by omega), if_neg c2]
theorem mk_e9 {f f' : Nat → Int32} {n n' x x' : Int32} (h : mkO9 f n x = mkO9 f' n' x') : n = n' ∧ x = x' ∧ ∀ j, j < n.toInt.toNat → f j = f' j := by
  have e1 : n = n' := congrArg (fun w : Ob9 => w.2.1) h
  have e2 : x = x' := congrArg (fun w : Ob9 => w.2.2) h
  refine ⟨e1, e2, fun j hj => ?_⟩
  have z : (if j < n.toInt.toNat then f j else 0) = if j < n'.toInt.toNat then f' j else 0 := congrFun (congrArg (fun w : Ob9 => w.1) h) j
  rw [← e1, if_pos hj, if_pos hj] at z
  exact z
theorem mk_09 {f : Nat → Int32} {x : Int32} : mkO9 f 0 x = ((fun _ => 0, 0, x) : Ob9) := by
  refine Prod.ext (funext fun j => ?_) rfl
  show (if j < (0 : Int32).toInt.toNat then f j else 0) = 0
  exact if_neg (by show ¬ j < 0; omega)
theorem sh_49 : ∀ k, k < 20 → (((24 : Int32) - ((8 : Int32) * (Int32.ofNat k &&& (3 : Int32)))) &&& 31) = (((24 : Int32) - 8 * Int32.ofNat (k % 4)) &&& 31) := by decide
/-- the reference: fault, by what it answers -/
theorem fault_c9 {C : rCx} (hC : cOK C) {σ : rS} {Q : Int32 → rS → Prop} (h : ∀ (σ' : rS), ((∀ k, k ≠ 0 → σ'.1 k = σ.1 k) ∧ σ'.2 = σ.2) → Q (σ.1 53) σ') : cI C 0 m_fault [.ref (co C)] σ Q := by
  refine m_fault_run hC ?_
  unfold w_fault_0
  intro σ1 h1
  have e : σ1.1 53 = σ.1 53 := by rw [h1, si1, if_neg (by decide)]
  rw [e]
  exact h σ1 ⟨fun k hk => by rw [h1, si1, if_neg hk], by rw [h1, si2]⟩
/-- what a call keeps: tape, fault and code -/
def pR7 (σ τ : rS) : Prop := oR9 τ = oR9 σ ∧ kR7 σ τ
/-- what a call keeps: what was explored as well -/
def pR8 (σ τ : rS) : Prop := pR7 σ τ ∧ kS8 σ τ
theorem kS_f8 {σ τ : rS} (hf : ∀ k, k ∈ ke8 → τ.1 k = σ.1 k) (hr : ∀ k, k ∈ kx8 → τ.2.2.1 k = σ.2.2.1 k) : kS8 σ τ := ⟨hf, hr⟩

end
section
set_option maxHeartbeats 1600000
/-! the reference: what holds between calls -/
theorem nu_k {σ τ : rS} {k : Nat} (g : τ.2.2.1 91 k = σ.2.2.1 91 k ∧ ∀ i, i < 40000 → τ.2.2.1 90 (40000 * k + i) = σ.2.2.1 90 (40000 * k + i)) (h : numO σ k) : numO τ k ∧ nV τ k = nV σ k ∧ nL τ k = nL σ k := by
  have el : nL τ k = nL σ k := by show (τ.2.2.1 91 k).toNatClampNeg = _; rw [g.1]
  have le := nL_le h
  refine ⟨⟨by rw [g.1]; exact h.1, by rw [g.1]; exact h.2.1, fun i hi => ?_, ?_⟩, ?_, el⟩
  · rw [el] at hi
    rw [g.2 i (by omega)]; exact h.2.2.1 i hi
  · rw [el]
    rcases h.2.2.2 with z | ⟨m, z1, z2⟩
    · exact Or.inl z
    · exact Or.inr ⟨m, z1, by rw [g.2 m (by omega)]; exact z2⟩
  · unfold nV
    rw [el]
    exact dv_congr (fun i hi => g.2 i (by omega))
abbrev rjP : List Nat := [15, 16, 17, 18, 19, 40, 41, 42]
abbrev rjQ : List Nat := [5, 7, 20, 22, 23, 24, 25, 26, 27, 28, 29, 30, 31, 32, 33, 34, 35, 36, 37, 38, 39, 43, 44]
/-- the book and the tape -/
def jBk (σ : rS) : Prop := (σ.1 3 = 0 ∨ σ.1 3 = 65537) ∧ tyAll σ ∧ (σ.1 14 ≠ 0 → ∃ T, progOK σ (σ.1 3) T)
def jVs (σ : rS) : Prop := σ.1 94 ≠ 0 → ∀ k, k < (σ.1 70).toNatClampNeg → vOK σ k
def jWo (σ : rS) : Prop := σ.1 114 ≠ 0 → ∀ k, k < (σ.1 70).toNatClampNeg → wkO σ 115 116 k
/-- what holds between calls -/
def rJ (σ : rS) : Prop := (0 ≤ σ.1 2 ∧ σ.1 2 ≤ 65536) ∧ jBk σ ∧ exP σ ∧ jVs σ ∧ jWo σ ∧ plN σ ∧ shO σ ∧ 0 ≤ σ.1 104 ∧ σ.1 104 ≤ 200
theorem ty_g9 {σ τ : rS} (h : tyAll σ) (ff : ∀ k, k ∈ rjP → τ.1 k = σ.1 k) (rr : ∀ k, k ∈ rjQ → τ.2.2.1 k = σ.2.2.1 k) : tyAll τ := by
  obtain ⟨g1, g3, g4, g5, g6⟩ := h
  refine ⟨?_, ?_, ?_, ?_, by rw [rr 37 (by decide)]; exact g6⟩
  · show tyF _ _ _ _ _ _ _ _
    rw [ff 15 (by decide), ff 16 (by decide), ff 17 (by decide), ff 18 (by decide), ff 19 (by decide), ff 40 (by decide), ff 41 (by decide), ff 42 (by decide)]
    exact g1
  · show tyN _ _ _ _ _ _
    rw [rr 20 (by decide), rr 22 (by decide), rr 25 (by decide), rr 28 (by decide), rr 26 (by decide), rr 27 (by decide)]
    exact g3
  · show tyA _ _
    rw [rr 23 (by decide), rr 24 (by decide)]
    exact g4
  · show tyS _ _ _ _ _ _ _ _
    rw [rr 29 (by decide), rr 33 (by decide), rr 34 (by decide), rr 35 (by decide), rr 36 (by decide), rr 38 (by decide), rr 43 (by decide), rr 44 (by decide)]
    exact g5
theorem jBk_o {σ τ : rS} (h : jBk σ) (h3 : τ.1 3 = σ.1 3) (h14 : τ.1 14 = σ.1 14) (ff : ∀ k, k ∈ rjP → τ.1 k = σ.1 k) (rr : ∀ k, k ∈ rjQ → τ.2.2.1 k = σ.2.2.1 k) : jBk τ := by
  refine ⟨by rw [h3]; exact h.1, ty_g9 h.2.1 ff rr, fun z => ?_⟩
  rw [h14] at z
  obtain ⟨T, g⟩ := h.2.2 z
  exact ⟨T, by rw [h3]; exact (rI_gen ⟨h.2.1, g⟩ ff rr).2⟩
theorem jVs_o {σ τ : rS} (h : jVs σ) (h94 : τ.1 94 ≠ 0 → σ.1 94 ≠ 0) (h70 : τ.1 70 = σ.1 70) (r : τ.2.2.1 102 = σ.2.2.1 102) : jVs τ := fun z k hk => vOK_f r (h (h94 z) k (by rw [← h70]; exact hk))
theorem jWo_o {σ τ : rS} (h : jWo σ) (h114 : τ.1 114 ≠ 0 → σ.1 114 ≠ 0) (h70 : τ.1 70 = σ.1 70) (r : τ.2.2.1 115 = σ.2.2.1 115) (r2 : τ.2.2.1 116 = σ.2.2.1 116) : jWo τ := fun z k hk => wkO_f r r2 (h (h114 z) k (by rw [← h70]; exact hk))
theorem plN_o {σ τ : rS} (h : plN σ) (h106 : τ.1 106 ≠ -1 → σ.1 106 ≠ -1) (hn : ∀ k, k = 17 ∨ k = 18 → τ.2.2.1 91 k = σ.2.2.1 91 k ∧ ∀ i, i < 40000 → τ.2.2.1 90 (40000 * k + i) = σ.2.2.1 90 (40000 * k + i)) : plN τ := by
  intro z
  have q := h (h106 z)
  have a := nu_k (hn 17 (Or.inl rfl)) q.1
  have b := nu_k (hn 18 (Or.inr rfl)) q.2.1
  rw [a.2.2, b.2.2, b.2.1]
  exact ⟨a.1, b.1, q.2.2⟩
theorem shO_o {σ τ : rS} (h : shO σ) (h103 : τ.1 103 = σ.1 103) (hn : ∀ k, k = 15 ∨ k = 16 → τ.2.2.1 91 k = σ.2.2.1 91 k ∧ ∀ i, i < 40000 → τ.2.2.1 90 (40000 * k + i) = σ.2.2.1 90 (40000 * k + i)) : shO τ := by
  intro z
  rw [h103] at z
  have q := h z
  exact ⟨(nu_k (hn 15 (Or.inl rfl)) q.1).1, (nu_k (hn 16 (Or.inr rfl)) q.2).1⟩
theorem rj34 {σ : rS} (h : tyAll σ) : 0 ≤ σ.1 15 + σ.1 17 ∧ σ.1 15 + σ.1 17 ≤ 34 := by
  have g : tyF _ _ _ _ _ _ _ _ := h.1
  obtain ⟨a0, a1, b0, b1, c0, c1, -⟩ := g
  generalize σ.1 15 = v at *
  generalize σ.1 16 = r at *
  generalize σ.1 17 = c at *
  have c24 : c ≤ 24 := by
    have e : r = 0 ∨ r = 1 ∨ r = 2 ∨ r = 3 := by grind
    rcases e with e | e | e | e <;> rw [e] at c1 <;> exact Int32.le_trans c1 (by decide)
  grind
abbrev rjF : List Nat := [3, 14, 15, 16, 17, 18, 19, 40, 41, 42, 70, 71, 72, 88, 94, 103, 106, 114]
abbrev rjR : List Nat := [5, 7, 20, 22, 23, 24, 25, 26, 27, 28, 29, 30, 31, 32, 33, 34, 35, 36, 37, 38, 39, 43, 44, 73, 76, 77, 78, 79, 80, 81, 83, 102, 115, 116]
def rjN (σ τ : rS) : Prop := ∀ k, 14 < k → k < 19 → τ.2.2.1 91 k = σ.2.2.1 91 k ∧ ∀ i, i < 40000 → τ.2.2.1 90 (40000 * k + i) = σ.2.2.1 90 (40000 * k + i)
theorem rjN_r {σ τ : rS} (h0 : τ.2.2.1 90 = σ.2.2.1 90) (h1 : τ.2.2.1 91 = σ.2.2.1 91) : rjN σ τ := fun k _ _ => ⟨by rw [h1], fun i _ => by rw [h0]⟩
theorem rjN_l {l : List Nat} {σ τ : rS} (h : ∀ k, k ∉ l → τ.2.2.1 91 k = σ.2.2.1 91 k ∧ ∀ i, i < 40000 → τ.2.2.1 90 (40000 * k + i) = σ.2.2.1 90 (40000 * k + i)) (hl : 15 ∉ l ∧ 16 ∉ l ∧ 17 ∉ l ∧ 18 ∉ l) : rjN σ τ := fun k z1 z2 => h k (by
  have e : k = 15 ∨ k = 16 ∨ k = 17 ∨ k = 18 := by omega
  rcases e with e | e | e | e <;> rw [e]
  · exact hl.1
  · exact hl.2.1
  · exact hl.2.2.1
  · exact hl.2.2.2)
/-- a call that changes nothing of it but the tape's size and the draws told -/
theorem rJ_c {σ τ : rS} (h : rJ σ) (h2 : 0 ≤ τ.1 2 ∧ τ.1 2 ≤ 65536) (h104 : 0 ≤ τ.1 104 ∧ τ.1 104 ≤ 200) (hf : ∀ k, k ∈ rjF → τ.1 k = σ.1 k) (hr : ∀ k, k ∈ rjR → τ.2.2.1 k = σ.2.2.1 k) (hn : rjN σ τ) : rJ τ := by
  obtain ⟨g1, g2, g3, g4, g5, g6, g7, g8⟩ := h
  refine ⟨h2, jBk_o g2 (hf 3 (by decide)) (hf 14 (by decide)) (fun k hk => hf k ((by decide : ∀ k, k ∈ rjP → k ∈ rjF) k hk)) (fun k hk => hr k ((by decide : ∀ k, k ∈ rjQ → k ∈ rjR) k hk)), exP_o g3 (fun k hk => hf k (by rcases hk with z | z | z | z <;> rw [z] <;> decide)) (fun k hk => hr k (by rcases hk with z | z | z | z | z | z | z | z <;> rw [z] <;> decide)), jVs_o g4 (by rw [hf 94 (by decide)]; exact fun z => z) (hf 70 (by decide)) (hr 102 (by decide)), jWo_o g5 (by rw [hf 114 (by decide)]; exact fun z => z) (hf 70 (by decide)) (hr 115 (by decide)) (hr 116 (by decide)), plN_o g6 (by rw [hf 106 (by decide)]; exact fun z => z) (fun k hk => hn k (by omega) (by omega)), shO_o g7 (hf 103 (by decide)) (fun k hk => hn k (by omega) (by omega)), h104⟩
theorem rJ_G {σ τ : rS} (h : rJ σ) (f : frG [0] [] σ τ) : rJ τ ∧ pR8 σ τ := ⟨rJ_c h (by rw [f.1 2 (by decide)]; exact h.1) (by rw [f.1 104 (by decide)]; exact h.2.2.2.2.2.2.2) (fun k hk => f.1 k ((by decide : ∀ k, k ∈ rjF → k ∉ [0]) k hk)) (fun k _ => f.2.2.1 k List.not_mem_nil) (rjN_r (f.2.2.1 90 List.not_mem_nil) (f.2.2.1 91 List.not_mem_nil)), ⟨⟨oR_k9 (f.1 2 (by decide)) (f.1 53 (by decide)) (f.2.2.1 1 List.not_mem_nil), kR_f7 (fun k hk => f.1 k ((by decide : ∀ k, k ∈ kf7 → k ∉ [0]) k hk)) (fun k _ => f.2.2.1 k List.not_mem_nil) (fun j => f.2.2.2 8 j)⟩, kS_f8 (fun k hk => f.1 k ((by decide : ∀ k, k ∈ ke8 → k ∉ [0]) k hk)) (fun k _ => f.2.2.1 k List.not_mem_nil)⟩⟩
theorem rJ_T {σ τ : rS} (h : rJ σ) (f : frT [0] [] σ τ) : rJ τ ∧ pR8 σ τ := ⟨rJ_c h (by rw [f.1 2 (by decide)]; exact h.1) (by rw [f.1 104 (by decide)]; exact h.2.2.2.2.2.2.2) (fun k hk => f.1 k ((by decide : ∀ k, k ∈ rjF → k ∉ [0]) k hk)) (fun k hk => f.2.2.1 k ((by decide : ∀ k, k ∈ rjR → k ≠ 90) k hk) ((by decide : ∀ k, k ∈ rjR → k ≠ 91) k hk)) (rjN_l f.2.2.2.2 (by decide)), ⟨⟨oR_k9 (f.1 2 (by decide)) (f.1 53 (by decide)) (f.2.2.1 1 (by decide) (by decide)), kR_f7 (fun k hk => f.1 k ((by decide : ∀ k, k ∈ kf7 → k ∉ [0]) k hk)) (fun k hk => f.2.2.1 k ((by decide : ∀ k, k ∈ kz7 → k ≠ 90) k hk) ((by decide : ∀ k, k ∈ kz7 → k ≠ 91) k hk)) (fun j => by rw [f.2.2.2.1])⟩, kS_f8 (fun k hk => f.1 k ((by decide : ∀ k, k ∈ ke8 → k ∉ [0]) k hk)) (fun k hk => f.2.2.1 k ((by decide : ∀ k, k ∈ kx8 → k ≠ 90) k hk) ((by decide : ∀ k, k ∈ kx8 → k ≠ 91) k hk))⟩⟩
theorem rJ_U {σ τ : rS} (h : rJ σ) (f : frU ifF ifR ifL σ τ) : rJ τ ∧ pR8 σ τ := ⟨rJ_c h (by rw [f.1 2 (by decide)]; exact h.1) (by rw [f.1 104 (by decide)]; exact h.2.2.2.2.2.2.2) (fun k hk => f.1 k ((by decide : ∀ k, k ∈ rjF → k ∉ ifF) k hk)) (fun k hk => f.2.2.1 k ((by decide : ∀ k, k ∈ rjR → k ≠ 90) k hk) ((by decide : ∀ k, k ∈ rjR → k ≠ 91) k hk) ((by decide : ∀ k, k ∈ rjR → k ∉ ifR) k hk)) (rjN_l f.2.2.2.2 (by decide)), ⟨⟨oR_k9 (f.1 2 (by decide)) (f.1 53 (by decide)) (f.2.2.1 1 (by decide) (by decide) (by decide)), kR_f7 (fun k hk => f.1 k ((by decide : ∀ k, k ∈ kf7 → k ∉ ifF) k hk)) (fun k hk => f.2.2.1 k ((by decide : ∀ k, k ∈ kz7 → k ≠ 90) k hk) ((by decide : ∀ k, k ∈ kz7 → k ≠ 91) k hk) ((by decide : ∀ k, k ∈ kz7 → k ∉ ifR) k hk)) (fun j => by rw [f.2.2.2.1])⟩, kS_f8 (fun k hk => f.1 k ((by decide : ∀ k, k ∈ ke8 → k ∉ ifF) k hk)) (fun k hk => f.2.2.1 k ((by decide : ∀ k, k ∈ kx8 → k ≠ 90) k hk) ((by decide : ∀ k, k ∈ kx8 → k ≠ 91) k hk) ((by decide : ∀ k, k ∈ kx8 → k ∉ ifR) k hk))⟩⟩
section calls
variable {C : rCx} {σ : rS} {a1 a2 a3 a4 a5 : Int32}
theorem count_j (hC : cOK C) (J : rJ σ) {Q : Int32 → rS → Prop} (h : ∀ v σ', rJ σ' → pR8 σ σ' → Q v σ') : cI C 1 m_count [.ref (co C), .int a1] σ Q := count_c hC ⟨J.2.2.1.1.1.1, J.2.2.1.1.1.2⟩ (fun v σ' q => h v σ' (rJ_G J q).1 (rJ_G J q).2)
theorem state_j (hC : cOK C) (J : rJ σ) {Q : Int32 → rS → Prop} (h : ∀ v σ', rJ σ' → pR8 σ σ' → Q v σ') : cI C 1 m_state [.ref (co C), .int a1, .int a2] σ Q := state_c hC J.2.2.1 (fun v σ' q => h v σ' (rJ_G J q).1 (rJ_G J q).2)
theorem value_j (hC : cOK C) (J : rJ σ) {Q : Int32 → rS → Prop} (h : ∀ v σ', rJ σ' → pR8 σ σ' → Q v σ') : cI C 1 m_value [.ref (co C), .int a1, .int a2, .int a3] σ Q := value_c hC ⟨J.2.2.1, J.2.1.2.1⟩ (fun v σ' q => h v σ' (rJ_G J q).1 (rJ_G J q).2)
theorem next_j (hC : cOK C) (J : rJ σ) {Q : Int32 → rS → Prop} (h : ∀ v σ', rJ σ' → pR8 σ σ' → Q v σ') : cI C 1 m_next [.ref (co C), .int a1, .int a2, .int a3] σ Q := next_c hC J.2.2.1 (fun v σ' q => h v σ' (rJ_G J q).1 (rJ_G J q).2)
theorem ending_j (hC : cOK C) (J : rJ σ) {Q : Int32 → rS → Prop} (h : ∀ v σ', rJ σ' → pR8 σ σ' → Q v σ') : cI C 0 m_ending [.ref (co C), .int a1, .int a2] σ Q := ending_c hC ⟨J.2.2.1, J.2.1.2.1⟩ (fun v σ' q => h v σ' (rJ_G J q).1 (rJ_G J q).2)
theorem decided_j (hC : cOK C) (J : rJ σ) {Q : Int32 → rS → Prop} (h : ∀ v σ', rJ σ' → pR8 σ σ' → Q v σ') : cI C 1 m_decided [.ref (co C), .int a1] σ Q := decided_c hC J.2.2.1 (fun v σ' q => h v σ' (rJ_G J q).1 (rJ_G J q).2)
theorem size_j (hC : cOK C) (J : rJ σ) {Q : Int32 → rS → Prop} (h : ∀ v σ', rJ σ' → pR8 σ σ' → Q v σ') : cI C 1 m_size [.ref (co C), .int a1] σ Q := size_c hC J.2.2.2.2.2.2.1 (fun v σ' q => h v σ' (rJ_T J q).1 (rJ_T J q).2)
theorem limb_j (hC : cOK C) (J : rJ σ) {Q : Int32 → rS → Prop} (h : ∀ v σ', rJ σ' → pR8 σ σ' → Q v σ') : cI C 1 m_limb [.ref (co C), .int a1, .int a2] σ Q := limb_c hC J.2.2.2.2.2.2.1 (fun v σ' q => h v σ' (rJ_T J q).1 (rJ_T J q).2)
theorem played_j (hC : cOK C) (J : rJ σ) {Q : Int64 → rS → Prop} (h : ∀ v σ', rJ σ' → pR8 σ σ' → Q v σ') : cJ C 0 m_played [.ref (co C), .int a1] σ Q := played_c hC (rj34 J.2.1.2.1) (fun v σ' q => h v σ' (rJ_T J q).1 (rJ_T J q).2)
theorem independent_j (hC : cOK C) (J : rJ σ) {Q : Int32 → rS → Prop} (h : ∀ v σ', rJ σ' → pR8 σ σ' → Q v σ') : cI C 9 m_independent [.ref (co C), .int a1, .int a2] σ Q := independent_c hC _ ⟨pOK_of J.2.2.1, rfl, J.2.2.2.1, (rj34 J.2.1.2.1).2⟩ (fun v σ' q => h v σ' (rJ_U J q).1 (rJ_U J q).2)
theorem given_j (hC : cOK C) (J : rJ σ) {Q : Int32 → rS → Prop} (h : ∀ v σ', rJ σ' → pR8 σ σ' → Q v σ') : cI C 9 m_given [.ref (co C), .int a1, .int a2, .int a3] σ Q := given_c hC _ ⟨pOK_of J.2.2.1, rfl, J.2.2.2.1, (rj34 J.2.1.2.1).2⟩ (fun v σ' q => h v σ' (rJ_U J q).1 (rJ_U J q).2)
end calls

end
section
set_option maxHeartbeats 1600000
/-! the reference: feed by its bytes; feed, end, fault, tell, forget -/
/-- on feed's way: the bytes written so far -/
def fbI9 (a b c d e : Int32) (σ : rS) (l : Int32) (τ : rS) : Prop := (∀ j, j < (σ.1 2).toInt.toNat → τ.2.2.1 1 j = σ.2.2.1 1 j) ∧ (∀ i : Nat, (i : Int) < l.toInt → τ.2.2.1 1 ((σ.1 2).toInt.toNat + i) = by9 a b c d e i)
theorem fb_09 {a b c d e x : Int32} {σ : rS} : fbI9 a b c d e σ 0 (siU σ 0 x) := ⟨fun _ _ => rfl, fun i hi => absurd hi (by rw [t0i]; omega)⟩
theorem fb_s9 {a b c d e l s0 : Int32} {σ τ : rS} (h0 : 0 ≤ σ.1 2) (h60 : σ.1 2 ≤ 60000) (h2 : τ.1 2 = σ.1 2 + l) (l0 : 0 ≤ l) (l20 : l < 20) (hs : s0 = vs9 a b c d e l.toInt.toNat) (h : fbI9 a b c d e σ l τ) : fbI9 a b c d e σ (l + 1) (siU (riU τ 1 (τ.1 2).toNatClampNeg (vp_nar .byte ((s0 >>> (((24 : Int32) - ((8 : Int32) * (l &&& (3 : Int32)))) &&& 31))).toInt8.toInt32)) 2 ((riU τ 1 (τ.1 2).toNatClampNeg (vp_nar .byte ((s0 >>> (((24 : Int32) - ((8 : Int32) * (l &&& (3 : Int32)))) &&& 31))).toInt8.toInt32)).1 2 + 1)) := by
  have t60 : (60000 : Int32).toInt = 60000 := rfl
  have t20 : (20 : Int32).toInt = 20 := rfl
  rw [lei, t0i] at h0 l0
  rw [lei, t60] at h60
  rw [lti, t20] at l20
  have e2 : (τ.1 2).toInt = (σ.1 2).toInt + l.toInt := by rw [h2, add_i (by omega) (by omega)]
  have el : (l + 1).toInt = l.toInt + 1 := by rw [add_i (by rw [t1i]; omega) (by rw [t1i]; omega), t1i]
  have ci : (τ.1 2).toNatClampNeg = (σ.1 2).toInt.toNat + l.toInt.toNat := by
    have z := cnk (x := τ.1 2) (by omega)
    omega
  have lo : l = Int32.ofNat l.toInt.toNat := Int32.toInt_inj.mp (by rw [ofn_i (by omega)]; omega)
  have sh : (((24 : Int32) - ((8 : Int32) * (l &&& (3 : Int32)))) &&& 31) = (((24 : Int32) - 8 * Int32.ofNat (l.toInt.toNat % 4)) &&& 31) := by
    have z := sh_49 l.toInt.toNat (by omega)
    rw [← lo] at z
    exact z
  have rw1 : ∀ j, (siU (riU τ 1 (τ.1 2).toNatClampNeg (vp_nar .byte ((s0 >>> (((24 : Int32) - ((8 : Int32) * (l &&& (3 : Int32)))) &&& 31))).toInt8.toInt32)) 2 ((riU τ 1 (τ.1 2).toNatClampNeg (vp_nar .byte ((s0 >>> (((24 : Int32) - ((8 : Int32) * (l &&& (3 : Int32)))) &&& 31))).toInt8.toInt32)).1 2 + 1)).2.2.1 1 j = if j = (σ.1 2).toInt.toNat + l.toInt.toNat then by9 a b c d e l.toInt.toNat else τ.2.2.1 1 j := fun j => by
    show (riU τ 1 (τ.1 2).toNatClampNeg _).2.2.1 1 j = _
    rw [ri4, ci]
    unfold by9 bw9
    rw [← hs, sh]
  refine ⟨fun j hj => ?_, fun i hi => ?_⟩
  · rw [rw1, if_neg (by omega)]
    exact h.1 j hj
  · rw [rw1]
    rw [el] at hi
    by_cases q : i = l.toInt.toNat
    · rw [if_pos (by omega), q]
    · rw [if_neg (by omega)]
      exact h.2 i (by omega)
theorem feed_c9 {C : rCx} (hC : cOK C)  {σ : rS} {a1 : Int32} {a2 : Int32} {a3 : Int32} {a4 : Int32} {a5 : Int32} {Q : Int32 → rS → Prop} (hp : 0 ≤ σ.1 2 ∧ σ.1 2 ≤ 60000) (h : ∀ (v : Int32) (σ' : rS), (((∀ k, k ≠ 0 → k ≠ 2 → σ'.1 k = σ.1 k) ∧ (∀ k,  σ'.2.1 k = σ.2.1 k) ∧ (∀ k, k ≠ 1 → σ'.2.2.1 k = σ.2.2.1 k) ∧ (∀ k j, k ≠ 1 → σ'.2.2.1 k j = σ.2.2.1 k j) ∧ (∀ k j,  σ'.2.2.2 k j = σ.2.2.2 k j)) ∧ 0 ≤ σ'.1 2 ∧ σ'.1 2 ≤ 65536 ∧ v = σ.1 2 + 20 ∧ σ'.1 2 = σ.1 2 + 20 ∧ σ'.1 0 = 0 ∧ (∀ j, j < (σ.1 2).toInt.toNat → σ'.2.2.1 1 j = σ.2.2.1 1 j) ∧ (∀ i, i < 20 → σ'.2.2.1 1 ((σ.1 2).toInt.toNat + i) = by9 a1 a2 a3 a4 a5 i)) → Q v σ') : cI C 0 m_feed [.ref (co C), .int a1, .int a2, .int a3, .int a4, .int a5] σ Q := by
  refine m_feed_run hC ?_
  unfold w_feed_0
  have hj18 : ∀ (l1 : Int32) (l2 : Int32) (l3 : Int32) (l4 : Int32) (l5 : Int32) (s1 : Int32) (τ : rS), (l1 = a1 ∧ l2 = a2 ∧ l3 = a3 ∧ l4 = a4 ∧ l5 = a5 ∧ τ = σ ∧ s1 = 0) → w_feed_18 C Q  l1 l2 l3 l4 l5 s1 τ := by
    rintro y18_1 y18_2 y18_3 y18_4 y18_5 y18_s1 τ18 j18
    unfold w_feed_18
    intro σ_1 hσ_1
    refine ⟨fun c2 => ?_, fun c2 => ?_⟩
    · skip
      unfold w_feed_33
      refine ⟨fun n l1 l2 l3 l4 l5 l6 τ => n = (20 - l6).toNatClampNeg ∧ (l1 = a1 ∧ l2 = a2 ∧ l3 = a3 ∧ l4 = a4 ∧ l5 = a5 ∧ ((∀ k, k ≠ 0 → k ≠ 2 → τ.1 k = σ.1 k) ∧ (∀ k,  τ.2.1 k = σ.2.1 k) ∧ (∀ k, k ≠ 1 → τ.2.2.1 k = σ.2.2.1 k) ∧ (∀ k j, k ≠ 1 → τ.2.2.1 k j = σ.2.2.1 k j) ∧ (∀ k j,  τ.2.2.2 k j = σ.2.2.2 k j)) ∧ τ.1 0 = 0 ∧ τ.1 2 = σ.1 2 + l6 ∧ 0 ≤ l6 ∧ l6 ≤ 20 ∧ σ.1 2 + 20 ≤ 65536 ∧ fbI9 a1 a2 a3 a4 a5 σ l6 τ), ⟨_, rfl, ?_⟩, ?_⟩
      · clear h
        obtain ⟨j1, j2, j3, j4, j5, j6, j7⟩ := j18
        have fb : fbI9 a1 a2 a3 a4 a5 σ 0 σ_1 := by
          rw [hσ_1, j6]
          exact fb_09
        refine ⟨j1, j2, j3, j4, j5, ?_, ?_, ?_, by decide, by decide, ?_, fb⟩
        · grind (splits := 24) [si1, si2, ri1, ri2, ri3, ri34, ri5, ob_ri, ob_si2, ob_only, ob_refl, vb5]
        · grind (splits := 24) [si1, si2, ri1, ri2, ri3, ri34, ri5, ob_ri, ob_si2, ob_only, ob_refl, vb5]
        · grind (splits := 24) [si1, si2, ri1, ri2, ri3, ri34, ri5, ob_ri, ob_si2, ob_only, ob_refl, vb5]
        · clear fb; grind (splits := 24) [si1, si2, ri1, ri2, ri3, ri34, ri5, ob_ri, ob_si2, ob_only, ob_refl, vb5]
      rintro n33 x33_1 x33_2 x33_3 x33_4 x33_5 x33_6 σ33 ⟨hn33, i33⟩
      have hj86 : ∀ (l1 : Int32) (l2 : Int32) (l3 : Int32) (l4 : Int32) (l5 : Int32) (l6 : Int32) (s0 : Int32) (τ : rS), (l1 = a1 ∧ l2 = a2 ∧ l3 = a3 ∧ l4 = a4 ∧ l5 = a5 ∧ τ = σ33 ∧ l6 = x33_6 ∧ l6 < 20 ∧ s0 = vs9 a1 a2 a3 a4 a5 l6.toInt.toNat) → w_feed_86 C Q (fun l1' l2' l3' l4' l5' l6' τ => ∃ k < n33, (fun n l1 l2 l3 l4 l5 l6 τ => n = (20 - l6).toNatClampNeg ∧ (l1 = a1 ∧ l2 = a2 ∧ l3 = a3 ∧ l4 = a4 ∧ l5 = a5 ∧ ((∀ k, k ≠ 0 → k ≠ 2 → τ.1 k = σ.1 k) ∧ (∀ k,  τ.2.1 k = σ.2.1 k) ∧ (∀ k, k ≠ 1 → τ.2.2.1 k = σ.2.2.1 k) ∧ (∀ k j, k ≠ 1 → τ.2.2.1 k j = σ.2.2.1 k j) ∧ (∀ k j,  τ.2.2.2 k j = σ.2.2.2 k j)) ∧ τ.1 0 = 0 ∧ τ.1 2 = σ.1 2 + l6 ∧ 0 ≤ l6 ∧ l6 ≤ 20 ∧ σ.1 2 + 20 ≤ 65536 ∧ fbI9 a1 a2 a3 a4 a5 σ l6 τ)) k l1' l2' l3' l4' l5' l6' τ) l1 l2 l3 l4 l5 l6 s0 τ := by
        rintro y86_1 y86_2 y86_3 y86_4 y86_5 y86_6 y86_s0 τ86 j86
        unfold w_feed_86
        refine ⟨ib_65536.mpr ?_, ?_⟩
        · clear h; grind (splits := 24) [si1, si2, ri1, ri2, ri3, ri34, ri5, ob_ri, ob_si2, ob_only, ob_refl, vb5]  -- b2
        intro σ_3 hσ_3
        intro σ_4 hσ_4
        intro x5 hx5
        refine ⟨_, cn_lt2 hn33 ?_ ?_, rfl, ?_⟩
        · clear h; grind (splits := 24) [si1, si2, ri1, ri2, ri3, ri34, ri5, ob_ri, ob_si2, ob_only, ob_refl, vb5]  -- d3
        · clear h; grind (splits := 24) [si1, si2, ri1, ri2, ri3, ri34, ri5, ob_ri, ob_si2, ob_only, ob_refl, vb5]  -- d4
        · clear h
          obtain ⟨j1, j2, j3, j4, j5, j6, j7, j8, j9⟩ := j86
          obtain ⟨i1, i2, i3, i4, i5, i6, i7, i8, i9, i10, i11, fb⟩ := i33
          have fb2 : fbI9 a1 a2 a3 a4 a5 σ x5 σ_4 := by
            rw [hσ_4, hσ_3, j6, hx5, j7]
            exact fb_s9 hp.1 hp.2 i8 i9 (by rw [← j7]; exact j8) (by rw [← j7]; exact j9) fb
          refine ⟨j1, j2, j3, j4, j5, ?_, ?_, ?_, ?_, ?_, i11, fb2⟩ <;> (clear fb fb2; grind (splits := 24) [si1, si2, ri1, ri2, ri3, ri34, ri5, ob_ri, ob_si2, ob_only, ob_refl, vb5])
      refine ⟨fun c6 => ?_, fun c6 => ?_⟩
      · skip
        refine h _ _ ?_
        · clear h
          obtain ⟨i1, i2, i3, i4, i5, i6, i7, i8, i9, i10, i11, fb⟩ := i33
          have e6 : x33_6 = 20 := Int32.le_antisymm i10 c6
          rw [e6] at i8 fb
          refine ⟨i6, ?_, ?_, i8, i8, i7, fb.1, fun i hi => fb.2 i (by show (i : Int) < 20; omega)⟩ <;> (clear fb; grind (splits := 24) [si1, si2, ri1, ri2, ri3, ri34, ri5, ob_ri, ob_si2, ob_only, ob_refl, vb5])
      · skip
        refine ⟨fun c7 => ?_, fun c7 => ?_⟩
        · skip
          refine ⟨fun c8 => ?_, fun c8 => ?_⟩
          · skip
            refine ⟨fun c9 => ?_, fun c9 => ?_⟩
            · skip
              refine ⟨fun c10 => ?_, fun c10 => ?_⟩
              · skip
                refine hj86 _ _ _ _ _ _ _ _ ?_
                · clear h
                  obtain ⟨i1, i2, i3, i4, i5, i6, i7, i8, i9, i10, i11, fb⟩ := i33
                  refine ⟨i1, i2, i3, i4, i5, rfl, rfl, n_lt c6, ?_⟩
                  have t4 : (4 : Int32).toInt = 4 := rfl
                  have t8 : (8 : Int32).toInt = 8 := rfl
                  have t12 : (12 : Int32).toInt = 12 := rfl
                  have t16 : (16 : Int32).toInt = 16 := rfl
                  have t20 : (20 : Int32).toInt = 20 := rfl
                  rw [lei] at c6 i9 c7 c8 c9 c10
                  rw [t0i] at i9
                  unfold vs9
                  rw [if_neg (by omega), if_neg (by omega), if_neg (by omega), if_neg (by omega)]
                  exact i5
              · skip
                refine hj86 _ _ _ _ _ _ _ _ ?_
                · clear h
                  obtain ⟨i1, i2, i3, i4, i5, i6, i7, i8, i9, i10, i11, fb⟩ := i33
                  refine ⟨i1, i2, i3, i4, i5, rfl, rfl, n_lt c6, ?_⟩
                  have t4 : (4 : Int32).toInt = 4 := rfl
                  have t8 : (8 : Int32).toInt = 8 := rfl
                  have t12 : (12 : Int32).toInt = 12 := rfl
                  have t16 : (16 : Int32).toInt = 16 := rfl
                  have t20 : (20 : Int32).toInt = 20 := rfl
                  rw [lei] at c6 i9 c7 c8 c9 c10
                  rw [t0i] at i9
                  unfold vs9
                  rw [if_neg (by omega), if_neg (by omega), if_neg (by omega), if_pos (by omega)]
                  exact i4
            · skip
              refine hj86 _ _ _ _ _ _ _ _ ?_
              · clear h
                obtain ⟨i1, i2, i3, i4, i5, i6, i7, i8, i9, i10, i11, fb⟩ := i33
                refine ⟨i1, i2, i3, i4, i5, rfl, rfl, n_lt c6, ?_⟩
                have t4 : (4 : Int32).toInt = 4 := rfl
                have t8 : (8 : Int32).toInt = 8 := rfl
                have t12 : (12 : Int32).toInt = 12 := rfl
                have t16 : (16 : Int32).toInt = 16 := rfl
                have t20 : (20 : Int32).toInt = 20 := rfl
                rw [lei] at c6 i9 c7 c8 c9
                rw [t0i] at i9
                unfold vs9
                rw [if_neg (by omega), if_neg (by omega), if_pos (by omega)]
                exact i3
          · skip
            refine hj86 _ _ _ _ _ _ _ _ ?_
            · clear h
              obtain ⟨i1, i2, i3, i4, i5, i6, i7, i8, i9, i10, i11, fb⟩ := i33
              refine ⟨i1, i2, i3, i4, i5, rfl, rfl, n_lt c6, ?_⟩
              have t4 : (4 : Int32).toInt = 4 := rfl
              have t8 : (8 : Int32).toInt = 8 := rfl
              have t12 : (12 : Int32).toInt = 12 := rfl
              have t16 : (16 : Int32).toInt = 16 := rfl
              have t20 : (20 : Int32).toInt = 20 := rfl
              rw [lei] at c6 i9 c7 c8
              rw [t0i] at i9
              unfold vs9
              rw [if_neg (by omega), if_pos (by omega)]
              exact i2
        · skip
          refine hj86 _ _ _ _ _ _ _ _ ?_
          · clear h
            obtain ⟨i1, i2, i3, i4, i5, i6, i7, i8, i9, i10, i11, fb⟩ := i33
            refine ⟨i1, i2, i3, i4, i5, rfl, rfl, n_lt c6, ?_⟩
            have t4 : (4 : Int32).toInt = 4 := rfl
            have t8 : (8 : Int32).toInt = 8 := rfl
            have t12 : (12 : Int32).toInt = 12 := rfl
            have t16 : (16 : Int32).toInt = 16 := rfl
            have t20 : (20 : Int32).toInt = 20 := rfl
            rw [lei] at c6 i9 c7
            rw [t0i] at i9
            unfold vs9
            rw [if_pos (by omega)]
            exact i1
    · skip
      refine h _ _ ?_
      · clear h; grind (splits := 24) [si1, si2, ri1, ri2, ri3, ri34, ri5, ob_ri, ob_si2, ob_only, ob_refl, vb5]  -- q12
  refine ⟨fun c11 => ?_, fun c11 => ?_⟩
  · skip
    refine hj18 _ _ _ _ _ _ _ ?_
    · clear h; grind (splits := 24) [si1, si2, ri1, ri2, ri3, ri34, ri5, ob_ri, ob_si2, ob_only, ob_refl, vb5]  -- k13
  · skip
    refine hj18 _ _ _ _ _ _ _ ?_
    · clear h; grind (splits := 24) [si1, si2, ri1, ri2, ri3, ri34, ri5, ob_ri, ob_si2, ob_only, ob_refl, vb5]  -- k14

theorem end_c2 {C : rCx} (hC : cOK C)  {σ : rS} {a1 : Int32} {Q : rS → Prop} (hp : 0 ≤ σ.1 2 ∧ σ.1 2 ≤ 65536) (h : ∀ (σ' : rS), (((∀ k, k ≠ 0 → k ≠ 2 → σ'.1 k = σ.1 k) ∧ σ'.2 = σ.2) ∧ 0 ≤ σ'.1 2 ∧ σ'.1 2 ≤ 65536 ∧ ((0 ≤ a1 ∧ a1 ≤ σ.1 2) → σ'.1 0 = 0 ∧ σ'.1 2 = a1) ∧ (¬ (0 ≤ a1 ∧ a1 ≤ σ.1 2) → σ'.1 0 = 1 ∧ σ'.1 2 = σ.1 2)) → Q σ') : cV C 0 m_end [.ref (co C), .int a1] σ Q := by
  refine m_end_run hC ?_
  unfold w_end_0
  refine ⟨fun c1 => ?_, fun c1 => ?_⟩
  · skip
    unfold w_end_18
    intro σ_2 hσ_2
    refine ⟨fun c3 => ?_, fun c3 => ?_⟩
    · skip
      intro σ_4 hσ_4
      refine h _ ?_
      · clear h; grind (splits := 24) [si1, si2, ri1, ri2, ri3, ri34, ri5, ob_ri, ob_si2, ob_only, ob_refl, vb5]  -- q1
    · skip
      intro σ_5 hσ_5
      refine h _ ?_
      · clear h; grind (splits := 24) [si1, si2, ri1, ri2, ri3, ri34, ri5, ob_ri, ob_si2, ob_only, ob_refl, vb5]  -- q2
  · skip
    refine ⟨fun c6 => ?_, fun c6 => ?_⟩
    · skip
      unfold w_end_18
      intro σ_7 hσ_7
      refine ⟨fun c8 => ?_, fun c8 => ?_⟩
      · skip
        intro σ_9 hσ_9
        refine h _ ?_
        · clear h; grind (splits := 24) [si1, si2, ri1, ri2, ri3, ri34, ri5, ob_ri, ob_si2, ob_only, ob_refl, vb5]  -- q3
      · skip
        intro σ_10 hσ_10
        refine h _ ?_
        · clear h; grind (splits := 24) [si1, si2, ri1, ri2, ri3, ri34, ri5, ob_ri, ob_si2, ob_only, ob_refl, vb5]  -- q4
    · skip
      unfold w_end_18
      intro σ_11 hσ_11
      refine ⟨fun c12 => ?_, fun c12 => ?_⟩
      · skip
        intro σ_13 hσ_13
        refine h _ ?_
        · clear h; grind (splits := 24) [si1, si2, ri1, ri2, ri3, ri34, ri5, ob_ri, ob_si2, ob_only, ob_refl, vb5]  -- q5
      · skip
        intro σ_14 hσ_14
        refine h _ ?_
        · clear h; grind (splits := 24) [si1, si2, ri1, ri2, ri3, ri34, ri5, ob_ri, ob_si2, ob_only, ob_refl, vb5]  -- q6

theorem feed_j {C : rCx} {σ : rS} {a1 a2 a3 a4 a5 : Int32} (hC : cOK C) (J : rJ σ) (h60 : σ.1 2 ≤ 60000) {Q : Int32 → rS → Prop} (h : ∀ v σ', rJ σ' → (oR9 σ' = fdO9 (oR9 σ) (by9 a1 a2 a3 a4 a5) ∧ kR7 σ σ') ∧ kS8 σ σ' → Q v σ') : cI C 0 m_feed [.ref (co C), .int a1, .int a2, .int a3, .int a4, .int a5] σ Q := feed_c9 hC ⟨J.1.1, h60⟩ (fun v σ' q => h v σ' (rJ_c J ⟨q.2.1, q.2.2.1⟩ (by rw [q.1.1 104 (by decide) (by decide)]; exact J.2.2.2.2.2.2.2) (fun k hk => q.1.1 k ((by decide : ∀ k, k ∈ rjF → k ≠ 0) k hk) ((by decide : ∀ k, k ∈ rjF → k ≠ 2) k hk)) (fun k hk => q.1.2.2.1 k ((by decide : ∀ k, k ∈ rjR → k ≠ 1) k hk)) (rjN_r (q.1.2.2.1 90 (by decide)) (q.1.2.2.1 91 (by decide)))) ⟨⟨(by
    have h0 := J.1.1
    have t60 : (60000 : Int32).toInt = 60000 := rfl
    have h61 := h60
    rw [lei, t0i] at h0
    rw [lei, t60] at h61
    have z := fd_m9 (f := σ.2.2.1 1) (f' := σ'.2.2.1 1) (G := by9 a1 a2 a3 a4 a5) (x := σ.1 53) h0 h61 q.2.2.2.2.1 q.2.2.2.2.2.2.1 q.2.2.2.2.2.2.2
    unfold oR9
    rw [q.1.1 53 (by decide) (by decide)]
    exact z), kR_f7 (fun k hk => q.1.1 k ((by decide : ∀ k, k ∈ kf7 → k ≠ 0) k hk) ((by decide : ∀ k, k ∈ kf7 → k ≠ 2) k hk)) (fun k hk => q.1.2.2.1 k ((by decide : ∀ k, k ∈ kz7 → k ≠ 1) k hk)) (fun j => q.1.2.2.2.2 8 j)⟩, kS_f8 (fun k hk => q.1.1 k ((by decide : ∀ k, k ∈ ke8 → k ≠ 0) k hk) ((by decide : ∀ k, k ∈ ke8 → k ≠ 2) k hk)) (fun k hk => q.1.2.2.1 k ((by decide : ∀ k, k ∈ kx8 → k ≠ 1) k hk))⟩)
theorem end_j {C : rCx} {σ : rS} {a1 : Int32} (hC : cOK C) (J : rJ σ) {Q : rS → Prop} (h : ∀ σ', rJ σ' → (oR9 σ' = trO9 (oR9 σ) a1 ∧ kR7 σ σ') ∧ kS8 σ σ' → Q σ') : cV C 0 m_end [.ref (co C), .int a1] σ Q := end_c2 hC J.1 (fun σ' q => h σ' (rJ_c J ⟨q.2.1, q.2.2.1⟩ (by rw [q.1.1 104 (by decide) (by decide)]; exact J.2.2.2.2.2.2.2) (fun k hk => q.1.1 k ((by decide : ∀ k, k ∈ rjF → k ≠ 0) k hk) ((by decide : ∀ k, k ∈ rjF → k ≠ 2) k hk)) (fun k _ => by rw [q.1.2]) (rjN_r (by rw [q.1.2]) (by rw [q.1.2]))) ⟨⟨(by
    unfold oR9
    rw [q.1.1 53 (by decide) (by decide), q.1.2]
    by_cases c : 0 ≤ a1 ∧ a1 ≤ σ.1 2
    · rw [tr_m9 c, (q.2.2.2.1 c).2]
    · rw [tr_n9 c, (q.2.2.2.2 c).2]), kR_f7 (fun k hk => q.1.1 k ((by decide : ∀ k, k ∈ kf7 → k ≠ 0) k hk) ((by decide : ∀ k, k ∈ kf7 → k ≠ 2) k hk)) (fun k _ => by rw [q.1.2]) (fun j => by rw [q.1.2])⟩, kS_f8 (fun k hk => q.1.1 k ((by decide : ∀ k, k ∈ ke8 → k ≠ 0) k hk) ((by decide : ∀ k, k ∈ ke8 → k ≠ 2) k hk)) (fun k _ => by rw [q.1.2])⟩)
theorem fault_j {C : rCx} {σ : rS} (hC : cOK C) (J : rJ σ) {Q : Int32 → rS → Prop} (h : ∀ v σ', rJ σ' → v = σ.1 53 → pR8 σ σ' → Q v σ') : cI C 0 m_fault [.ref (co C)] σ Q := fault_c9 hC (fun σ' q => h _ σ' (rJ_c J (by rw [q.1 2 (by decide)]; exact J.1) (by rw [q.1 104 (by decide)]; exact J.2.2.2.2.2.2.2) (fun k hk => q.1 k ((by decide : ∀ k, k ∈ rjF → k ≠ 0) k hk)) (fun k _ => by rw [q.2]) (rjN_r (by rw [q.2]) (by rw [q.2]))) rfl ⟨⟨oR_k9 (q.1 2 (by decide)) (q.1 53 (by decide)) (by rw [q.2]), kR_f7 (fun k hk => q.1 k ((by decide : ∀ k, k ∈ kf7 → k ≠ 0) k hk)) (fun k _ => by rw [q.2]) (fun j => by rw [q.2])⟩, kS_f8 (fun k hk => q.1 k ((by decide : ∀ k, k ∈ ke8 → k ≠ 0) k hk)) (fun k _ => by rw [q.2])⟩)
theorem forget_j {C : rCx} {σ : rS} (hC : cOK C) (J : rJ σ) {Q : Int32 → rS → Prop} (h : ∀ v σ', rJ σ' → pR8 σ σ' → Q v σ') : cI C 0 m_forget [.ref (co C)] σ Q := forget_c hC (fun v σ' q => h v σ' (rJ_c J (by rw [q.1.1 2 (by decide) (by decide)]; exact J.1) (by rw [q.2.2]; decide) (fun k hk => q.1.1 k ((by decide : ∀ k, k ∈ rjF → k ≠ 0) k hk) ((by decide : ∀ k, k ∈ rjF → k ≠ 104) k hk)) (fun k _ => by rw [q.1.2]) (rjN_r (by rw [q.1.2]) (by rw [q.1.2]))) ⟨⟨oR_k9 (q.1.1 2 (by decide) (by decide)) (q.1.1 53 (by decide) (by decide)) (by rw [q.1.2]), kR_f7 (fun k hk => q.1.1 k ((by decide : ∀ k, k ∈ kf7 → k ≠ 0) k hk) ((by decide : ∀ k, k ∈ kf7 → k ≠ 104) k hk)) (fun k _ => by rw [q.1.2]) (fun j => by rw [q.1.2])⟩, kS_f8 (fun k hk => q.1.1 k ((by decide : ∀ k, k ∈ ke8 → k ≠ 0) k hk) ((by decide : ∀ k, k ∈ ke8 → k ≠ 104) k hk)) (fun k _ => by rw [q.1.2])⟩)
theorem tell_j {C : rCx} {σ : rS} {a1 : Int32} (hC : cOK C) (J : rJ σ) {Q : Int32 → rS → Prop} (h : ∀ v σ', rJ σ' → pR8 σ σ' → Q v σ') : cI C 0 m_tell [.ref (co C), .int a1] σ Q := tell_c hC J.2.2.2.2.2.2.2 (fun v σ' q => h v σ' (rJ_c J (by rw [q.1.1 2 (by decide) (by decide)]; exact J.1) ⟨q.2.1, q.2.2.1⟩ (fun k hk => q.1.1 k ((by decide : ∀ k, k ∈ rjF → k ≠ 0) k hk) ((by decide : ∀ k, k ∈ rjF → k ≠ 104) k hk)) (fun k hk => q.1.2.2.1 k ((by decide : ∀ k, k ∈ rjR → k ≠ 105) k hk)) (rjN_r (q.1.2.2.1 90 (by decide)) (q.1.2.2.1 91 (by decide)))) ⟨⟨oR_k9 (q.1.1 2 (by decide) (by decide)) (q.1.1 53 (by decide) (by decide)) (q.1.2.2.1 1 (by decide)), kR_f7 (fun k hk => q.1.1 k ((by decide : ∀ k, k ∈ kf7 → k ≠ 0) k hk) ((by decide : ∀ k, k ∈ kf7 → k ≠ 104) k hk)) (fun k hk => q.1.2.2.1 k ((by decide : ∀ k, k ∈ kz7 → k ≠ 105) k hk)) (fun j => q.1.2.2.2.2 8 j)⟩, kS_f8 (fun k hk => q.1.1 k ((by decide : ∀ k, k ∈ ke8 → k ≠ 0) k hk) ((by decide : ∀ k, k ∈ ke8 → k ≠ 104) k hk)) (fun k hk => q.1.2.2.1 k ((by decide : ∀ k, k ∈ kx8 → k ≠ 105) k hk))⟩)

end
section
set_option maxHeartbeats 1600000
/-- what program answers, by its reading -/
def pQ9 (σ : rS) (v : Int32) (σ' : rS) : Prop := ∃ σ2 : rS, (σ2.1 2 = σ.1 2 ∧ σ2.2.2.1 1 = σ.2.2.1 1 ∧ σ2.1 3 = σ.1 3 ∧ (σ.1 3 = 0 ∨ σ.1 3 = 65537)) ∧ σ'.1 53 = (g5_tellProgram σ2).1 11 ∧ ((g5_tellProgram σ2).1 11 = 0 → v = (g5_tellProgram σ2).1 19 ∧ σ'.1 14 = 1 ∧ (∀ g, g ∈ kf7 → g ≠ 14 → σ'.1 g = (g5_tellProgram σ2).1 g) ∧ σ'.2 = (g5_tellProgram σ2).2 ∧ eB (σ'.2.2.1 26) 0 5 ∧ ((g5_tellProgram σ2).1 3 = 0 ∨ (g5_tellProgram σ2).1 3 = 65537) ∧ (g5_tellProgram σ2).1 3 ≠ σ.1 3 ∧ σ'.1 69 = 0) ∧ ((g5_tellProgram σ2).1 11 ≠ 0 → v = (-1 : Int32) - (g5_tellProgram σ2).1 12 ∧ kR7 σ σ' ∧ kS8 σ σ')
/-- a text that fails leaves the code that stands -/
theorem kR_b7 {σ σ1 σ4 σ7 τ : rS} (q : back σ1 σ7 τ) (hb : σ.1 3 = 0 ∨ σ.1 3 = 65537) (t3 : σ4.1 3 = 0 ∨ σ4.1 3 = 65537) (t4 : σ4.1 3 ≠ σ.1 3) (t5 : ∀ k, (k = 5 ∨ k = 6 ∨ k = 7 ∨ k = 9 ∨ k = 39) → ∀ t : Int32, 0 ≤ t → (t < σ4.1 3 ∨ σ4.1 3 + 65536 < t) → rd σ4 k t = rd σ k t) (e1 : ∀ k, k ≠ 0 → σ1.1 k = σ.1 k) (s1 : σ1.2 = σ.2) (h14 : σ7.1 14 = σ.1 14) (s7 : σ7.2 = σ4.2) (hl : ∀ j, (if σ.1 3 = 0 then j ≤ 65536 else 65537 ≤ j) → σ4.2.2.2 8 j = σ.2.2.2 8 j) : kR7 σ τ := by
  obtain ⟨b1, b15, b16, b17, b18, b19, b40, b3, b5, b6, b7, b8⟩ := q
  refine ⟨fun g hg => ?_, fun p hp i hi => by rw [(b8 p hp).1 i hi, s1], fun k hk j hj => ?_, fun j hj => ?_⟩
  · have c : g = 3 ∨ g = 14 ∨ g = 15 ∨ g = 16 ∨ g = 17 ∨ g = 18 ∨ g = 19 ∨ g = 40 := by
      have z : ∀ g, g ∈ kf7 → g = 3 ∨ g = 14 ∨ g = 15 ∨ g = 16 ∨ g = 17 ∨ g = 18 ∨ g = 19 ∨ g = 40 := by decide
      exact z g hg
    rcases c with c | c | c | c | c | c | c | c <;> rw [c]
    · exact b3.trans (e1 3 (by decide))
    · exact (b1 14 (by decide) (by decide) (by decide) (by decide) (by decide) (by decide) (by decide) (by decide)).trans h14
    · exact b15.trans (e1 15 (by decide))
    · exact b16.trans (e1 16 (by decide))
    · exact b17.trans (e1 17 (by decide))
    · exact b18.trans (e1 18 (by decide))
    · exact b19.trans (e1 19 (by decide))
    · exact b40.trans (e1 40 (by decide))
  · have y : τ.2.2.1 k = σ4.2.2.1 k := by
      rw [b7 k (by omega) (by rcases hk with c | c | c | c | c <;> rw [c] <;> decide), s7]
    have jj : j ≤ 131073 := by
      unfold hf7 at hj
      by_cases c : σ.1 3 = 0
      · rw [if_pos c] at hj; omega
      · rw [if_neg c] at hj; omega
    have lj := ofn_i (n := j) (by omega)
    have z := t5 k hk (Int32.ofNat j) (by rw [lei, t0i]; omega) (by
      unfold hf7 at hj
      rcases hb with b | b
      · have t : σ4.1 3 = 65537 := by
          rcases t3 with t | t
          · exact absurd (t.trans b.symm) t4
          · exact t
        left
        rw [if_pos b] at hj
        rw [t, lti, lj]
        show (j : Int) < 65537
        omega
      · have t : σ4.1 3 = 0 := by
          rcases t3 with t | t
          · exact t
          · exact absurd (t.trans b.symm) t4
        right
        rw [b, if_neg (by decide)] at hj
        rw [t, lti, lj]
        show (65536 : Int) < j
        omega)
    unfold rd at z
    rw [cl_5 (by omega)] at z
    rw [y]
    exact z
  · rw [b6 8 j, s7]
    refine hl j ?_
    unfold hf7 at hj
    by_cases c : σ.1 3 = 0
    · rw [if_pos c] at hj ⊢; exact hj
    · rw [if_neg c] at hj ⊢; exact hj.1
theorem program_c9 {C : rCx} (hC : cOK C)  {σ : rS}  {Q : Int32 → rS → Prop} (hp : (σ.1 3 = 0 ∨ σ.1 3 = 65537) ∧ 0 ≤ σ.1 2 ∧ σ.1 2 ≤ 65536 ∧ tyAll σ ∧ (σ.1 14 ≠ 0 → ∃ T, progOK σ (σ.1 3) T)) (h : ∀ (v : Int32) (σ' : rS), (prQ σ σ' ∧ pQ9 σ v σ') → Q v σ') : cI C 13 m_program [.ref (co C)] σ Q := by
  refine m_program_run hC ?_
  unfold w_program_0
  obtain ⟨hb, hs0, hs1, hT, hP⟩ := hp
  intro σ_1 hσ_1
  refine swingAll_c_s hC  (fun σ_2 q3 => ?_)
  have e1 : ∀ k, k ≠ 0 → σ_1.1 k = σ.1 k := fun k hk => by rw [hσ_1, si1, if_neg hk]
  have s1 : σ_1.2 = σ.2 := by rw [hσ_1, si2]
  have e2 : ∀ k, k ≠ 0 → k ≠ 55 → σ_2.1 k = σ.1 k := fun k z1 z2 => (q3.1.1 k z2).trans (e1 k z1)
  have r2 : ∀ k, k ≠ 54 → k ≠ 56 → σ_2.2.2.1 k = σ.2.2.1 k := fun k z1 z2 => (q3.1.2.2.1 k z1 z2).trans (by rw [s1])
  have T1 : tyAll σ_1 := ty_s hT (fun k hk => e1 k (by omega)) (fun k _ _ => by rw [s1])
  have T2 : tyAll σ_2 := ty_s hT (fun k hk => e2 k (by omega) (by omega)) r2
  have F2 : frH zFF zRR σ σ_2 := ⟨fun k z => e2 k (fun e => z (by rw [e]; decide)) (fun e => z (by rw [e]; decide)), fun k => (q3.1.2.1 k).trans (by rw [s1]), fun k z => r2 k (fun e => z (by rw [e]; decide)) (fun e => z (by rw [e]; decide)), fun k j _ => (q3.1.2.2.2.2 k j).trans (by rw [s1])⟩
  refine tellProgram_g5 hC  ?_ (fun σ_4 q5z => ?_)
  · clear h; exact ⟨by rw [e2 3 (by decide) (by decide)]; exact hb, by rw [e2 2 (by decide) (by decide)]; exact hs0, by rw [e2 2 (by decide) (by decide)]; exact hs1, T2⟩  -- p1
  obtain ⟨q5, zg⟩ := q5z
  intro σ_6 hσ_6
  intro σ_7 hσ_7
  obtain ⟨t1, t2, t3, t4, t5, t6, t7⟩ := q5
  have e7 : ∀ k, k ≠ 2 → k ≠ 53 → σ_7.1 k = σ_4.1 k := fun k z1 z2 => by rw [hσ_7, si1, if_neg z2, hσ_6, si1, if_neg z1]
  have v7 : σ_7.1 2 = 0 := by rw [hσ_7, si1, if_neg (by decide), hσ_6, si1, if_pos rfl]
  have s7 : σ_7.2 = σ_4.2 := by rw [hσ_7, si2, hσ_6, si2]
  have F7 : frH zFF zRR σ σ_7 := frH_tr F2 (frH_tr (frZ_q t1) (by rw [hσ_7, hσ_6]; exact frH_tr (frZ_si (by decide)) (frZ_si (by decide))))
  have T7 : tyAll σ_7 := ty_s t2 (fun k hk => e7 k (by omega) (by omega)) (fun k _ _ => by rw [s7])
  have k7 : ∀ k, k ∉ qFF → k ≠ 0 → k ≠ 55 → k ≠ 2 → k ≠ 53 → σ_7.1 k = σ.1 k := fun k z1 z2 z3 z4 z5 => (e7 k z4 z5).trans ((t1.1 k z1).trans (e2 k z2 z3))
  refine ⟨fun c8 => ?_, fun c8 => ?_⟩
  · skip
    intro σ_9 hσ_9
    intro σ_10 hσ_10
    intro σ_11 hσ_11
    intro σ_12 hσ_12
    intro σ_13 hσ_13
    intro σ_14 hσ_14
    intro σ_15 hσ_15
    intro σ_16 hσ_16
    have x16 : ∀ k, k ≠ 14 → k ≠ 69 → k ≠ 94 → k ≠ 114 → k ≠ 106 → k ≠ 70 → k ≠ 71 → k ≠ 72 → σ_16.1 k = σ_7.1 k := fun k z1 z2 z3 z4 z5 z6 z7 z8 => by rw [hσ_16, si1, if_neg z8, hσ_15, si1, if_neg z7, hσ_14, si1, if_neg z6, hσ_13, si1, if_neg z5, hσ_12, si1, if_neg z4, hσ_11, si1, if_neg z3, hσ_10, si1, if_neg z2, hσ_9, si1, if_neg z1]
    have x53 : σ_7.1 53 = σ_4.1 11 := by rw [hσ_7, si1, if_pos rfl, hσ_6, si1, if_neg (by decide)]
    have z0 : σ_4.1 11 = 0 := by
      have c9 := c8
      rw [e7 11 (by decide) (by decide)] at c9
      exact Int32.le_antisymm c9 t7
    have s16z : σ_16.2 = σ_4.2 := by rw [hσ_16, si2, hσ_15, si2, hσ_14, si2, hσ_13, si2, hσ_12, si2, hσ_11, si2, hσ_10, si2, hσ_9, si2]; exact s7
    have y14 : σ_16.1 14 = 1 := by rw [hσ_16, si1, if_neg (by decide), hσ_15, si1, if_neg (by decide), hσ_14, si1, if_neg (by decide), hσ_13, si1, if_neg (by decide), hσ_12, si1, if_neg (by decide), hσ_11, si1, if_neg (by decide), hσ_10, si1, if_neg (by decide), hσ_9, si1, if_pos rfl]
    have y26 : eB (σ_16.2.2.1 26) 0 5 := by
      obtain ⟨_, z3, _⟩ := t2
      obtain ⟨_, _, _, _, z4, _⟩ := z3
      rw [s16z]
      exact z4
    have pq : pQ9 σ (σ_16.1 19) σ_16 := ⟨σ_2, ⟨e2 2 (by decide) (by decide), r2 1 (by decide) (by decide), e2 3 (by decide) (by decide), hb⟩, by rw [zg, x16 53 (by decide) (by decide) (by decide) (by decide) (by decide) (by decide) (by decide) (by decide), x53], fun _ => ⟨by rw [zg, x16 19 (by decide) (by decide) (by decide) (by decide) (by decide) (by decide) (by decide) (by decide), e7 19 (by decide) (by decide)], y14, fun g hg n14 => by
      rw [zg, x16 g n14 ((by decide : ∀ g, g ∈ kf7 → g ≠ 69) g hg) ((by decide : ∀ g, g ∈ kf7 → g ≠ 94) g hg) ((by decide : ∀ g, g ∈ kf7 → g ≠ 114) g hg) ((by decide : ∀ g, g ∈ kf7 → g ≠ 106) g hg) ((by decide : ∀ g, g ∈ kf7 → g ≠ 70) g hg) ((by decide : ∀ g, g ∈ kf7 → g ≠ 71) g hg) ((by decide : ∀ g, g ∈ kf7 → g ≠ 72) g hg), e7 g ((by decide : ∀ g, g ∈ kf7 → g ≠ 2) g hg) ((by decide : ∀ g, g ∈ kf7 → g ≠ 53) g hg)], by rw [zg]; exact s16z, y26, by rw [zg]; exact t3, by rw [zg, ← e2 3 (by decide) (by decide)]; exact t4, by rw [hσ_16, si1, if_neg (by decide), hσ_15, si1, if_neg (by decide), hσ_14, si1, if_neg (by decide), hσ_13, si1, if_neg (by decide), hσ_12, si1, if_neg (by decide), hσ_11, si1, if_neg (by decide), hσ_10, si1, if_pos rfl]⟩, fun z => absurd (by rw [zg]; exact z0) z⟩
    refine h _ _ ⟨?_, pq⟩
    · clear h; have s16 : σ_16.2 = σ_4.2 := by rw [hσ_16, si2, hσ_15, si2, hσ_14, si2, hσ_13, si2, hσ_12, si2, hσ_11, si2, hσ_10, si2, hσ_9, si2]; exact s7
      have e16 : ∀ k, k ≠ 14 → k ≠ 69 → k ≠ 94 → k ≠ 114 → k ≠ 106 → k ≠ 70 → k ≠ 71 → k ≠ 72 → σ_16.1 k = σ_7.1 k := fun k z1 z2 z3 z4 z5 z6 z7 z8 => by rw [hσ_16, si1, if_neg z8, hσ_15, si1, if_neg z7, hσ_14, si1, if_neg z6, hσ_13, si1, if_neg z5, hσ_12, si1, if_neg z4, hσ_11, si1, if_neg z3, hσ_10, si1, if_neg z2, hσ_9, si1, if_neg z1]
      have e4 : ∀ k, k ≠ 2 → k ≠ 53 → k ≠ 14 → k ≠ 69 → k ≠ 94 → k ≠ 114 → k ≠ 106 → k ≠ 70 → k ≠ 71 → k ≠ 72 → σ_16.1 k = σ_4.1 k := fun k y1 y2 z1 z2 z3 z4 z5 z6 z7 z8 => (e16 k z1 z2 z3 z4 z5 z6 z7 z8).trans (e7 k y1 y2)
      have f0 : σ_4.1 11 = 0 := by
        rw [e7 11 (by decide) (by decide)] at c8
        exact Int32.le_antisymm c8 t7
      obtain ⟨T, pk⟩ := t6 f0
      have d3 := e4 3 (by decide) (by decide) (by decide) (by decide) (by decide) (by decide) (by decide) (by decide) (by decide) (by decide)
      refine ⟨by rw [d3]; exact t3, by rw [e16 2 (by decide) (by decide) (by decide) (by decide) (by decide) (by decide) (by decide) (by decide)]; exact v7, ?_, fun _ => ⟨T, ?_⟩, ?_, Or.inr ⟨?_, ?_, ?_, ?_, ?_, ?_, ?_, ?_⟩⟩
      · exact ty_s t2 (fun k hk => e4 k (by omega) (by omega) (by omega) (by omega) (by omega) (by omega) (by omega) (by omega) (by omega) (by omega)) (fun k _ _ => by rw [s16])
      · rw [d3]
        exact progOK_L t2 pk (fun t _ _ => by rw [s16]) (fun t _ _ => by rw [s16]) (fun t _ _ => by rw [s16]) (e4 18 (by decide) (by decide) (by decide) (by decide) (by decide) (by decide) (by decide) (by decide) (by decide) (by decide)) (e4 19 (by decide) (by decide) (by decide) (by decide) (by decide) (by decide) (by decide) (by decide) (by decide) (by decide)) (e4 40 (by decide) (by decide) (by decide) (by decide) (by decide) (by decide) (by decide) (by decide) (by decide) (by decide)) (fun k _ j _ => by rw [s16]) (fun k _ j _ => by rw [s16])
      · refine frH_tr F7 ⟨fun k z => e16 k ?_ ?_ ?_ ?_ ?_ ?_ ?_ ?_, fun k => by rw [s16, s7], fun k _ => by rw [s16, s7], fun k j _ => by rw [s16, s7]⟩ <;> exact fun e => z (by rw [e]; decide)
      · rw [hσ_16, si1, if_neg (by decide), hσ_15, si1, if_neg (by decide), hσ_14, si1, if_neg (by decide), hσ_13, si1, if_neg (by decide), hσ_12, si1, if_neg (by decide), hσ_11, si1, if_neg (by decide), hσ_10, si1, if_neg (by decide), hσ_9, si1, if_pos rfl]
      · rw [hσ_16, si1, if_neg (by decide), hσ_15, si1, if_neg (by decide), hσ_14, si1, if_neg (by decide), hσ_13, si1, if_neg (by decide), hσ_12, si1, if_neg (by decide), hσ_11, si1, if_neg (by decide), hσ_10, si1, if_pos rfl]
      · rw [hσ_16, si1, if_neg (by decide), hσ_15, si1, if_neg (by decide), hσ_14, si1, if_pos rfl]
      · rw [hσ_16, si1, if_neg (by decide), hσ_15, si1, if_pos rfl]
      · rw [hσ_16, si1, if_pos rfl]
      · rw [hσ_16, si1, if_neg (by decide), hσ_15, si1, if_neg (by decide), hσ_14, si1, if_neg (by decide), hσ_13, si1, if_neg (by decide), hσ_12, si1, if_neg (by decide), hσ_11, si1, if_pos rfl]
      · rw [hσ_16, si1, if_neg (by decide), hσ_15, si1, if_neg (by decide), hσ_14, si1, if_neg (by decide), hσ_13, si1, if_pos rfl]
      · rw [hσ_16, si1, if_neg (by decide), hσ_15, si1, if_neg (by decide), hσ_14, si1, if_neg (by decide), hσ_13, si1, if_neg (by decide), hσ_12, si1, if_pos rfl]
  · skip
    refine swingAll_c_b hC σ_1 ?_ (fun σ_17 q18 => ?_)
    · clear h; exact kept_s q3.2 (by rw [s7]; exact t1.2.2.1 54 (by decide))  -- p3
    have y53 : σ_17.1 53 = σ_4.1 11 := by rw [q18.1 53 (by decide) (by decide) (by decide) (by decide) (by decide) (by decide) (by decide) (by decide), hσ_7, si1, if_pos rfl, hσ_6, si1, if_neg (by decide)]
    have y12 : σ_17.1 12 = σ_4.1 12 := by rw [q18.1 12 (by decide) (by decide) (by decide) (by decide) (by decide) (by decide) (by decide) (by decide), e7 12 (by decide) (by decide)]
    have n0 : ¬ σ_4.1 11 = 0 := fun z => c8 (by rw [e7 11 (by decide) (by decide), z]; decide)
    have okS2 : okS5 σ_2 := by
      have j0 := hs0
      have j1 := hs1
      rw [lei, t0i] at j0
      rw [lei, show (65536 : Int32).toInt = 65536 from rfl] at j1
      unfold okS5
      rw [e2 2 (by decide) (by decide)]
      exact ⟨j0, j1⟩
    have kr : kR7 σ σ_17 := kR_b7 q18 hb t3 (by rw [← e2 3 (by decide) (by decide)]; exact t4) (fun k hk t h1 h2 => by
        rw [rd, rd, ← r2 k (by omega) (by omega)]
        exact t5 k hk t h1 h2) e1 s1 (by
        rw [e7 14 (by decide) (by decide)]
        exact (t1.1 14 (by decide)).trans (e2 14 (by decide) (by decide))) s7 (fun j hj => by
        rw [← zg, tell_l6 okS2 j (by
          rw [e2 3 (by decide) (by decide)]
          exact hj), q3.1.2.2.2.2 8 j, s1])
    have ks : kS8 σ σ_17 := by
      obtain ⟨b1, _, _, _, _, _, _, _, _, _, b7, _⟩ := q18
      refine ⟨fun g hg => ?_, fun g hg => ?_⟩
      · rw [b1 g ((by decide : ∀ g, g ∈ ke8 → g ≠ 55) g hg) ((by decide : ∀ g, g ∈ ke8 → g ≠ 15) g hg) ((by decide : ∀ g, g ∈ ke8 → g ≠ 16) g hg) ((by decide : ∀ g, g ∈ ke8 → g ≠ 17) g hg) ((by decide : ∀ g, g ∈ ke8 → g ≠ 18) g hg) ((by decide : ∀ g, g ∈ ke8 → g ≠ 19) g hg) ((by decide : ∀ g, g ∈ ke8 → g ≠ 40) g hg) ((by decide : ∀ g, g ∈ ke8 → g ≠ 3) g hg)]
        exact k7 g ((by decide : ∀ g, g ∈ ke8 → g ∉ qFF) g hg) ((by decide : ∀ g, g ∈ ke8 → g ≠ 0) g hg) ((by decide : ∀ g, g ∈ ke8 → g ≠ 55) g hg) ((by decide : ∀ g, g ∈ ke8 → g ≠ 2) g hg) ((by decide : ∀ g, g ∈ ke8 → g ≠ 53) g hg)
      · rw [b7 g ((by decide : ∀ g, g ∈ kx8 → g ≠ 56) g hg) (fun p hp e => (by decide : ∀ p, p ∈ kPt → p.1 ∉ kx8) p hp (by rw [e]; exact hg)), s7, t1.2.2.1 g ((by decide : ∀ g, g ∈ kx8 → g ∉ qRR) g hg)]
        exact r2 g ((by decide : ∀ g, g ∈ kx8 → g ≠ 54) g hg) ((by decide : ∀ g, g ∈ kx8 → g ≠ 56) g hg)
    have pq : pQ9 σ ((-1 : Int32) - σ_17.1 12) σ_17 := ⟨σ_2, ⟨e2 2 (by decide) (by decide), r2 1 (by decide) (by decide), e2 3 (by decide) (by decide), hb⟩, by rw [zg, y53], fun z => absurd (by rw [← zg]; exact z) n0, fun _ => ⟨by rw [zg, y12], kr, ks⟩⟩
    refine h _ _ ⟨?_, pq⟩
    · clear h; have T17 := ty_back q18 T1 T7
      obtain ⟨b1, b15, b16, b17, b18, b19, b40, b3, b5, b6, b7, b8⟩ := q18
      have bf : ∀ k, k ∉ [55, 15, 16, 17, 18, 19, 40, 3] → σ_17.1 k = σ_7.1 k := fun k z => b1 k (fun e => z (by rw [e]; decide)) (fun e => z (by rw [e]; decide)) (fun e => z (by rw [e]; decide)) (fun e => z (by rw [e]; decide)) (fun e => z (by rw [e]; decide)) (fun e => z (by rw [e]; decide)) (fun e => z (by rw [e]; decide)) (fun e => z (by rw [e]; decide))
      have d3 : σ_17.1 3 = σ.1 3 := b3.trans (e1 3 (by decide))
      have kk : ∀ k, k ∉ [55, 15, 16, 17, 18, 19, 40, 3] → k ∉ qFF → k ≠ 0 → k ≠ 55 → k ≠ 2 → k ≠ 53 → σ_17.1 k = σ.1 k := fun k z1 z2 z3 z4 z5 z6 => (bf k z1).trans (k7 k z2 z3 z4 z5 z6)
      have d14 : σ_17.1 14 = σ.1 14 := kk 14 (by decide) (by decide) (by decide) (by decide) (by decide) (by decide)
      refine ⟨by rw [d3]; exact hb, by rw [bf 2 (by decide)]; exact v7, T17, fun z => ?_, ?_, Or.inl ⟨d14, kk 69 (by decide) (by decide) (by decide) (by decide) (by decide) (by decide), kk 70 (by decide) (by decide) (by decide) (by decide) (by decide) (by decide), kk 71 (by decide) (by decide) (by decide) (by decide) (by decide) (by decide), kk 72 (by decide) (by decide) (by decide) (by decide) (by decide) (by decide), kk 94 (by decide) (by decide) (by decide) (by decide) (by decide) (by decide), kk 106 (by decide) (by decide) (by decide) (by decide) (by decide) (by decide), kk 114 (by decide) (by decide) (by decide) (by decide) (by decide) (by decide)⟩⟩
      · rw [d14] at z
        obtain ⟨T, pk⟩ := hP z
        have tok : ∀ k, k = 5 ∨ k = 7 ∨ k = 39 → lc (σ.2.2.1 k) (σ_17.2.2.1 k) (σ.1 3) T := fun k hk t ht ht2 => by
          have w := two_b hb t3 (by rw [← e2 3 (by decide) (by decide)]; exact t4) pk.2.2.1 pk.2.2.2.1 ht ht2
          have x := t5 k (by omega) t w.1 w.2
          have y : σ_17.2.2.1 k = σ_4.2.2.1 k := by
            rcases hk with rfl | rfl | rfl
            · rw [b7 5 (by decide) (by decide), s7]
            · rw [b7 7 (by decide) (by decide), s7]
            · rw [b7 39 (by decide) (by decide), s7]
          rw [y]
          refine x.trans ?_
          rw [rd, r2 k (by omega) (by omega)]
        have rw1 : ∀ p ∈ kPt, ∀ j, j < p.2.2 → σ_17.2.2.1 p.1 j = σ.2.2.1 p.1 j := fun p hp j hj => by rw [(b8 p hp).1 j hj, s1]
        refine ⟨T, ?_⟩
        rw [d3]
        refine progOK_L hT pk (tok 5 (by decide)) (tok 7 (by decide)) (tok 39 (by decide)) (b18.trans (e1 18 (by decide))) (b19.trans (e1 19 (by decide))) (b40.trans (e1 40 (by decide))) (fun k hk j hj => ?_) (fun k hk j hj => ?_)
        · rcases hk with rfl | rfl | rfl | rfl | rfl | rfl | rfl | rfl
          · exact rw1 (30, 157, 150) (by decide) j hj
          · exact rw1 (31, 307, 150) (by decide) j hj
          · exact rw1 (32, 457, 150) (by decide) j hj
          · exact rw1 (33, 607, 150) (by decide) j hj
          · exact rw1 (34, 757, 150) (by decide) j hj
          · exact rw1 (35, 907, 150) (by decide) j hj
          · exact rw1 (36, 1057, 150) (by decide) j hj
          · exact rw1 (37, 1207, 150) (by decide) j hj
        · rcases hk with rfl | rfl
          · exact rw1 (26, 47, 10) (by decide) j hj
          · exact rw1 (29, 147, 10) (by decide) j hj
      · refine frH_tr F7 ⟨fun k z => bf k (fun e => z ((by decide : ∀ q ∈ [55, 15, 16, 17, 18, 19, 40, 3], q ∈ zFF) k e)), b5, fun k z => b7 k (fun e => z (by rw [e]; decide)) (fun p hp e => z (by rw [← e]; exact (by decide : ∀ p ∈ kPt, p.1 ∈ zRR) p hp)), fun k j _ => b6 k j⟩

/-! the reference: what holds behind decide, show, solve, best, explore, program, play, walk -/
abbrev rjA : List Nat := [2, 53, 3, 14, 15, 16, 17, 18, 19, 40, 41, 42, 104]
abbrev rjZ : List Nat := 1 :: 6 :: 9 :: 21 :: rjQ
abbrev rjY : List Nat := 1 :: 6 :: 9 :: 21 :: rjR
theorem rJ_x {σ τ : rS} (J : rJ σ) (hf : ∀ k, k ∈ rjA → τ.1 k = σ.1 k) (hr : ∀ k, k ∈ rjZ → τ.2.2.1 k = σ.2.2.1 k) (hl : ∀ j, τ.2.2.2 8 j = σ.2.2.2 8 j) (e : exP τ) (v : jVs τ) (w : jWo τ) (p : plN τ) (s : shO τ) : rJ τ ∧ pR7 σ τ :=
  ⟨⟨by rw [hf 2 (by decide)]; exact J.1, jBk_o J.2.1 (hf 3 (by decide)) (hf 14 (by decide)) (fun k hk => hf k ((by decide : ∀ k, k ∈ rjP → k ∈ rjA) k hk)) (fun k hk => hr k (List.mem_cons_of_mem _ (List.mem_cons_of_mem _ (List.mem_cons_of_mem _ (List.mem_cons_of_mem _ hk))))), e, v, w, p, s, by rw [hf 104 (by decide)]; exact J.2.2.2.2.2.2.2⟩, ⟨oR_k9 (hf 2 (by decide)) (hf 53 (by decide)) (hr 1 (by decide)), kR_f7 (fun k hk => hf k ((by decide : ∀ k, k ∈ kf7 → k ∈ rjA) k hk)) (fun k hk => hr k ((by decide : ∀ k, k ∈ kz7 → k ∈ rjZ) k hk)) hl⟩⟩
theorem rj_88 {σ : rS} (J : rJ σ) : 0 ≤ σ.1 88 := J.2.2.1.2.2.2.1
section callz
variable {C : rCx} {σ : rS} {a1 a2 : Int32}
theorem decide_j (hC : cOK C) (J : rJ σ) {Q : Int32 → rS → Prop} (h : ∀ v σ', rJ σ' → pR8 σ σ' → Q v σ') : cI C 1 m_decide [.ref (co C), .int a1, .int a2] σ Q := decide_c hC J.2.2.1 (fun v σ' q => by
  obtain ⟨f, e, z⟩ := q
  have g := rJ_x J (fun k hk => f.1 k ((by decide : ∀ k, k ∈ rjA → k ∉ [0, 94]) k hk)) (fun k hk => f.2.2.1 k ((by decide : ∀ k, k ∈ rjZ → k ∉ [83]) k hk)) (fun j => f.2.2.2 8 j) e (by
    rcases z with z | z
    · exact jVs_o J.2.2.2.1 (by rw [z.1 94 (by decide)]; exact fun y => y) (z.1 70 (by decide)) (z.2.2.1 102 (by decide))
    · exact fun y => absurd z y) (jWo_o J.2.2.2.2.1 (by rw [f.1 114 (by decide)]; exact fun y => y) (f.1 70 (by decide)) (f.2.2.1 115 (by decide)) (f.2.2.1 116 (by decide))) (plN_o J.2.2.2.2.2.1 (by rw [f.1 106 (by decide)]; exact fun y => y) (fun k hk => ⟨by rw [f.2.2.1 91 (by decide)], fun i _ => by rw [f.2.2.1 90 (by decide)]⟩)) (shO_o J.2.2.2.2.2.2.1 (f.1 103 (by decide)) (fun k hk => ⟨by rw [f.2.2.1 91 (by decide)], fun i _ => by rw [f.2.2.1 90 (by decide)]⟩))
  exact h v σ' g.1 ⟨g.2, kS_f8 (fun k hk => f.1 k ((by decide : ∀ k, k ∈ ke8 → k ∉ [0, 94]) k hk)) (fun k hk => f.2.2.1 k ((by decide : ∀ k, k ∈ kx8 → k ∉ [83]) k hk))⟩)
theorem show_j (hC : cOK C) (J : rJ σ) {Q : Int32 → rS → Prop} (h : ∀ v σ', rJ σ' → pR8 σ σ' → Q v σ') : cI C 8 m_show [.ref (co C), .int a1, .int a2] σ Q := show_c hC _ ⟨pOK_of J.2.2.1, rfl, J.2.2.2.1, J.2.2.2.2.1, J.2.2.2.2.2.1, J.2.2.2.2.2.2.1⟩ (fun v σ' q => by
  obtain ⟨f, s⟩ := q
  have r : ∀ k, k ∈ rjY → σ'.2.2.1 k = σ.2.2.1 k := fun k hk => f.2.2.1 k ((by decide : ∀ k, k ∈ rjY → k ≠ 90) k hk) ((by decide : ∀ k, k ∈ rjY → k ≠ 91) k hk)
  have g := rJ_x J (fun k hk => f.1 k ((by decide : ∀ k, k ∈ rjA → k ∉ shF) k hk)) (fun k hk => r k ((by decide : ∀ k, k ∈ rjZ → k ∈ rjY) k hk)) (fun j => by rw [f.2.2.2.1]) (exP_o J.2.2.1 (fun k hk => f.1 k (by rcases hk with z | z | z | z <;> rw [z] <;> decide)) (fun k hk => r k (by rcases hk with z | z | z | z | z | z | z | z <;> rw [z] <;> decide))) (jVs_o J.2.2.2.1 (by rw [f.1 94 (by decide)]; exact fun y => y) (f.1 70 (by decide)) (r 102 (by decide))) (jWo_o J.2.2.2.2.1 (by rw [f.1 114 (by decide)]; exact fun y => y) (f.1 70 (by decide)) (r 115 (by decide)) (r 116 (by decide))) (plN_o J.2.2.2.2.2.1 (by rw [f.1 106 (by decide)]; exact fun y => y) (fun k hk => f.2.2.2.2 k (by rcases hk with z | z <;> rw [z] <;> decide))) s
  exact h v σ' g.1 ⟨g.2, kS_f8 (fun k hk => f.1 k ((by decide : ∀ k, k ∈ ke8 → k ∉ shF) k hk)) (fun k hk => f.2.2.1 k ((by decide : ∀ k, k ∈ kx8 → k ≠ 90) k hk) ((by decide : ∀ k, k ∈ kx8 → k ≠ 91) k hk))⟩)
theorem solve_j (hC : cOK C) (J : rJ σ) {Q : Int32 → rS → Prop} (h : ∀ v σ', rJ σ' → pR8 σ σ' → Q v σ') : cI C 8 m_solve [.ref (co C)] σ Q := solve_c hC _ ⟨pOK_of J.2.2.1, rfl, J.2.2.2.1⟩ (fun v σ' q => by
  obtain ⟨f, s, n⟩ := q
  have e70 := f.1 70 (by decide)
  have g := rJ_x J (fun k hk => f.1 k ((by decide : ∀ k, k ∈ rjA → k ∉ slF) k hk)) (fun k hk => f.2.2.1 k ((by decide : ∀ k, k ∈ rjZ → k ∉ slR) k hk)) (fun j => by rw [f.2.2.2 8 (by decide)]) (exP_o J.2.2.1 (fun k hk => f.1 k (by rcases hk with z | z | z | z <;> rw [z] <;> decide)) (fun k hk => f.2.2.1 k (by rcases hk with z | z | z | z | z | z | z | z <;> rw [z] <;> decide))) (fun y k hk => s y k (by rw [← e70]; exact hk)) (jWo_o J.2.2.2.2.1 (by rw [f.1 114 (by decide)]; exact fun y => y) e70 (f.2.2.1 115 (by decide)) (f.2.2.1 116 (by decide))) (plN_o J.2.2.2.2.2.1 (by rw [f.1 106 (by decide)]; exact fun y => y) (fun k hk => n k (by omega))) (shO_o J.2.2.2.2.2.2.1 (f.1 103 (by decide)) (fun k hk => n k (by omega)))
  exact h v σ' g.1 ⟨g.2, kS_f8 (fun k hk => f.1 k ((by decide : ∀ k, k ∈ ke8 → k ∉ slF) k hk)) (fun k hk => f.2.2.1 k ((by decide : ∀ k, k ∈ kx8 → k ∉ slR) k hk))⟩)
theorem best_j (hC : cOK C) (J : rJ σ) {Q : Int32 → rS → Prop} (h : ∀ v σ', rJ σ' → pR8 σ σ' → Q v σ') : cI C 7 m_best [.ref (co C)] σ Q := best_c hC _ ⟨J.2.2.1, rfl, J.2.2.2.2.1⟩ (fun v σ' q => by
  obtain ⟨f, e, s, v4, n⟩ := q
  have e70 := f.1 70 (by decide)
  have g := rJ_x J (fun k hk => f.1 k ((by decide : ∀ k, k ∈ rjA → k ∉ bfF) k hk)) (fun k hk => f.2.2.1 k ((by decide : ∀ k, k ∈ rjZ → k ∉ bfR) k hk)) (fun j => by rw [f.2.2.2 8 (by decide)]) e (jVs_o J.2.2.2.1 v4 e70 (f.2.2.1 102 (by decide))) (fun y k hk => s y k (by rw [← e70]; exact hk)) (plN_o J.2.2.2.2.2.1 (by rw [f.1 106 (by decide)]; exact fun y => y) (fun k hk => n k (by omega))) (shO_o J.2.2.2.2.2.2.1 (f.1 103 (by decide)) (fun k hk => n k (by omega)))
  exact h v σ' g.1 ⟨g.2, kS_f8 (fun k hk => f.1 k ((by decide : ∀ k, k ∈ ke8 → k ∉ bfF) k hk)) (fun k hk => f.2.2.1 k ((by decide : ∀ k, k ∈ kx8 → k ∉ bfR) k hk))⟩)
theorem explore_j (hC : cOK C) (J : rJ σ) {Q : Int32 → rS → Prop} (h : ∀ v σ', rJ σ' → pR7 σ σ' → XS6 a1 σ σ' v → Q v σ') : cI C 11 m_explore [.ref (co C), .int a1] σ Q := explore_g5 hC ⟨J.2.1.2.1, J.2.1.2.2, J.2.2.1⟩ (fun v σ' q => by
  obtain ⟨⟨f, e, -, -, z⟩, xs⟩ := q
  have r0 := f.2.2.1 90 (by decide)
  have r1 := f.2.2.1 91 (by decide)
  have g := rJ_x J (fun k hk => f.1 k ((by decide : ∀ k, k ∈ rjA → k ∉ xpF) k hk)) (fun k hk => f.2.2.1 k ((by decide : ∀ k, k ∈ rjZ → k ∉ xpR) k hk)) (fun j => by rw [f.2.2.2 8 (by decide)]) e (by
    rcases z with z | z
    · exact jVs_o J.2.2.2.1 (by rw [z.1 94 (by decide)]; exact fun y => y) (z.1 70 (by decide)) (by rw [z.2])
    · exact fun y => absurd z.1 y) (by
    rcases z with z | z
    · exact jWo_o J.2.2.2.2.1 (by rw [z.1 114 (by decide)]; exact fun y => y) (z.1 70 (by decide)) (by rw [z.2]) (by rw [z.2])
    · exact fun y => absurd z.2 y) (plN_o J.2.2.2.2.2.1 (by rw [f.1 106 (by decide)]; exact fun y => y) (fun k hk => ⟨by rw [r1], fun i _ => by rw [r0]⟩)) (shO_o J.2.2.2.2.2.2.1 (f.1 103 (by decide)) (fun k hk => ⟨by rw [r1], fun i _ => by rw [r0]⟩))
  exact h v σ' g.1 g.2 xs)
theorem program_j (hC : cOK C) (J : rJ σ) {Q : Int32 → rS → Prop} (h : ∀ v σ', rJ σ' → oR9 σ' = ((fun _ => 0, 0, σ'.1 53) : Ob9) → pQ9 σ v σ' → Q v σ') : cI C 13 m_program [.ref (co C)] σ Q := program_c9 hC ⟨J.2.1.1, J.1.1, J.1.2, J.2.1.2.1, J.2.1.2.2⟩ (fun v σ' q => by
  obtain ⟨⟨b3, b2, ty, pg, f, z⟩, pq⟩ := q
  have r0 := f.2.2.1 90 (by decide)
  have r1 := f.2.2.1 91 (by decide)
  have e104 := f.1 104 (by decide)
  have e88 := f.1 88 (by decide)
  refine h v σ' ⟨by rw [b2]; decide, ⟨b3, ty, pg⟩, ?_, ?_, ?_, ?_, shO_o J.2.2.2.2.2.2.1 (f.1 103 (by decide)) (fun k hk => ⟨by rw [r1], fun i _ => by rw [r0]⟩), by rw [e104]; exact J.2.2.2.2.2.2.2⟩ (by unfold oR9; rw [b2]; exact mk_09) pq
  · rcases z with z | z
    · exact exP_o J.2.2.1 (fun k hk => by
        rcases hk with y | y | y | y <;> rw [y]
        · exact z.2.2.1
        · exact z.2.2.2.1
        · exact z.2.2.2.2.1
        · exact e88) (fun k hk => f.2.2.1 k (by rcases hk with z | z | z | z | z | z | z | z <;> rw [z] <;> decide))
    · exact exP_0 z.2.2.1 z.2.2.2.1 z.2.2.2.2.1 (by rw [e88]; exact rj_88 J)
  · rcases z with z | z
    · exact jVs_o J.2.2.2.1 (by rw [z.2.2.2.2.2.1]; exact fun y => y) z.2.2.1 (f.2.2.1 102 (by decide))
    · exact fun y => absurd z.2.2.2.2.2.1 y
  · rcases z with z | z
    · exact jWo_o J.2.2.2.2.1 (by rw [z.2.2.2.2.2.2.2]; exact fun y => y) z.2.2.1 (f.2.2.1 115 (by decide)) (f.2.2.1 116 (by decide))
    · exact fun y => absurd z.2.2.2.2.2.2.2 y
  · refine plN_o J.2.2.2.2.2.1 ?_ (fun k hk => ⟨by rw [r1], fun i _ => by rw [r0]⟩)
    rcases z with z | z
    · rw [z.2.2.2.2.2.2.1]; exact fun y => y
    · exact fun y => absurd z.2.2.2.2.2.2.1 y)
theorem rJ_w {σ ρ τ : rS} (J : rJ σ) (hρ : ∀ k, k ≠ 113 → ρ.1 k = σ.1 k) (hs : ρ.2.2 = σ.2.2) (f : frW ρ τ) (p : plN τ) : rJ τ ∧ pR8 σ τ := by
  have ef : ∀ k, k ∉ pyF → k ≠ 113 → τ.1 k = σ.1 k := fun k z1 z2 => (f.1 k z1).trans (hρ k z2)
  have er : ∀ k, k ≠ 90 → k ≠ 91 → k ∉ pyR → τ.2.2.1 k = σ.2.2.1 k := fun k z1 z2 z3 => (f.2.2.1 k z1 z2 z3).trans (by rw [hs])
  have g := rJ_x J (fun k hk => ef k ((by decide : ∀ k, k ∈ rjA → k ∉ pyF) k hk) ((by decide : ∀ k, k ∈ rjA → k ≠ 113) k hk)) (fun k hk => er k ((by decide : ∀ k, k ∈ rjZ → k ≠ 90) k hk) ((by decide : ∀ k, k ∈ rjZ → k ≠ 91) k hk) ((by decide : ∀ k, k ∈ rjZ → k ∉ pyR) k hk)) (fun j => (f.2.2.2.1 8 j).trans (by rw [hs])) (exP_o J.2.2.1 (fun k hk => ef k (by rcases hk with z | z | z | z <;> rw [z] <;> decide) (by rcases hk with z | z | z | z <;> rw [z] <;> decide)) (fun k hk => er k (by rcases hk with z | z | z | z | z | z | z | z <;> rw [z] <;> decide) (by rcases hk with z | z | z | z | z | z | z | z <;> rw [z] <;> decide) (by rcases hk with z | z | z | z | z | z | z | z <;> rw [z] <;> decide))) (jVs_o J.2.2.2.1 (by rw [ef 94 (by decide) (by decide)]; exact fun y => y) (ef 70 (by decide) (by decide)) (er 102 (by decide) (by decide) (by decide))) (jWo_o J.2.2.2.2.1 (by rw [ef 114 (by decide) (by decide)]; exact fun y => y) (ef 70 (by decide) (by decide)) (er 115 (by decide) (by decide) (by decide)) (er 116 (by decide) (by decide) (by decide))) p (shO_o J.2.2.2.2.2.2.1 (ef 103 (by decide) (by decide)) (fun k hk => by
    have y := f.2.2.2.2 k (by rcases hk with z | z <;> rw [z] <;> decide)
    rw [hs] at y
    exact y))
  exact ⟨g.1, g.2, kS_f8 (fun k hk => ef k ((by decide : ∀ k, k ∈ ke8 → k ∉ pyF) k hk) ((by decide : ∀ k, k ∈ ke8 → k ≠ 113) k hk)) (fun k hk => er k ((by decide : ∀ k, k ∈ kx8 → k ≠ 90) k hk) ((by decide : ∀ k, k ∈ kx8 → k ≠ 91) k hk) ((by decide : ∀ k, k ∈ kx8 → k ∉ pyR) k hk))⟩
theorem rj_T (J : rJ σ) : ∃ T, (σ.1 14 ≠ 0 → rI σ (σ.1 3) T) := by
  by_cases z : σ.1 14 = 0
  · exact ⟨0, fun y => absurd z y⟩
  · obtain ⟨T, g⟩ := J.2.1.2.2 z
    exact ⟨T, fun _ => ⟨J.2.1.2.1, g⟩⟩
theorem play_j {x : Int64} (hC : cOK C) (J : rJ σ) {Q : Int32 → rS → Prop} (h : ∀ v σ', rJ σ' → pR8 σ σ' → Q v σ') : cI C 11 m_play [.ref (co C), .long x, .int a1] σ Q := by
  obtain ⟨T, hT⟩ := rj_T J
  exact play_c hC T ⟨hT, J.2.2.1, J.2.2.2.2.2.2.2.1, J.2.2.2.2.2.2.2.2, J.2.2.2.2.2.1⟩ (fun v σ' q => h v σ' (rJ_w (ρ := siU (slU σ 112 x) 113 1) J (fun k hk => if_neg hk) rfl q.1 q.2).1 (rJ_w (ρ := siU (slU σ 112 x) 113 1) J (fun k hk => if_neg hk) rfl q.1 q.2).2)
theorem walk_j (hC : cOK C) (J : rJ σ) {Q : Int32 → rS → Prop} (h : ∀ v σ', rJ σ' → pR8 σ σ' → Q v σ') : cI C 11 m_walk [.ref (co C), .int a1] σ Q := by
  obtain ⟨T, hT⟩ := rj_T J
  exact walk_c hC T ⟨hT, J.2.2.1, J.2.2.2.2.2.2.2.1, J.2.2.2.2.2.2.2.2, J.2.2.2.2.2.1⟩ (fun v σ' q => h v σ' (rJ_w (ρ := siU σ 113 0) J (fun k hk => if_neg hk) rfl q.1 q.2).1 (rJ_w (ρ := siU σ 113 0) J (fun k hk => if_neg hk) rfl q.1 q.2).2)
end callz

end
section
set_option maxHeartbeats 1600000
/-! the reference: next, ending, value by what they answer; what holds behind them -/
section callx
variable {C : rCx} {σ : rS} {a1 a2 a3 : Int32}
theorem next_j8 (hC : cOK C) (J : rJ σ) {Q : Int32 → rS → Prop} (h : ∀ v σ', rJ σ' → pR8 σ σ' → XN8 a1 a2 a3 σ σ' v → Q v σ') : cI C 1 m_next [.ref (co C), .int a1, .int a2, .int a3] σ Q := next_g5 hC J.2.2.1 (fun v σ' q => h v σ' (rJ_G J q.1).1 (rJ_G J q.1).2 q.2)
theorem value_j8 (hC : cOK C) (J : rJ σ) {Q : Int32 → rS → Prop} (h : ∀ v σ', rJ σ' → pR8 σ σ' → XV8 a1 a2 a3 σ σ' v → Q v σ') : cI C 1 m_value [.ref (co C), .int a1, .int a2, .int a3] σ Q := value_g5 hC ⟨J.2.2.1, J.2.1.2.1⟩ (fun v σ' q => h v σ' (rJ_G J q.1).1 (rJ_G J q.1).2 q.2)
theorem ending_j8 (hC : cOK C) (J : rJ σ) {Q : Int32 → rS → Prop} (h : ∀ v σ', rJ σ' → pR8 σ σ' → XE8 a1 a2 σ σ' v → Q v σ') : cI C 0 m_ending [.ref (co C), .int a1, .int a2] σ Q := ending_g5 hC ⟨J.2.2.1, J.2.1.2.1⟩ (fun v σ' q => h v σ' (rJ_G J q.1).1 (rJ_G J q.1).2 q.2)
theorem state_j8 (hC : cOK C) (J : rJ σ) {Q : Int32 → rS → Prop} (h : ∀ v σ', rJ σ' → pR8 σ σ' → XT8 a1 a2 σ σ' v → Q v σ') : cI C 1 m_state [.ref (co C), .int a1, .int a2] σ Q := state_g5 hC J.2.2.1 (fun v σ' q => h v σ' (rJ_G J q.1).1 (rJ_G J q.1).2 q.2)
end callx

end
