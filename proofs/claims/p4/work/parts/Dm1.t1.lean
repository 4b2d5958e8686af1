set_option maxHeartbeats 1600000
/-! both tapes by the same bytes: blanks -/
theorem sk_sq5 {B : Nat → Int32} {n p : Nat} {c : Bool} (h : p < n) : skqq5 B n c p = if B p = 10 then skqq5 B n false (p + 1) else if B p = 35 then skqq5 B n true (p + 1) else if c = true ∨ B p = 9 ∨ B p = 13 ∨ B p = 32 then skqq5 B n c (p + 1) else p := by
  conv => lhs; rw [skqq5]
  rw [if_pos h]
theorem sk_eq5 {B : Nat → Int32} {n p : Nat} {c : Bool} (h : ¬ p < n) : skqq5 B n c p = n := by
  rw [skqq5, if_neg h]
theorem sk_b5 {B : Nat → Int32} {n p : Nat} {c : Bool} : skqq5 B n c p ≤ n := by
  fun_induction skqq5 B n c p with
  | case1 c p h1 h2 ih => exact ih
  | case2 c p h1 h2 h3 ih => exact ih
  | case3 c p h1 h2 h3 h4 ih => exact ih
  | case4 c p h1 h2 h3 h4 => omega
  | case5 c p h1 => omega
def bU5 (U : U5) : Nat → Int32 := fun j => U.1 j &&& 255
def nU5 (U : U5) : Nat := U.2.1.toInt.toNat
def okU5 (U : U5) : Prop := 0 ≤ U.2.1.toInt ∧ U.2.1.toInt ≤ U.2.2 ∧ U.2.2 ≤ 67108864
theorem nc_5 {x : Int32} : x.toNatClampNeg = x.toInt.toNat := rfl
theorem by_5 {U : U5} {a : Int32} (H : okU5 U) (h : 0 ≤ a.toInt) : f5_Ta_byteAt U a = bAqq5 (bU5 U) (nU5 U) a.toInt.toNat := by
  unfold f5_Ta_byteAt bAqq5 nU5 bU5
  rw [if_neg (by rw [lti, t0i]; omega)]
  by_cases z : U.2.1 ≤ a
  · rw [if_pos z, if_neg (by rw [lei] at z; omega)]
  · have hn := ofn_i H.2.2
    rw [if_neg z]
    rw [lei] at z
    rw [if_neg (by rw [lei, hn]; have := H.2.1; omega), if_pos (by omega)]
    rfl
theorem dg_5 {c : Int32} : f5_Ta_isDigit c = if isDqq5 c = true then 1 else 0 := by
  unfold f5_Ta_isDigit isDqq5
  grind
theorem le_5 {c : Int32} : f5_Ta_isLetter c = if isLqq5 c = true then 1 else 0 := by
  unfold f5_Ta_isLetter f5_Ta_isLetter_12 f5_Ta_isLetter_24 isLqq5
  grind
theorem ba_5 {B : Nat → Int32} {n p : Nat} (h : p < n) : bAqq5 B n p = B p := if_pos h
theorem in_5 {x : Int32} {n : Int} (h0 : 0 ≤ x.toInt) (h : x.toInt < n) (hn : n ≤ 67108864) : (x + 1).toInt = x.toInt + 1 := by
  rw [add_i (by rw [t1i]; omega) (by rw [t1i]; omega), t1i]
theorem sk_m5 {U : U5} (H : okU5 U) : ∀ (m : Nat) (c a : Int32), 0 ≤ a.toInt → a.toInt ≤ U.2.1.toInt → (U.2.1.toInt - a.toInt).toNat < m → (f5_Ta_skipBlanks_4 U m c a).toInt = skqq5 (bU5 U) (nU5 U) (decide (c ≠ 0)) a.toInt.toNat
  | 0, _, _, _, _, h => by omega
  | m + 1, c, a, h0, h1, h => by
    have hn := H.2.1
    have hm := H.2.2
    unfold f5_Ta_skipBlanks_4
    dsimp only [pb5]
    by_cases z : U.2.1 ≤ a
    · rw [if_pos z, sk_eq5 (by rw [lei] at z; unfold nU5; omega)]
      have := H.1
      unfold nU5
      omega
    · rw [if_neg z]
      rw [lei] at z
      have lt : a.toInt.toNat < nU5 U := by unfold nU5; omega
      have e1 : (a + 1).toInt = a.toInt + 1 := in_5 (n := U.2.1.toInt) h0 (by omega) (by omega)
      have e2 : (a + 1).toInt.toNat = a.toInt.toNat + 1 := by omega
      have ih : ∀ d : Int32, (f5_Ta_skipBlanks_4 U m d (a + 1)).toInt = skqq5 (bU5 U) (nU5 U) (decide (d ≠ 0)) (a.toInt.toNat + 1) := fun d => by
        rw [← e2]
        exact sk_m5 H m d (a + 1) (by omega) (by omega) (by omega)
      rw [by_5 H h0, ba_5 lt, sk_sq5 lt]
      by_cases c1 : bU5 U a.toInt.toNat = 10
      · rw [if_pos c1, if_pos c1, ih]
        rfl
      · rw [if_neg c1, if_neg c1]
        by_cases c2 : bU5 U a.toInt.toNat = 35
        · rw [if_pos c2, if_pos c2, ih]
          rfl
        · rw [if_neg c2, if_neg c2]
          by_cases c3 : c = 0
          · rw [if_pos c3]
            by_cases c4 : bU5 U a.toInt.toNat = 9
            · rw [if_pos c4, if_pos (Or.inr (Or.inl c4)), ih]
            · rw [if_neg c4]
              by_cases c5 : bU5 U a.toInt.toNat = 13
              · rw [if_pos c5, if_pos (Or.inr (Or.inr (Or.inl c5))), ih]
              · rw [if_neg c5]
                by_cases c6 : bU5 U a.toInt.toNat = 32
                · rw [if_pos c6, if_pos (Or.inr (Or.inr (Or.inr c6))), ih]
                · rw [if_neg c6, if_neg (fun q => by
                    rcases q with q | q | q | q
                    · exact absurd c3 (of_decide_eq_true q)
                    · exact c4 q
                    · exact c5 q
                    · exact c6 q)]
                  omega
          · rw [if_neg c3, if_pos (Or.inl (decide_eq_true c3)), ih]
/-- the class's blanks -/
theorem sk_U5 {U : U5} {a : Int32} (H : okU5 U) (h0 : 0 ≤ a.toInt) (h1 : a.toInt ≤ U.2.1.toInt) : (f5_Ta_skipBlanks U a).toInt = skqq5 (bU5 U) (nU5 U) false a.toInt.toNat := by
  unfold f5_Ta_skipBlanks
  rw [sk_m5 H fu5 0 a h0 h1 (by have := H.2.1; have := H.2.2; unfold fu5; omega)]
  rfl
def bS5 (σ : rS) : Nat → Int32 := fun j => σ.2.2.1 1 j &&& 255
def nS5 (σ : rS) : Nat := (σ.1 2).toInt.toNat
def okS5 (σ : rS) : Prop := 0 ≤ (σ.1 2).toInt ∧ (σ.1 2).toInt ≤ 65536
theorem bs_5 {σ : rS} {a : Int32} (h : 0 ≤ a.toInt) : g5_byteAt a σ = bAqq5 (bS5 σ) (nS5 σ) a.toInt.toNat := by
  unfold g5_byteAt bAqq5 nS5 bS5
  by_cases z : σ.1 2 ≤ a
  · rw [if_pos z, if_neg (by rw [lei] at z; omega)]
  · rw [if_neg z]
    rw [lei] at z
    rw [if_pos (by omega)]
    rfl
theorem gd_5 {c : Int32} {σ : rS} : g5_isDigit c σ = if isDqq5 c = true then 1 else 0 := by
  unfold g5_isDigit isDqq5
  grind
theorem gl_5 {c : Int32} {σ : rS} : g5_isLetter c σ = if isLqq5 c = true then 1 else 0 := by
  unfold g5_isLetter g5_isLetter_12 g5_isLetter_24 isLqq5
  grind
theorem gb_5 {c : Int32} {σ : rS} : g5_isBlank c σ = if c = 9 ∨ c = 10 ∨ c = 13 ∨ c = 32 then 1 else 0 := by
  unfold g5_isBlank
  grind
/-- inside a remark -/
theorem sk_i5 {σ : rS} (H : okS5 σ) (K : Int32 → rS → Int32) (q : Nat) (hK : ∀ b : Int32, 0 ≤ b.toInt → b.toInt ≤ (σ.1 2).toInt → q < b.toInt → (K b σ).toInt = skqq5 (bS5 σ) (nS5 σ) false b.toInt.toNat) : ∀ (m : Nat) (a : Int32), 0 ≤ a.toInt → a.toInt ≤ (σ.1 2).toInt → q < a.toInt → ((σ.1 2).toInt - a.toInt).toNat < m → (g5_skip_33 K m a σ).toInt = skqq5 (bS5 σ) (nS5 σ) true a.toInt.toNat
  | 0, _, _, _, _, h => by omega
  | m + 1, a, h0, h1, hq, h => by
    have hn := H.2
    unfold g5_skip_33
    dsimp only [pb5]
    by_cases z : σ.1 2 ≤ a
    · rw [if_pos z]
      rw [lei] at z
      rw [hK a h0 h1 hq, sk_eq5 (by unfold nS5; omega), sk_eq5 (by unfold nS5; omega)]
    · rw [if_neg z]
      rw [lei] at z
      have lt : a.toInt.toNat < nS5 σ := by unfold nS5; omega
      have e1 : (a + 1).toInt = a.toInt + 1 := in_5 (n := (σ.1 2).toInt) h0 (by omega) (by omega)
      have e2 : (a + 1).toInt.toNat = a.toInt.toNat + 1 := by omega
      rw [bs_5 h0, ba_5 lt]
      by_cases c1 : bS5 σ a.toInt.toNat = 10
      · rw [if_pos c1, hK a h0 h1 hq, sk_sq5 lt, sk_sq5 lt, if_pos c1, if_pos c1]
      · rw [if_neg c1, sk_i5 H K q hK m (a + 1) (by omega) (by omega) (by omega) (by omega), e2, sk_sq5 lt, if_neg c1]
        by_cases c2 : bS5 σ a.toInt.toNat = 35
        · rw [if_pos c2]
        · rw [if_neg c2, if_pos (Or.inl rfl)]
theorem sk_r5 {σ : rS} (H : okS5 σ) : ∀ (m : Nat) (a : Int32), 0 ≤ a.toInt → a.toInt ≤ (σ.1 2).toInt → ((σ.1 2).toInt - a.toInt).toNat < m → (g5_skip_2 m a σ).toInt = skqq5 (bS5 σ) (nS5 σ) false a.toInt.toNat
  | 0, _, _, _, h => by omega
  | m + 1, a, h0, h1, h => by
    have hn := H.2
    unfold g5_skip_2
    dsimp only [pb5]
    by_cases z : a.toInt < (σ.1 2).toInt
    · have lt : a.toInt.toNat < nS5 σ := by unfold nS5; omega
      have e1 : (a + 1).toInt = a.toInt + 1 := in_5 (n := (σ.1 2).toInt) h0 (by omega) (by omega)
      have e2 : (a + 1).toInt.toNat = a.toInt.toNat + 1 := by omega
      rw [bs_5 h0, ba_5 lt, gb_5, sk_sq5 lt]
      have ih := sk_r5 H m (a + 1) (by omega) (by omega) (by omega)
      rw [e2] at ih
      have go : g5_skip_23 (g5_skip_2 m) a σ = if bS5 σ a.toInt.toNat = 35 then g5_skip_33 (g5_skip_2 m) fu5 a σ else g5_skip_2 m (a + 1) σ := by
        unfold g5_skip_23
        dsimp only [pb5]
        rw [bs_5 h0, ba_5 lt]
      rw [go]
      by_cases c2 : bS5 σ a.toInt.toNat = 35
      · have nb : ¬ (bS5 σ a.toInt.toNat = 9 ∨ bS5 σ a.toInt.toNat = 10 ∨ bS5 σ a.toInt.toNat = 13 ∨ bS5 σ a.toInt.toNat = 32) := by rw [c2]; decide
        rw [if_neg nb, if_pos rfl, if_pos c2, if_pos c2, if_neg (by rw [c2]; decide), if_pos c2]
        obtain ⟨f, hf⟩ := fu_s5
        rw [hf]
        unfold g5_skip_33
        dsimp only [pb5]
        rw [if_neg (by rw [lei]; omega), bs_5 h0, ba_5 lt, if_neg (by rw [c2]; decide)]
        rw [sk_i5 H (g5_skip_2 m) a.toInt.toNat (fun b b0 b1 hp => sk_r5 H m b b0 b1 (by omega)) f (a + 1) (by omega) (by omega) (by omega) (by
          have : fu5 = 4294967296 := rfl
          omega), e2]
      · by_cases c3 : bS5 σ a.toInt.toNat = 9 ∨ bS5 σ a.toInt.toNat = 10 ∨ bS5 σ a.toInt.toNat = 13 ∨ bS5 σ a.toInt.toNat = 32
        · rw [if_pos c3, if_neg (by decide), if_neg c2, ih]
          by_cases c1 : bS5 σ a.toInt.toNat = 10
          · rw [if_pos c1]
          · rw [if_neg c1, if_neg c2, if_pos (by
              rcases c3 with q | q | q | q
              · exact Or.inr (Or.inl q)
              · exact absurd q c1
              · exact Or.inr (Or.inr (Or.inl q))
              · exact Or.inr (Or.inr (Or.inr q)))]
        · rw [if_neg c3, if_pos rfl, if_neg c2, if_neg (fun q => c3 (Or.inr (Or.inl q))), if_neg c2, if_neg (fun q => by
            rcases q with q | q | q | q
            · cases q
            · exact c3 (Or.inl q)
            · exact c3 (Or.inr (Or.inr (Or.inl q)))
            · exact c3 (Or.inr (Or.inr (Or.inr q))))]
          omega
    · have lt : ¬ a.toInt.toNat < nS5 σ := by unfold nS5; omega
      rw [bs_5 h0, sk_eq5 lt]
      have e : bAqq5 (bS5 σ) (nS5 σ) a.toInt.toNat = -1 := if_neg lt
      rw [e, gb_5, if_pos (by decide), if_neg (by decide)]
      have := H.1
      unfold nS5
      omega
/-- the reference's blanks -/
theorem sk_S5 {σ : rS} {a : Int32} (H : okS5 σ) (h0 : 0 ≤ a.toInt) (h1 : a.toInt ≤ (σ.1 2).toInt) : (g5_skip a σ).toInt = skqq5 (bS5 σ) (nS5 σ) false a.toInt.toNat := by
  unfold g5_skip
  exact sk_r5 H fu5 a h0 h1 (by have := H.2; unfold fu5; omega)
