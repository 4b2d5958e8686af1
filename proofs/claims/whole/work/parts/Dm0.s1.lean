section
set_option maxHeartbeats 1600000
/-! tokens out of bytes -/
def isLqq5 (c : Int32) : Bool := (decide (97 ≤ c) && decide (c ≤ 122)) || (decide (65 ≤ c) && decide (c ≤ 90)) || decide (c = 95)
def isDqq5 (c : Int32) : Bool := decide (48 ≤ c) && decide (c ≤ 57)
/-- a byte of the tape, -1 behind it -/
def bAqq5 (B : Nat → Int32) (n p : Nat) : Int32 := if p < n then B p else -1
/-- blanks and remarks skipped, from inside a remark or not -/
def skqq5 (B : Nat → Int32) (n : Nat) (c : Bool) (p : Nat) : Nat := if p < n then (if B p = 10 then skqq5 B n false (p + 1) else if B p = 35 then skqq5 B n true (p + 1) else if c = true ∨ B p = 9 ∨ B p = 13 ∨ B p = 32 then skqq5 B n c (p + 1) else p) else n
termination_by n - p
/-- where a run of bytes of a sort ends -/
def rnqq5 (f : Int32 → Bool) (B : Nat → Int32) (n p : Nat) : Nat := if p < n ∧ f (B p) = true then rnqq5 f B n (p + 1) else p
termination_by n - p
/-- where a token ends -/
def tEnq5 (B : Nat → Int32) (n p : Nat) : Nat := if isLqq5 (B p) = true then rnqq5 (fun x => isLqq5 x || isDqq5 x) B n (p + 1) else if isDqq5 (B p) = true then rnqq5 isDqq5 B n (p + 1) else if (B p = 61 ∨ B p = 33 ∨ B p = 60 ∨ B p = 62) ∧ bAqq5 B n (p + 1) = 61 then p + 2 else p + 1
/-- its bytes -/
def nmqq5 (B : Nat → Int32) (p s : Nat) : List Int32 := (List.range s).map (fun i => B (p + i))
def wdqq5 : List (List Int32 × Int32) := [([118, 97, 114], 150), ([97, 114, 114], 151), ([102, 117, 110, 99], 152), ([108, 111, 99, 97, 108], 153), ([105, 102], 154), ([101, 108, 115, 101], 155), ([119, 104, 105, 108, 101], 156), ([114, 101, 116, 117, 114, 110], 157), ([111, 98, 115, 101, 114, 118, 101], 158), ([103, 97, 105, 110], 159), ([112, 105, 99, 107], 160), ([102, 108, 105, 112], 161), ([99, 104, 111, 111, 115, 101], 162)]
def wkqq5 (l : List Int32) : Int32 := match wdqq5.lookup l with
  | some k => k
  | none => 140
def sGnq5 : List Int32 := [40, 41, 123, 125, 91, 93, 59, 44, 58, 126, 61, 60, 62, 43, 45, 42, 47, 37, 38, 124, 33]
/-- its kind -/
def tyqq5 (B : Nat → Int32) (n p : Nat) : Int32 := if isLqq5 (B p) = true then (if 12 < tEnq5 B n p - p then 143 else wkqq5 (nmqq5 B p (tEnq5 B n p - p))) else if isDqq5 (B p) = true then (if 9 < tEnq5 B n p - p then 143 else 141) else if tEnq5 B n p = p + 2 then (if B p = 61 then 128 else if B p = 33 then 129 else if B p = 60 then 130 else 131) else if B p ∈ sGnq5 then B p else 143
theorem rn_leqq5 {f : Int32 → Bool} {B : Nat → Int32} {n p : Nat} : p ≤ rnqq5 f B n p := by
  fun_induction rnqq5 f B n p with
  | case1 p h ih => omega
  | case2 p h => omega
theorem te_ltqq5 {B : Nat → Int32} {n p : Nat} : p < tEnq5 B n p := by
  unfold tEnq5
  split
  · exact rn_leqq5
  · split
    · exact rn_leqq5
    · split <;> omega
theorem sk_leqq5 {B : Nat → Int32} {n p : Nat} {c : Bool} (h : p ≤ n) : p ≤ skqq5 B n c p := by
  fun_induction skqq5 B n c p with
  | case1 c p h1 h2 ih => have := ih (by omega); omega
  | case2 c p h1 h2 h3 ih => have := ih (by omega); omega
  | case3 c p h1 h2 h3 h4 ih => have := ih (by omega); omega
  | case4 c p h1 h2 h3 h4 => omega
  | case5 c p h1 => omega
/-- the tokens from a place on: place, size, kind; the last is the end or a bad one -/
def tlqq5 (B : Nat → Int32) (n p : Nat) : List (Nat × Nat × Int32) := if skqq5 B n false p < n ∧ p ≤ skqq5 B n false p then (if tyqq5 B n (skqq5 B n false p) = 143 then [(skqq5 B n false p, tEnq5 B n (skqq5 B n false p) - skqq5 B n false p, 143)] else (skqq5 B n false p, tEnq5 B n (skqq5 B n false p) - skqq5 B n false p, tyqq5 B n (skqq5 B n false p)) :: tlqq5 B n (tEnq5 B n (skqq5 B n false p))) else [(n, 0, 142)]
termination_by n - p
decreasing_by
  have h := @te_ltqq5 B n (skqq5 B n false p)
  omega
def nvqq5 (l : List Int32) : Int32 := l.foldl (fun v d => v * 10 + d - 48) 0

end
section
set_option maxHeartbeats 1600000
/-! both tapes by the same bytes: blanks -/
theorem sk_sq5 {B : Nat → Int32} {n p : Nat} {c : Bool} (h : p < n) : skqq5 B n c p = if B p = 10 then skqq5 B n false (p + 1) else if B p = 35 then skqq5 B n true (p + 1) else if c = true ∨ B p = 9 ∨ B p = 13 ∨ B p = 32 then skqq5 B n c (p + 1) else p := by
  conv => lhs; rw [skqq5]
  rw [if_pos h]
theorem sk_eq5 {B : Nat → Int32} {n p : Nat} {c : Bool} (h : ¬ p < n) : skqq5 B n c p = n := by
  rw [skqq5, if_neg h]
theorem sk_b5 {B : Nat → Int32} {n p : Nat} {c : Bool} : skqq5 B n c p ≤ n := by
  fun_induction skqq5 B n c p with
  | case1 c p h1 h2 ih => exact ih
  | case2 c p h1 h2 h3 ih => exact ih
  | case3 c p h1 h2 h3 h4 ih => exact ih
  | case4 c p h1 h2 h3 h4 => omega
  | case5 c p h1 => omega
def bU5 (U : U5) : Nat → Int32 := fun j => U.1 j &&& 255
def nU5 (U : U5) : Nat := U.2.1.toInt.toNat
def okU5 (U : U5) : Prop := 0 ≤ U.2.1.toInt ∧ U.2.1.toInt ≤ U.2.2 ∧ U.2.2 ≤ 67108864
theorem nc_5 {x : Int32} : x.toNatClampNeg = x.toInt.toNat := rfl
theorem by_5 {U : U5} {a : Int32} (H : okU5 U) (h : 0 ≤ a.toInt) : f5_Ta_byteAt U a = bAqq5 (bU5 U) (nU5 U) a.toInt.toNat := by
  unfold f5_Ta_byteAt bAqq5 nU5 bU5
  rw [if_neg (by rw [lti, t0i]; omega)]
  by_cases z : U.2.1 ≤ a
  · rw [if_pos z, if_neg (by rw [lei] at z; omega)]
  · have hn := ofn_i H.2.2
    rw [if_neg z]
    rw [lei] at z
    rw [if_neg (by rw [lei, hn]; have := H.2.1; omega), if_pos (by omega)]
    rfl
theorem dg_5 {c : Int32} : f5_Ta_isDigit c = if isDqq5 c = true then 1 else 0 := by
  unfold f5_Ta_isDigit isDqq5
  grind
theorem le_5 {c : Int32} : f5_Ta_isLetter c = if isLqq5 c = true then 1 else 0 := by
  unfold f5_Ta_isLetter f5_Ta_isLetter_12 f5_Ta_isLetter_24 isLqq5
  grind
theorem ba_5 {B : Nat → Int32} {n p : Nat} (h : p < n) : bAqq5 B n p = B p := if_pos h
theorem in_5 {x : Int32} {n : Int} (h0 : 0 ≤ x.toInt) (h : x.toInt < n) (hn : n ≤ 67108864) : (x + 1).toInt = x.toInt + 1 := by
  rw [add_i (by rw [t1i]; omega) (by rw [t1i]; omega), t1i]
theorem sk_m5 {U : U5} (H : okU5 U) : ∀ (m : Nat) (c a : Int32), 0 ≤ a.toInt → a.toInt ≤ U.2.1.toInt → (U.2.1.toInt - a.toInt).toNat < m → (f5_Ta_skipBlanks_4 U m c a).toInt = skqq5 (bU5 U) (nU5 U) (decide (c ≠ 0)) a.toInt.toNat
  | 0, _, _, _, _, h => by omega
  | m + 1, c, a, h0, h1, h => by
    have hn := H.2.1
    have hm := H.2.2
    unfold f5_Ta_skipBlanks_4
    dsimp only [pb5]
    by_cases z : U.2.1 ≤ a
    · rw [if_pos z, sk_eq5 (by rw [lei] at z; unfold nU5; omega)]
      have := H.1
      unfold nU5
      omega
    · rw [if_neg z]
      rw [lei] at z
      have lt : a.toInt.toNat < nU5 U := by unfold nU5; omega
      have e1 : (a + 1).toInt = a.toInt + 1 := in_5 (n := U.2.1.toInt) h0 (by omega) (by omega)
      have e2 : (a + 1).toInt.toNat = a.toInt.toNat + 1 := by omega
      have ih : ∀ d : Int32, (f5_Ta_skipBlanks_4 U m d (a + 1)).toInt = skqq5 (bU5 U) (nU5 U) (decide (d ≠ 0)) (a.toInt.toNat + 1) := fun d => by
        rw [← e2]
        exact sk_m5 H m d (a + 1) (by omega) (by omega) (by omega)
      rw [by_5 H h0, ba_5 lt, sk_sq5 lt]
      by_cases c1 : bU5 U a.toInt.toNat = 10
      · rw [if_pos c1, if_pos c1, ih]
        rfl
      · rw [if_neg c1, if_neg c1]
        by_cases c2 : bU5 U a.toInt.toNat = 35
        · rw [if_pos c2, if_pos c2, ih]
          rfl
        · rw [if_neg c2, if_neg c2]
          by_cases c3 : c = 0
          · rw [if_pos c3]
            by_cases c4 : bU5 U a.toInt.toNat = 9
            · rw [if_pos c4, if_pos (Or.inr (Or.inl c4)), ih]
            · rw [if_neg c4]
              by_cases c5 : bU5 U a.toInt.toNat = 13
              · rw [if_pos c5, if_pos (Or.inr (Or.inr (Or.inl c5))), ih]
              · rw [if_neg c5]
                by_cases c6 : bU5 U a.toInt.toNat = 32
                · rw [if_pos c6, if_pos (Or.inr (Or.inr (Or.inr c6))), ih]
                · rw [if_neg c6, if_neg (fun q => by
                    rcases q with q | q | q | q
                    · exact absurd c3 (of_decide_eq_true q)
                    · exact c4 q
                    · exact c5 q
                    · exact c6 q)]
                  omega
          · rw [if_neg c3, if_pos (Or.inl (decide_eq_true c3)), ih]
/-- the class's blanks -/
theorem sk_U5 {U : U5} {a : Int32} (H : okU5 U) (h0 : 0 ≤ a.toInt) (h1 : a.toInt ≤ U.2.1.toInt) : (f5_Ta_skipBlanks U a).toInt = skqq5 (bU5 U) (nU5 U) false a.toInt.toNat := by
  unfold f5_Ta_skipBlanks
  rw [sk_m5 H fu5 0 a h0 h1 (by have := H.2.1; have := H.2.2; unfold fu5; omega)]
  rfl
def bS5 (σ : rS) : Nat → Int32 := fun j => σ.2.2.1 1 j &&& 255
def nS5 (σ : rS) : Nat := (σ.1 2).toInt.toNat
def okS5 (σ : rS) : Prop := 0 ≤ (σ.1 2).toInt ∧ (σ.1 2).toInt ≤ 65536
theorem bs_5 {σ : rS} {a : Int32} (h : 0 ≤ a.toInt) : g5_byteAt a σ = bAqq5 (bS5 σ) (nS5 σ) a.toInt.toNat := by
  unfold g5_byteAt bAqq5 nS5 bS5
  by_cases z : σ.1 2 ≤ a
  · rw [if_pos z, if_neg (by rw [lei] at z; omega)]
  · rw [if_neg z]
    rw [lei] at z
    rw [if_pos (by omega)]
    rfl
theorem gd_5 {c : Int32} {σ : rS} : g5_isDigit c σ = if isDqq5 c = true then 1 else 0 := by
  unfold g5_isDigit isDqq5
  grind
theorem gl_5 {c : Int32} {σ : rS} : g5_isLetter c σ = if isLqq5 c = true then 1 else 0 := by
  unfold g5_isLetter g5_isLetter_12 g5_isLetter_24 isLqq5
  grind
theorem gb_5 {c : Int32} {σ : rS} : g5_isBlank c σ = if c = 9 ∨ c = 10 ∨ c = 13 ∨ c = 32 then 1 else 0 := by
  unfold g5_isBlank
  grind
/-- inside a remark -/
theorem sk_i5 {σ : rS} (H : okS5 σ) (K : Int32 → rS → Int32) (q : Nat) (hK : ∀ b : Int32, 0 ≤ b.toInt → b.toInt ≤ (σ.1 2).toInt → q < b.toInt → (K b σ).toInt = skqq5 (bS5 σ) (nS5 σ) false b.toInt.toNat) : ∀ (m : Nat) (a : Int32), 0 ≤ a.toInt → a.toInt ≤ (σ.1 2).toInt → q < a.toInt → ((σ.1 2).toInt - a.toInt).toNat < m → (g5_skip_33 K m a σ).toInt = skqq5 (bS5 σ) (nS5 σ) true a.toInt.toNat
  | 0, _, _, _, _, h => by omega
  | m + 1, a, h0, h1, hq, h => by
    have hn := H.2
    unfold g5_skip_33
    dsimp only [pb5]
    by_cases z : σ.1 2 ≤ a
    · rw [if_pos z]
      rw [lei] at z
      rw [hK a h0 h1 hq, sk_eq5 (by unfold nS5; omega), sk_eq5 (by unfold nS5; omega)]
    · rw [if_neg z]
      rw [lei] at z
      have lt : a.toInt.toNat < nS5 σ := by unfold nS5; omega
      have e1 : (a + 1).toInt = a.toInt + 1 := in_5 (n := (σ.1 2).toInt) h0 (by omega) (by omega)
      have e2 : (a + 1).toInt.toNat = a.toInt.toNat + 1 := by omega
      rw [bs_5 h0, ba_5 lt]
      by_cases c1 : bS5 σ a.toInt.toNat = 10
      · rw [if_pos c1, hK a h0 h1 hq, sk_sq5 lt, sk_sq5 lt, if_pos c1, if_pos c1]
      · rw [if_neg c1, sk_i5 H K q hK m (a + 1) (by omega) (by omega) (by omega) (by omega), e2, sk_sq5 lt, if_neg c1]
        by_cases c2 : bS5 σ a.toInt.toNat = 35
        · rw [if_pos c2]
        · rw [if_neg c2, if_pos (Or.inl rfl)]
theorem sk_r5 {σ : rS} (H : okS5 σ) : ∀ (m : Nat) (a : Int32), 0 ≤ a.toInt → a.toInt ≤ (σ.1 2).toInt → ((σ.1 2).toInt - a.toInt).toNat < m → (g5_skip_2 m a σ).toInt = skqq5 (bS5 σ) (nS5 σ) false a.toInt.toNat
  | 0, _, _, _, h => by omega
  | m + 1, a, h0, h1, h => by
    have hn := H.2
    unfold g5_skip_2
    dsimp only [pb5]
    by_cases z : a.toInt < (σ.1 2).toInt
    · have lt : a.toInt.toNat < nS5 σ := by unfold nS5; omega
      have e1 : (a + 1).toInt = a.toInt + 1 := in_5 (n := (σ.1 2).toInt) h0 (by omega) (by omega)
      have e2 : (a + 1).toInt.toNat = a.toInt.toNat + 1 := by omega
      rw [bs_5 h0, ba_5 lt, gb_5, sk_sq5 lt]
      have ih := sk_r5 H m (a + 1) (by omega) (by omega) (by omega)
      rw [e2] at ih
      have go : g5_skip_23 (g5_skip_2 m) a σ = if bS5 σ a.toInt.toNat = 35 then g5_skip_33 (g5_skip_2 m) fu5 a σ else g5_skip_2 m (a + 1) σ := by
        unfold g5_skip_23
        dsimp only [pb5]
        rw [bs_5 h0, ba_5 lt]
      rw [go]
      by_cases c2 : bS5 σ a.toInt.toNat = 35
      · have nb : ¬ (bS5 σ a.toInt.toNat = 9 ∨ bS5 σ a.toInt.toNat = 10 ∨ bS5 σ a.toInt.toNat = 13 ∨ bS5 σ a.toInt.toNat = 32) := by rw [c2]; decide
        rw [if_neg nb, if_pos rfl, if_pos c2, if_pos c2, if_neg (by rw [c2]; decide), if_pos c2]
        obtain ⟨f, hf⟩ := fu_s5
        rw [hf]
        unfold g5_skip_33
        dsimp only [pb5]
        rw [if_neg (by rw [lei]; omega), bs_5 h0, ba_5 lt, if_neg (by rw [c2]; decide)]
        rw [sk_i5 H (g5_skip_2 m) a.toInt.toNat (fun b b0 b1 hp => sk_r5 H m b b0 b1 (by omega)) f (a + 1) (by omega) (by omega) (by omega) (by
          have : fu5 = 4294967296 := rfl
          omega), e2]
      · by_cases c3 : bS5 σ a.toInt.toNat = 9 ∨ bS5 σ a.toInt.toNat = 10 ∨ bS5 σ a.toInt.toNat = 13 ∨ bS5 σ a.toInt.toNat = 32
        · rw [if_pos c3, if_neg (by decide), if_neg c2, ih]
          by_cases c1 : bS5 σ a.toInt.toNat = 10
          · rw [if_pos c1]
          · rw [if_neg c1, if_neg c2, if_pos (by
              rcases c3 with q | q | q | q
              · exact Or.inr (Or.inl q)
              · exact absurd q c1
              · exact Or.inr (Or.inr (Or.inl q))
              · exact Or.inr (Or.inr (Or.inr q)))]
        · rw [if_neg c3, if_pos rfl, if_neg c2, if_neg (fun q => c3 (Or.inr (Or.inl q))), if_neg c2, if_neg (fun q => by
            rcases q with q | q | q | q
            · cases q
            · exact c3 (Or.inl q)
            · exact c3 (Or.inr (Or.inr (Or.inl q)))
            · exact c3 (Or.inr (Or.inr (Or.inr q))))]
          omega
    · have lt : ¬ a.toInt.toNat < nS5 σ := by unfold nS5; omega
      rw [bs_5 h0, sk_eq5 lt]
      have e : bAqq5 (bS5 σ) (nS5 σ) a.toInt.toNat = -1 := if_neg lt
      rw [e, gb_5, if_pos (by decide), if_neg (by decide)]
      have := H.1
      unfold nS5
      omega
/-- the reference's blanks -/
theorem sk_S5 {σ : rS} {a : Int32} (H : okS5 σ) (h0 : 0 ≤ a.toInt) (h1 : a.toInt ≤ (σ.1 2).toInt) : (g5_skip a σ).toInt = skqq5 (bS5 σ) (nS5 σ) false a.toInt.toNat := by
  unfold g5_skip
  exact sk_r5 H fu5 a h0 h1 (by have := H.2; unfold fu5; omega)

end
section
set_option maxHeartbeats 1600000
/-! the class's tokens: sizes, words, kinds -/
theorem rn_s5 {f : Int32 → Bool} {B : Nat → Int32} {n p : Nat} (h : p < n ∧ f (B p) = true) : rnqq5 f B n p = rnqq5 f B n (p + 1) := by
  conv => lhs; rw [rnqq5]
  rw [if_pos h]
theorem rn_e5 {f : Int32 → Bool} {B : Nat → Int32} {n p : Nat} (h : ¬ (p < n ∧ f (B p) = true)) : rnqq5 f B n p = p := by
  rw [rnqq5, if_neg h]
theorem rn_b5 {f : Int32 → Bool} {B : Nat → Int32} {n p : Nat} (h : p ≤ n) : rnqq5 f B n p ≤ n := by
  fun_induction rnqq5 f B n p with
  | case1 p h1 ih => exact ih (by omega)
  | case2 p h1 => omega
/-- which bytes go on in a token -/
def cn5 (a3 : Int32) : Int32 → Bool := fun x => isDqq5 x || (decide (a3 ≠ 0) && isLqq5 x)
theorem su_i5 {a b : Int32} (h0 : 0 ≤ a.toInt) (h1 : 0 ≤ b.toInt) : (b - a).toInt = b.toInt - a.toInt := by
  have h2 := a.toInt_lt
  have h3 := b.toInt_lt
  exact sub_i (by omega) (by omega)
theorem sz_m5 {U : U5} (H : okU5 U) : ∀ (m : Nat) (a1 a3 a4 : Int32), 0 ≤ a1.toInt → 0 ≤ a4.toInt → a4.toInt ≤ U.2.1.toInt → (U.2.1.toInt - a4.toInt).toNat < m → (f5_Ta_sizeAt_81 U m a1 a3 a4).toInt = rnqq5 (cn5 a3) (bU5 U) (nU5 U) a4.toInt.toNat - a1.toInt
  | 0, _, _, _, _, _, _, h => by omega
  | m + 1, a1, a3, a4, h9, h0, h1, h => by
    have hn := H.2.1
    have hm := H.2.2
    unfold f5_Ta_sizeAt_81
    dsimp only [pb5]
    by_cases z : U.2.1 ≤ a4
    · rw [if_pos z, su_i5 h9 h0, rn_e5 (by rw [lei] at z; unfold nU5; omega)]
      omega
    · rw [if_neg z]
      rw [lei] at z
      have lt : a4.toInt.toNat < nU5 U := by unfold nU5; omega
      have e1 : (a4 + 1).toInt = a4.toInt + 1 := in_5 (n := U.2.1.toInt) h0 (by omega) (by omega)
      have e2 : (a4 + 1).toInt.toNat = a4.toInt.toNat + 1 := by omega
      have ih := sz_m5 H m a1 a3 (a4 + 1) h9 (by omega) (by omega) (by omega)
      rw [e2] at ih
      rw [by_5 H h0, ba_5 lt, dg_5, le_5]
      by_cases c1 : isDqq5 (bU5 U a4.toInt.toNat) = true
      · rw [if_pos c1, if_neg (by decide), ih, rn_s5 (p := a4.toInt.toNat) ⟨lt, by unfold cn5; rw [c1]; rfl⟩]
      · rw [if_neg c1, if_pos rfl]
        by_cases c2 : a3 = 0
        · rw [if_pos c2, su_i5 h9 h0, rn_e5 (fun q => by
            have w := q.2
            unfold cn5 at w
            rw [c2, Bool.eq_false_iff.mpr c1] at w
            exact absurd w (by simp))]
          omega
        · rw [if_neg c2]
          by_cases c3 : isLqq5 (bU5 U a4.toInt.toNat) = true
          · rw [if_pos c3, if_neg (by decide), ih, rn_s5 (p := a4.toInt.toNat) ⟨lt, by unfold cn5; rw [c3, decide_eq_true c2]; simp⟩]
          · rw [if_neg c3, if_pos rfl, su_i5 h9 h0, rn_e5 (fun q => by
              have w := q.2
              unfold cn5 at w
              rw [Bool.eq_false_iff.mpr c3, Bool.eq_false_iff.mpr c1] at w
              exact absurd w (by simp))]
            omega
theorem cn_L5 : cn5 1 = fun x => isLqq5 x || isDqq5 x := by
  funext x
  unfold cn5
  rw [Bool.or_comm]
  rfl
theorem cn_D5 : cn5 0 = isDqq5 := by
  funext x
  unfold cn5
  simp
theorem te_b5 {B : Nat → Int32} {n p : Nat} (h : p < n) : tEnq5 B n p ≤ n := by
  unfold tEnq5
  split
  · exact rn_b5 (by omega)
  · split
    · exact rn_b5 (by omega)
    · split
      · rename_i q
        have w := q.2
        unfold bAqq5 at w
        by_cases y : p + 1 < n
        · omega
        · rw [if_neg y] at w
          exact absurd w (by decide)
      · omega
/-- the class's sizes -/
theorem sz_U5 {U : U5} {a : Int32} (H : okU5 U) (h0 : 0 ≤ a.toInt) (h1 : a.toInt < U.2.1.toInt) : (f5_Ta_sizeAt U a).toInt = (tEnq5 (bU5 U) (nU5 U) a.toInt.toNat : Int) - a.toInt := by
  have hn := H.2.1
  have hm := H.2.2
  have lt : a.toInt.toNat < nU5 U := by unfold nU5; omega
  have e1 : (a + 1).toInt = a.toInt + 1 := in_5 (n := U.2.1.toInt) h0 (by omega) (by omega)
  have e2 : (a + 1).toInt.toNat = a.toInt.toNat + 1 := by omega
  have run : ∀ a3 : Int32, (f5_Ta_sizeAt_76 U a a3).toInt = (rnqq5 (cn5 a3) (bU5 U) (nU5 U) (a.toInt.toNat + 1) : Int) - a.toInt := fun a3 => by
    unfold f5_Ta_sizeAt_76
    dsimp only [pb5]
    rw [sz_m5 H fu5 a a3 (a + 1) h0 (by omega) (by omega) (by unfold fu5; omega), e2]
  have two : ∀ s0 : Int32, s0 = 0 ∨ s0 = 1 → (f5_Ta_sizeAt_51 U a s0).toInt = if s0 ≠ 0 ∧ bAqq5 (bU5 U) (nU5 U) (a.toInt.toNat + 1) = 61 then 2 else 1 := fun s0 hs => by
    unfold f5_Ta_sizeAt_51
    dsimp only [pb5]
    rw [by_5 H (by omega), e2]
    rcases hs with rfl | rfl
    · rw [if_pos rfl, if_neg (fun q => q.1 rfl)]
      rfl
    · rw [if_neg (by decide)]
      by_cases q : bAqq5 (bU5 U) (nU5 U) (a.toInt.toNat + 1) = 61
      · rw [if_pos q, if_pos ⟨by decide, q⟩]
        rfl
      · rw [if_neg q, if_neg (fun w => q w.2)]
        rfl
  unfold f5_Ta_sizeAt
  dsimp only [pb5]
  rw [by_5 H h0, ba_5 lt, le_5, dg_5]
  unfold tEnq5
  by_cases c1 : isLqq5 (bU5 U a.toInt.toNat) = true
  · rw [if_pos c1, if_neg (by decide), if_pos c1, run, cn_L5]
  · rw [if_neg c1, if_pos rfl, if_neg c1]
    by_cases c2 : isDqq5 (bU5 U a.toInt.toNat) = true
    · rw [if_pos c2, if_neg (by decide), if_pos c2, run, cn_D5]
    · rw [if_neg c2, if_pos rfl, if_neg c2]
      have fin : ∀ s0 : Int32, (s0 = 1 ∧ (bU5 U a.toInt.toNat = 61 ∨ bU5 U a.toInt.toNat = 33 ∨ bU5 U a.toInt.toNat = 60 ∨ bU5 U a.toInt.toNat = 62)) ∨ (s0 = 0 ∧ ¬ (bU5 U a.toInt.toNat = 61 ∨ bU5 U a.toInt.toNat = 33 ∨ bU5 U a.toInt.toNat = 60 ∨ bU5 U a.toInt.toNat = 62)) → (f5_Ta_sizeAt_51 U a s0).toInt = (((if (bU5 U a.toInt.toNat = 61 ∨ bU5 U a.toInt.toNat = 33 ∨ bU5 U a.toInt.toNat = 60 ∨ bU5 U a.toInt.toNat = 62) ∧ bAqq5 (bU5 U) (nU5 U) (a.toInt.toNat + 1) = 61 then a.toInt.toNat + 2 else a.toInt.toNat + 1) : Nat) : Int) - a.toInt := fun s0 hs => by
        rw [two s0 (by rcases hs with q | q; exact Or.inr q.1; exact Or.inl q.1)]
        rcases hs with ⟨rfl, q⟩ | ⟨rfl, q⟩
        · by_cases w : bAqq5 (bU5 U) (nU5 U) (a.toInt.toNat + 1) = 61
          · rw [if_pos ⟨by decide, w⟩, if_pos ⟨q, w⟩]; omega
          · rw [if_neg (fun y => w y.2), if_neg (fun y => w y.2)]; omega
        · rw [if_neg (fun y => y.1 rfl), if_neg (fun y => q y.1)]; omega
      by_cases d1 : bU5 U a.toInt.toNat = 61
      · rw [if_pos d1]; exact fin 1 (Or.inl ⟨rfl, Or.inl d1⟩)
      · rw [if_neg d1]
        by_cases d2 : bU5 U a.toInt.toNat = 33
        · rw [if_pos d2]; exact fin 1 (Or.inl ⟨rfl, Or.inr (Or.inl d2)⟩)
        · rw [if_neg d2]
          by_cases d3 : bU5 U a.toInt.toNat = 60
          · rw [if_pos d3]; exact fin 1 (Or.inl ⟨rfl, Or.inr (Or.inr (Or.inl d3))⟩)
          · rw [if_neg d3]
            by_cases d4 : bU5 U a.toInt.toNat = 62
            · rw [if_pos d4]; exact fin 1 (Or.inl ⟨rfl, Or.inr (Or.inr (Or.inr d4))⟩)
            · rw [if_neg d4]
              exact fin 0 (Or.inr ⟨rfl, fun q => by
                rcases q with q | q | q | q
                · exact d1 q
                · exact d2 q
                · exact d3 q
                · exact d4 q⟩)

end
section
set_option maxHeartbeats 1600000
/-! names packed into numbers: eight bytes in 64 bits, four in 32 -/
/-- byte i of eight -/
def b8_5 (x : Int64) (i : Nat) : BitVec 8 := x.toBitVec.extractLsb' (56 - 8 * i) 8
theorem b8_z5 {i : Nat} : b8_5 0 i = 0 := by
  unfold b8_5
  apply BitVec.eq_of_getLsbD_eq
  intro j hj
  simp
/-- eight bytes say the whole number -/
theorem b8_e5 {x y : Int64} (h : ∀ i, i < 8 → b8_5 x i = b8_5 y i) : x = y := by
  apply Int64.toBitVec_inj.mp
  apply BitVec.eq_of_getLsbD_eq
  intro j hj
  have h1 := h (7 - j / 8) (by omega)
  have h2 := congrArg (fun z => BitVec.getLsbD z (j % 8)) h1
  unfold b8_5 at h2
  simp only [BitVec.getLsbD_extractLsb'] at h2
  have e : 56 - 8 * (7 - j / 8) + j % 8 = j := by omega
  have l : j % 8 < 8 := by omega
  rw [e] at h2
  simpa [l] using h2
theorem tb_5 {n p : Nat} (h : n < 256) (hp : 8 ≤ p) : n.testBit p = false := Nat.testBit_lt_two_pow (Nat.lt_of_lt_of_le h (by
  have : 2 ^ 8 ≤ 2 ^ p := Nat.pow_le_pow_right (by decide) hp
  omega))
theorem b8_s5 {x y : Int64} {n k i : Nat} (hn : n < 256) (hk : k < 8) (hi : i < 8) (hy : y.toBitVec = BitVec.ofNat 64 n <<< (56 - 8 * k)) : b8_5 (x ||| y) i = if i = k then b8_5 x i ||| BitVec.ofNat 8 n else b8_5 x i := by
  have hb : ∀ j, j < 8 → (b8_5 (x ||| y) i).getLsbD j = ((b8_5 x i).getLsbD j || (decide (56 - 8 * k ≤ 56 - 8 * i + j) && n.testBit (56 - 8 * i + j - (56 - 8 * k)))) := fun j hj => by
    unfold b8_5
    rw [Int64.toBitVec_or, hy]
    simp only [BitVec.getLsbD_extractLsb', BitVec.getLsbD_or, BitVec.getLsbD_shiftLeft, BitVec.getLsbD_ofNat]
    have l1 : 56 - 8 * i + j < 64 := by omega
    have l2 : 56 - 8 * i + j - (56 - 8 * k) < 64 := by omega
    simp only [hj, l1, l2, decide_true, Bool.true_and]
    by_cases q : 56 - 8 * i + j < 56 - 8 * k
    · have q2 : ¬ 56 - 8 * k ≤ 56 - 8 * i + j := by omega
      simp [q, q2]
    · have q2 : 56 - 8 * k ≤ 56 - 8 * i + j := by omega
      simp [q, q2]
  apply BitVec.eq_of_getLsbD_eq
  intro j hj
  rw [hb j hj]
  by_cases e : i = k
  · subst e
    rw [if_pos rfl, BitVec.getLsbD_or, BitVec.getLsbD_ofNat]
    have q : 56 - 8 * i + j - (56 - 8 * i) = j := by omega
    rw [q]
    simp [hj]
  · rw [if_neg e]
    by_cases l : i < k
    · rw [tb_5 hn (p := 56 - 8 * i + j - (56 - 8 * k)) (by omega)]
      simp
    · have q : ¬ 56 - 8 * k ≤ 56 - 8 * i + j := by omega
      simp [q]
theorem sm_n5 : ∀ n, n < 64 → ((Int64.ofNat n).toBitVec.smod 64).toNat = n := by decide
theorem sh_5 {a : Int64} {n : Nat} (hn : n < 64) : (a <<< (Int64.ofNat n)).toBitVec = a.toBitVec <<< n := by
  rw [Int64.toBitVec_shiftLeft]
  show a.toBitVec <<< ((Int64.ofNat n).toBitVec.smod 64) = _
  rw [BitVec.shiftLeft_eq', sm_n5 n hn]
theorem by_n5 {b : Int32} {n : Nat} (h : b.toInt = n) : b.toInt64.toBitVec = BitVec.ofNat 64 n := by
  have hb := b.toInt_lt
  have e : b.toInt64 = Int64.ofNat n := by
    apply Int64.toInt_inj.mp
    rw [Int32.toInt_toInt64, h, Int64.toInt_ofNat_of_lt (by omega)]
  rw [e]
  rfl
/-- the shifts that a byte's place wants -/
theorem sf_5 : ∀ k, k < 8 → (((56 : Int32) - 8 * Int32.ofNat k).toInt64 &&& 63) = Int64.ofNat (56 - 8 * k) := by decide
theorem b8_b5 {x : Int64} {b v : Int32} {n k i : Nat} (hb : b.toInt = n) (hn : n < 256) (hv : v = Int32.ofNat k) (hk : k < 8) (hi : i < 8) : b8_5 (x ||| (b.toInt64 <<< (((56 : Int32) - 8 * v).toInt64 &&& 63))) i = if i = k then b8_5 x i ||| BitVec.ofNat 8 n else b8_5 x i := by
  refine b8_s5 hn hk hi ?_
  rw [hv, sf_5 k hk, sh_5 (by omega), by_n5 hb]
/-- byte i of four -/
def b4_5 (x : Int32) (i : Nat) : BitVec 8 := x.toBitVec.extractLsb' (24 - 8 * i) 8
theorem b4_z5 {i : Nat} : b4_5 0 i = 0 := by
  unfold b4_5
  apply BitVec.eq_of_getLsbD_eq
  intro j hj
  simp
theorem b4_e5 {x y : Int32} (h : ∀ i, i < 4 → b4_5 x i = b4_5 y i) : x = y := by
  apply Int32.toBitVec_inj.mp
  apply BitVec.eq_of_getLsbD_eq
  intro j hj
  have h1 := h (3 - j / 8) (by omega)
  have h2 := congrArg (fun z => BitVec.getLsbD z (j % 8)) h1
  unfold b4_5 at h2
  simp only [BitVec.getLsbD_extractLsb'] at h2
  have e : 24 - 8 * (3 - j / 8) + j % 8 = j := by omega
  have l : j % 8 < 8 := by omega
  rw [e] at h2
  simpa [l] using h2
theorem b4_s5 {x y : Int32} {n k i : Nat} (hn : n < 256) (hk : k < 4) (hi : i < 4) (hy : y.toBitVec = BitVec.ofNat 32 n <<< (24 - 8 * k)) : b4_5 (x ||| y) i = if i = k then b4_5 x i ||| BitVec.ofNat 8 n else b4_5 x i := by
  have hb : ∀ j, j < 8 → (b4_5 (x ||| y) i).getLsbD j = ((b4_5 x i).getLsbD j || (decide (24 - 8 * k ≤ 24 - 8 * i + j) && n.testBit (24 - 8 * i + j - (24 - 8 * k)))) := fun j hj => by
    unfold b4_5
    rw [Int32.toBitVec_or, hy]
    simp only [BitVec.getLsbD_extractLsb', BitVec.getLsbD_or, BitVec.getLsbD_shiftLeft, BitVec.getLsbD_ofNat]
    have l1 : 24 - 8 * i + j < 32 := by omega
    have l2 : 24 - 8 * i + j - (24 - 8 * k) < 32 := by omega
    simp only [hj, l1, l2, decide_true, Bool.true_and]
    by_cases q : 24 - 8 * i + j < 24 - 8 * k
    · have q2 : ¬ 24 - 8 * k ≤ 24 - 8 * i + j := by omega
      simp [q, q2]
    · have q2 : 24 - 8 * k ≤ 24 - 8 * i + j := by omega
      simp [q, q2]
  apply BitVec.eq_of_getLsbD_eq
  intro j hj
  rw [hb j hj]
  by_cases e : i = k
  · subst e
    rw [if_pos rfl, BitVec.getLsbD_or, BitVec.getLsbD_ofNat]
    have q : 24 - 8 * i + j - (24 - 8 * i) = j := by omega
    rw [q]
    simp [hj]
  · rw [if_neg e]
    by_cases l : i < k
    · rw [tb_5 hn (p := 24 - 8 * i + j - (24 - 8 * k)) (by omega)]
      simp
    · have q : ¬ 24 - 8 * k ≤ 24 - 8 * i + j := by omega
      simp [q]
theorem sm_m5 : ∀ n, n < 32 → ((Int32.ofNat n).toBitVec.smod 32).toNat = n := by decide
theorem sh_45 {a : Int32} {n : Nat} (hn : n < 32) : (a <<< (Int32.ofNat n)).toBitVec = a.toBitVec <<< n := by
  rw [Int32.toBitVec_shiftLeft]
  show a.toBitVec <<< ((Int32.ofNat n).toBitVec.smod 32) = _
  rw [BitVec.shiftLeft_eq', sm_m5 n hn]
theorem by_m5 {b : Int32} {n : Nat} (h : b.toInt = n) : b.toBitVec = BitVec.ofNat 32 n := by
  have hb := b.toInt_lt
  have e : b = Int32.ofNat n := by
    apply Int32.toInt_inj.mp
    rw [h, Int32.toInt_ofNat_of_lt (by omega)]
  rw [e]
  rfl
theorem sf_45 : ∀ k, k < 4 → (((24 : Int32) - 8 * (Int32.ofNat (8 + k) - 8)) &&& 31) = Int32.ofNat (24 - 8 * k) := by decide
theorem b4_b5 {x b v : Int32} {n k i : Nat} (hb : b.toInt = n) (hn : n < 256) (hv : v = Int32.ofNat (8 + k)) (hk : k < 4) (hi : i < 4) : b4_5 (x ||| (b <<< (((24 : Int32) - 8 * (v - 8)) &&& 31))) i = if i = k then b4_5 x i ||| BitVec.ofNat 8 n else b4_5 x i := by
  refine b4_s5 hn hk hi ?_
  rw [hv, sf_45 k hk, sh_45 (by omega), by_m5 hb]

end
section
set_option maxHeartbeats 1600000
/-! the reference's names: what is packed -/
def nmP5 (B : Nat → Int32) (p k : Nat) (F : Int64) (G : Int32) : Prop := (∀ i, i < 8 → b8_5 F i = if i < k then BitVec.ofNat 8 (B (p + i)).toInt.toNat else 0) ∧ (∀ i, i < 4 → b4_5 G i = if 8 + i < k then BitVec.ofNat 8 (B (p + 8 + i)).toInt.toNat else 0)
theorem or_z5 {x : BitVec 8} : (0 : BitVec 8) ||| x = x := by simp
theorem nm_05 {B : Nat → Int32} {p : Nat} : nmP5 B p 0 0 0 := ⟨fun i _ => by rw [b8_z5, if_neg (by omega)], fun i _ => by rw [b4_z5, if_neg (by omega)]⟩
theorem nm_a5 {B : Nat → Int32} {p k : Nat} {F : Int64} {G b v : Int32} (h : nmP5 B p k F G) (hk : k < 8) (hb : b = B (p + k)) (h0 : 0 ≤ b.toInt) (h1 : b.toInt < 256) (hv : v = Int32.ofNat k) : nmP5 B p (k + 1) (F ||| (b.toInt64 <<< (((56 : Int32) - 8 * v).toInt64 &&& 63))) G := by
  refine ⟨fun i hi => ?_, fun i hi => ?_⟩
  · rw [b8_b5 (n := b.toInt.toNat) (by omega) (by omega) hv hk hi]
    by_cases e : i = k
    · subst e
      rw [if_pos rfl, h.1 i hi, if_neg (by omega), or_z5, if_pos (by omega), hb]
    · rw [if_neg e, h.1 i hi]
      by_cases l : i < k
      · rw [if_pos l, if_pos (by omega)]
      · rw [if_neg l, if_neg (by omega)]
  · rw [h.2 i hi, if_neg (by omega), if_neg (by omega)]
theorem nm_b5 {B : Nat → Int32} {p k : Nat} {F : Int64} {G b v : Int32} (h : nmP5 B p k F G) (hk : 8 ≤ k) (hk2 : k < 12) (hb : b = B (p + k)) (h0 : 0 ≤ b.toInt) (h1 : b.toInt < 256) (hv : v = Int32.ofNat k) : nmP5 B p (k + 1) F (G ||| (b <<< (((24 : Int32) - 8 * (v - 8)) &&& 31))) := by
  refine ⟨fun i hi => ?_, fun i hi => ?_⟩
  · rw [h.1 i hi, if_pos (by omega), if_pos (by omega)]
  · rw [b4_b5 (n := b.toInt.toNat) (k := k - 8) (by omega) (by omega) (by rw [hv]; congr 1; omega) (by omega) hi]
    by_cases e : i = k - 8
    · rw [if_pos e, h.2 i hi, if_neg (by omega), or_z5, if_pos (by omega), hb]
      have q : p + k = p + 8 + i := by omega
      rw [q]
    · rw [if_neg e, h.2 i hi]
      by_cases l : 8 + i < k
      · rw [if_pos l, if_pos (by omega)]
      · rw [if_neg l, if_neg (by omega)]
theorem nm_c5 {B : Nat → Int32} {p k : Nat} {F : Int64} {G : Int32} (h : nmP5 B p k F G) (hk : 12 ≤ k) : nmP5 B p (k + 1) F G := by
  refine ⟨fun i hi => ?_, fun i hi => ?_⟩
  · rw [h.1 i hi, if_pos (by omega), if_pos (by omega)]
  · rw [h.2 i hi, if_pos (by omega), if_pos (by omega)]
/-- a name's cells -/
def nmS5 (σ : rS) (t : Nat) (F : Int64) (G : Int32) : rS := riU (rlU σ 8 t F) 9 t G
theorem nm_s5 {σ : rS} {t : Nat} {F F' : Int64} {G G' : Int32} : riU (rlU (nmS5 σ t F G) 8 t F') 9 t G' = nmS5 σ t F' G' := by
  unfold nmS5
  refine Prod.ext rfl (Prod.ext rfl (Prod.ext (funext fun r => funext fun j => ?_) (funext fun r => funext fun j => ?_)))
  · rw [ri34, ri34]
    simp only [rl3a, ri34]
    by_cases a : r = 9
    · subst a
      simp only [if_true]
      by_cases b : j = t
      · rw [if_pos b, if_pos b]
      · rw [if_neg b, if_neg b]
        simp only [if_neg b]
    · rw [if_neg a, if_neg a]
      simp only [if_neg a]
  · rw [ri5, ri5, rl45, rl45]
    by_cases a : r = 8
    · subst a
      simp only [if_true, ri5, rl45]
      by_cases b : j = t
      · rw [if_pos b, if_pos b]
      · rw [if_neg b, if_neg b]
        simp only [if_neg b]
    · rw [if_neg a, if_neg a, ri5, rl45, if_neg a]
theorem nm_i5 {σ : rS} {t : Nat} (h8 : σ.2.2.2 8 t = 0) (h9 : σ.2.2.1 9 t = 0) : nmS5 σ t 0 0 = σ := by
  unfold nmS5
  refine Prod.ext rfl (Prod.ext rfl (Prod.ext (funext fun r => funext fun j => ?_) (funext fun r => funext fun j => ?_)))
  · rw [ri34]
    by_cases a : r = 9
    · subst a
      rw [if_pos rfl]
      by_cases b : j = t
      · rw [if_pos b, b, h9]
      · rw [if_neg b, rl3a]
    · rw [if_neg a, rl3a]
  · rw [ri5, rl45]
    by_cases a : r = 8
    · subst a
      rw [if_pos rfl]
      by_cases b : j = t
      · rw [if_pos b, b, h8]
      · rw [if_neg b]
    · rw [if_neg a]

end
section
set_option maxHeartbeats 1600000
/-! the reference takes a name -/
theorem bS_n5 {σ : rS} {t : Nat} {F : Int64} {G : Int32} : bS5 (nmS5 σ t F G) = bS5 σ := rfl
theorem nS_n5 {σ : rS} {t : Nat} {F : Int64} {G : Int32} : nS5 (nmS5 σ t F G) = nS5 σ := rfl
theorem nm_8_5 {σ : rS} {t : Nat} {F : Int64} {G : Int32} : (nmS5 σ t F G).2.2.2 8 t = F := by
  unfold nmS5
  rw [ri5, rl45, if_pos rfl, if_pos rfl]
theorem nm_9_5 {σ : rS} {t : Nat} {F : Int64} {G : Int32} : (nmS5 σ t F G).2.2.1 9 t = G := by
  unfold nmS5
  rw [ri34, if_pos rfl, if_pos rfl]
theorem bS_r5 {σ : rS} {j : Nat} : 0 ≤ (bS5 σ j).toInt ∧ (bS5 σ j).toInt < 256 := by
  unfold bS5
  have a := andi_i (x := σ.2.2.1 1 j) (m := 255) (by decide)
  have e255 : (255 : Int32).toInt = 255 := rfl
  rw [e255] at a
  omega
/-- letters and digits -/
def cL5 : Int32 → Bool := fun x => isLqq5 x || isDqq5 x
/-- what stands behind a name -/
def tnE5 (σ : rS) (t : Nat) (a2 a3 : Int32) : rS × Int32 := g5_takeName_159 (Int32.ofNat t) a2 a3 (Int32.ofNat t) (if σ.2.2.1 9 t = 0 then g5_wordOf (σ.2.2.2 8 t) σ else 0) σ
theorem tn_m5 {σ : rS} {t1 : Int32} {t p : Nat} (H : okS5 σ) (ht : t1.toNatClampNeg = t) (hp : p < nS5 σ) : ∀ (m k : Nat) (a2 a3 : Int32) (F : Int64) (G : Int32), a2.toInt = p → a3.toInt = p + k → p + k ≤ nS5 σ → nS5 σ - (p + k) < m → nmP5 (bS5 σ) p k F G → ∃ (k' : Nat) (F' : Int64) (G' : Int32) (a3' : Int32), nmP5 (bS5 σ) p k' F' G' ∧ a3'.toInt = p + k' ∧ p + k' = rnqq5 cL5 (bS5 σ) (nS5 σ) (p + k) ∧ g5_takeName_2 m t1 a2 a3 (nmS5 σ t F G) = (if G' = 0 then g5_takeName_159 t1 a2 a3' t1 (g5_wordOf F' (nmS5 σ t F' G')) (nmS5 σ t F' G') else g5_takeName_159 t1 a2 a3' t1 0 (nmS5 σ t F' G'))
  | 0, _, _, _, _, _, _, _, _, h, _ => by omega
  | m + 1, k, a2, a3, F, G, e2, e3, hk, hm, hN => by
    have hn : nS5 σ ≤ 65536 := by have := H.2; unfold nS5; omega
    have n8 := nm_8_5 (σ := σ) (t := t) (F := F) (G := G)
    have n9 := nm_9_5 (σ := σ) (t := t) (F := F) (G := G)
    have e3n : a3.toInt.toNat = p + k := by omega
    have hbA : g5_byteAt a3 (nmS5 σ t F G) = bAqq5 (bS5 σ) (nS5 σ) (p + k) := by
      rw [bs_5 (by omega), bS_n5, nS_n5, e3n]
    have stop : ¬ (p + k < nS5 σ ∧ cL5 (bS5 σ (p + k)) = true) → isLqq5 (bAqq5 (bS5 σ) (nS5 σ) (p + k)) = false ∧ isDqq5 (bAqq5 (bS5 σ) (nS5 σ) (p + k)) = false := fun q => by
      by_cases l : p + k < nS5 σ
      · rw [ba_5 l]
        have w : cL5 (bS5 σ (p + k)) = false := Bool.eq_false_iff.mpr (fun y => q ⟨l, y⟩)
        unfold cL5 at w
        exact Bool.or_eq_false_iff.mp w
      · have w : bAqq5 (bS5 σ) (nS5 σ) (p + k) = -1 := if_neg l
        rw [w]
        exact ⟨by decide, by decide⟩
    by_cases c : p + k < nS5 σ ∧ cL5 (bS5 σ (p + k)) = true
    · have l := c.1
      have cl := c.2
      have hb := bS_r5 (σ := σ) (j := p + k)
      have e4 : (a3 + 1).toInt = (p : Int) + (k + 1 : Nat) := by
        rw [in_5 (n := 65536) (by omega) (by omega) (by omega)]
        omega
      have hv : a3 - a2 = Int32.ofNat k := by
        apply Int32.toInt_inj.mp
        rw [su_i5 (by omega) (by omega), ofn_i (by omega)]
        omega
      have step : g5_takeName_24 (g5_takeName_2 m) t1 a2 a3 (nmS5 σ t F G) = g5_takeName_2 m t1 a2 (a3 + 1) (nmS5 σ t (if k < 8 then F ||| ((bS5 σ (p + k)).toInt64 <<< (((56 : Int32) - 8 * (Int32.ofNat k)).toInt64 &&& 63)) else F) (if 8 ≤ k ∧ k < 12 then G ||| ((bS5 σ (p + k)) <<< (((24 : Int32) - 8 * (Int32.ofNat k - 8)) &&& 31)) else G)) := by
        have kb : (Int32.ofNat k).toInt = k := ofn_i (by omega)
        have e8 : (8 : Int32).toInt = 8 := rfl
        have e12 : (12 : Int32).toInt = 12 := rfl
        unfold g5_takeName_24
        dsimp only [pb5]
        rw [hv, hbA, ba_5 l, ht, n8]
        by_cases k8 : k < 8
        · rw [if_neg (by rw [lei, kb, e8]; omega), if_pos k8, if_neg (by omega)]
          unfold g5_takeName_72 g5_takeName_119 g5_takeName_125
          dsimp only [pb5]
          rw [if_pos (by rw [lti, kb, e8]; omega), ht]
          show g5_takeName_2 m t1 a2 (a3 + 1) (riU (rlU (nmS5 σ t F G) 8 t _) 9 t ((rlU (nmS5 σ t F G) 8 t _).2.2.1 9 t)) = _
          rw [rl3a, n9, nm_s5]
        · rw [if_pos (by rw [lei, kb, e8]; omega), if_neg k8]
          unfold g5_takeName_72
          dsimp only [pb5]
          rw [if_neg (by rw [lti, kb, e8]; omega)]
          by_cases k12 : k < 12
          · rw [if_neg (by rw [lei, kb, e12]; omega), if_pos ⟨by omega, k12⟩]
            have hb2 : g5_byteAt a3 (rlU (nmS5 σ t F G) 8 t1.toNatClampNeg F) = bS5 σ (p + k) := by
              have q : g5_byteAt a3 (rlU (nmS5 σ t F G) 8 t1.toNatClampNeg F) = g5_byteAt a3 (nmS5 σ t F G) := rfl
              rw [q, hbA, ba_5 l]
            rw [hb2]
            unfold g5_takeName_125
            dsimp only [pb5]
            rw [ht]
            show g5_takeName_2 m t1 a2 (a3 + 1) (riU (rlU (nmS5 σ t F G) 8 t F) 9 t ((rlU (nmS5 σ t F G) 8 t F).2.2.1 9 t ||| _)) = _
            rw [rl3a, n9, nm_s5]
          · rw [if_pos (by rw [lei, kb, e12]; omega), if_neg (by omega)]
            unfold g5_takeName_119 g5_takeName_125
            dsimp only [pb5]
            rw [ht]
            show g5_takeName_2 m t1 a2 (a3 + 1) (riU (rlU (nmS5 σ t F G) 8 t F) 9 t ((rlU (nmS5 σ t F G) 8 t F).2.2.1 9 t)) = _
            rw [rl3a, n9, nm_s5]
      have hN2 : nmP5 (bS5 σ) p (k + 1) (if k < 8 then F ||| ((bS5 σ (p + k)).toInt64 <<< (((56 : Int32) - 8 * (Int32.ofNat k)).toInt64 &&& 63)) else F) (if 8 ≤ k ∧ k < 12 then G ||| ((bS5 σ (p + k)) <<< (((24 : Int32) - 8 * (Int32.ofNat k - 8)) &&& 31)) else G) := by
        by_cases k8 : k < 8
        · rw [if_pos k8, if_neg (by omega)]
          exact nm_a5 hN k8 rfl hb.1 hb.2 rfl
        · rw [if_neg k8]
          by_cases k12 : k < 12
          · rw [if_pos ⟨by omega, k12⟩]
            exact nm_b5 hN (by omega) k12 rfl hb.1 hb.2 rfl
          · rw [if_neg (by omega)]
            exact nm_c5 hN (by omega)
      obtain ⟨k', F', G', a3', r1, r2, r3, r4⟩ := tn_m5 H ht hp m (k + 1) a2 (a3 + 1) _ _ e2 e4 (by omega) (by omega) hN2
      refine ⟨k', F', G', a3', r1, r2, ?_, ?_⟩
      · rw [r3, rn_s5 (p := p + k) ⟨l, cl⟩]
        rfl
      · rw [← r4, ← step]
        unfold g5_takeName_2
        dsimp only [pb5]
        rw [hbA, ba_5 l, gl_5, gd_5]
        unfold cL5 at cl
        by_cases w : isLqq5 (bS5 σ (p + k)) = true
        · rw [if_pos w, if_neg (by decide)]
        · rw [if_neg w, if_pos rfl]
          have w2 : isDqq5 (bS5 σ (p + k)) = true := by
            rw [Bool.eq_false_iff.mpr w] at cl
            exact cl
          rw [if_pos w2, if_neg (by decide)]
    · refine ⟨k, F, G, a3, hN, e3, (rn_e5 c).symm, ?_⟩
      obtain ⟨q1, q2⟩ := stop c
      unfold g5_takeName_2
      dsimp only [pb5]
      rw [hbA, gl_5, gd_5, q1, q2, ht, n9, n8]
      rfl

end
section
set_option maxHeartbeats 1600000
/-! words: the class's kinds by the bytes of a name -/
theorem nm_l5 {B : Nat → Int32} {p s : Nat} : (nmqq5 B p s).length = s := by unfold nmqq5; rw [List.length_map, List.length_range]
theorem nm_g5 {B : Nat → Int32} {p s i : Nat} (h : i < (nmqq5 B p s).length) : (nmqq5 B p s)[i] = B (p + i) := by
  simp only [nmqq5, List.getElem_map, List.getElem_range]
theorem ifc_5 {α : Type} {b c : Prop} [Decidable b] [Decidable c] {x y u v : α} (h : b ↔ c) (h1 : x = u) (h2 : y = v) : (if b then x else y) = if c then u else v := by
  by_cases q : b
  · rw [if_pos q, if_pos (h.mp q), h1]
  · rw [if_neg q, if_neg (fun w => q (h.mpr w)), h2]
theorem gD_5 {w : List Int32} {i : Nat} (h : i < w.length) : w.getD i 0 = w[i] := by
  rw [List.getD_eq_getElem?_getD, List.getElem?_eq_getElem h]
  rfl
theorem nm_iff5 {B : Nat → Int32} {p s : Nat} {w : List Int32} : nmqq5 B p s = w ↔ s = w.length ∧ ∀ i, i < s → B (p + i) = w.getD i 0 := by
  constructor
  · intro h
    subst h
    refine ⟨nm_l5.symm, fun i hi => ?_⟩
    have hi2 : i < (nmqq5 B p s).length := by rw [nm_l5]; exact hi
    rw [gD_5 hi2, nm_g5]
  · rintro ⟨h1, h2⟩
    refine List.ext_getElem (by rw [nm_l5]; exact h1) (fun i a b => ?_)
    rw [nm_g5, h2 i (by rw [nm_l5] at a; exact a), gD_5 b]
theorem on_5 {a b : Nat} (h : a + b ≤ 67108864) : Int32.ofNat a + Int32.ofNat b = Int32.ofNat (a + b) := by
  apply Int32.toInt_inj.mp
  have h1 := ofn_i (n := a) (by omega)
  have h2 := ofn_i (n := b) (by omega)
  have h3 := ofn_i (n := a + b) h
  rw [add_i (by omega) (by omega), h1, h2, h3]
  omega
theorem on_15 {a : Nat} (h : a + 1 ≤ 67108864) : Int32.ofNat a + 1 = Int32.ofNat (a + 1) := on_5 (b := 1) h
theorem rd_m5 {U : U5} {t3 w : List Int32} {p q : Nat} {a1 : Int32} (H : okU5 U) (ha : a1.toInt = p) (hp : p + w.length ≤ nU5 U) (hw : ∀ i, i < w.length → ch5 t3 (Int32.ofNat (q + i)) = w.getD i 0) (hq : q + w.length ≤ t3.length) (hl : t3.length ≤ 1000) : ∀ (m k : Nat), k ≤ w.length → w.length - k < m → (f5_Ta_reads_3 U t3 m a1 (Int32.ofNat w.length) (Int32.ofNat q) (Int32.ofNat k) = 1 ∧ ∀ i, k ≤ i → i < w.length → bU5 U (p + i) = w.getD i 0) ∨ (f5_Ta_reads_3 U t3 m a1 (Int32.ofNat w.length) (Int32.ofNat q) (Int32.ofNat k) = 0 ∧ ¬ ∀ i, k ≤ i → i < w.length → bU5 U (p + i) = w.getD i 0)
  | 0, _, _, h => by omega
  | m + 1, k, hk, hm => by
    have l1 := ofn_i (n := w.length) (by omega)
    have l2 := ofn_i (n := k) (by omega)
    have l3 := ofn_i (n := t3.length) (by omega)
    unfold f5_Ta_reads_3
    dsimp only [pb5]
    by_cases c : k = w.length
    · rw [if_pos (by rw [lei]; omega)]
      exact Or.inl ⟨rfl, fun i a b => by omega⟩
    · have e0 : Int32.ofNat q + Int32.ofNat k = Int32.ofNat (q + k) := on_5 (by omega)
      have e1 := ofn_i (n := q + k) (by omega)
      have e2 : (a1 + Int32.ofNat k).toInt = ((p + k : Nat) : Int) := by
        have := H.2.1
        have := H.2.2
        have : p + k ≤ 67108864 := by unfold nU5 at hp; omega
        rw [add_i (by omega) (by omega), ha, l2]
        omega
      rw [if_neg (by rw [lei]; omega), e0, if_neg (by rw [lei]; omega), by_5 H (by omega), e2, hw k (by omega)]
      have e3 : ((p + k : Nat) : Int).toNat = p + k := by omega
      rw [e3, ba_5 (by omega), on_15 (by omega)]
      by_cases z : bU5 U (p + k) = w.getD k 0
      · rw [if_pos z]
        rcases rd_m5 H ha hp hw hq hl m (k + 1) (by omega) (by omega) with ⟨r, y⟩ | ⟨r, y⟩
        · exact Or.inl ⟨r, fun i a b => by
            by_cases x : i = k
            · rw [x]; exact z
            · exact y i (by omega) b⟩
        · exact Or.inr ⟨r, fun x => y (fun i a b => x i (by omega) b)⟩
      · rw [if_neg z]
        exact Or.inr ⟨rfl, fun x => z (x k (Nat.le_refl k) (by omega))⟩
theorem rd_U5 {U : U5} {t3 w : List Int32} {p q : Nat} {a1 : Int32} (H : okU5 U) (ha : a1.toInt = p) (hp : p + w.length ≤ nU5 U) (hw : ∀ i, i < w.length → ch5 t3 (Int32.ofNat (q + i)) = w.getD i 0) (hq : q + w.length ≤ t3.length) (hl : t3.length ≤ 1000) : f5_Ta_reads U t3 a1 (Int32.ofNat w.length) (Int32.ofNat q) = if nmqq5 (bU5 U) p w.length = w then 1 else 0 := by
  unfold f5_Ta_reads
  have z := rd_m5 H ha hp hw hq hl fu5 0 (by omega) (by unfold fu5; omega)
  rcases z with ⟨r, y⟩ | ⟨r, y⟩
  · rw [if_pos (nm_iff5.mpr ⟨rfl, fun i hi => y i (by omega) hi⟩)]
    exact r
  · rw [if_neg (fun c => y (fun i _ hi => (nm_iff5.mp c).2 i hi))]
    exact r
/-- a word passed over -/
theorem wo_k5 {U : U5} {w : List Int32} {q : Nat} {a1 a2 a3 : Int32} (h8 : ¬ (8 : Int32) ≤ a2) (hw : ∀ i, i < w.length → ch5 wt5 (Int32.ofNat (q + i)) = w.getD i 0) (hs : ∀ i, i < w.length → w.getD i 0 ≠ 32) (hq : q + w.length ≤ wt5.length) : ∀ (k m : Nat), k ≤ w.length → f5_Ta_wordOf_10 U (m + k) a1 a2 a3 (Int32.ofNat q) (Int32.ofNat q) = f5_Ta_wordOf_10 U m a1 a2 a3 (Int32.ofNat q) (Int32.ofNat (q + k))
  | 0, _, _ => rfl
  | k + 1, m, hk => by
    have hl : wt5.length ≤ 1000 := by decide
    have e := wo_k5 (U := U) (a1 := a1) (a3 := a3) h8 hw hs hq k (m + 1) (by omega)
    rw [show m + (k + 1) = m + 1 + k by omega, e]
    have l1 := ofn_i (n := wt5.length) (by omega)
    have l2 := ofn_i (n := q + k) (by omega)
    rw [f5_Ta_wordOf_10]
    dsimp only [pb5]
    rw [if_neg (by rw [lei]; omega), if_neg h8, hw k (by omega), if_neg (hs k (by omega)), on_15 (by omega)]
    rfl
theorem wo_5 {U : U5} {w : List Int32} {p q s m : Nat} {a1 a2 a3 : Int32} (H : okU5 U) (ha : a1.toInt = p) (hs2 : a2 = Int32.ofNat s) (hs3 : s ≤ 12) (hp : p + s ≤ nU5 U) (h8 : ¬ (8 : Int32) ≤ a2) (hw : ∀ i, i < w.length → ch5 wt5 (Int32.ofNat (q + i)) = w.getD i 0) (hs : ∀ i, i < w.length → w.getD i 0 ≠ 32) (hq : q + w.length + 1 ≤ wt5.length) (he : ch5 wt5 (Int32.ofNat (q + w.length)) = 32) : f5_Ta_wordOf_10 U (m + 1 + w.length) a1 a2 a3 (Int32.ofNat q) (Int32.ofNat q) = if nmqq5 (bU5 U) p s = w then a3 else f5_Ta_wordOf_10 U m a1 a2 (a3 + 1) (Int32.ofNat (q + w.length + 1)) (Int32.ofNat (q + w.length + 1)) := by
  have hl : wt5.length ≤ 1000 := by decide
  rw [wo_k5 h8 hw hs (by omega) w.length (m + 1) (Nat.le_refl _)]
  have l1 := ofn_i (n := wt5.length) (by omega)
  have l2 := ofn_i (n := q + w.length) (by omega)
  have l3 := ofn_i (n := q) (by omega)
  have l4 := ofn_i (n := w.length) (by omega)
  have l5 := ofn_i (n := s) (by omega)
  rw [f5_Ta_wordOf_10]
  dsimp only [pb5]
  unfold f5_Ta_wordOf_62
  dsimp only [pb5]
  have ed : Int32.ofNat (q + w.length) - Int32.ofNat q = Int32.ofNat w.length := by
    apply Int32.toInt_inj.mp
    rw [sub_i (by omega) (by omega), l2, l3, l4]
    omega
  rw [if_neg (by rw [lei]; omega), if_neg h8, he, if_pos rfl, ed, on_15 (by omega)]
  by_cases c : s = w.length
  · subst c
    subst hs2
    rw [if_pos rfl, rd_U5 H ha hp hw (by omega) hl]
    by_cases z : nmqq5 (bU5 U) p w.length = w
    · rw [if_pos z, if_neg (by decide), if_pos z]
    · rw [if_neg z, if_pos rfl, if_neg z]
  · rw [if_neg (fun z => by
      have y := congrArg Int32.toInt z
      rw [hs2, l4, l5] at y
      omega), if_neg (fun z => c (nm_iff5.mp z).1)]
/-- the words in the class's order -/
def wch5 : List (List Int32) → Int32 → List Int32 → Int32
  | [], _, _ => 140
  | w :: r, k, l => if l = w then k else wch5 r (k + 1) l
def wl5 : List (List Int32) := [[118, 97, 114], [97, 114, 114], [102, 117, 110, 99], [108, 111, 99, 97, 108], [105, 102], [101, 108, 115, 101], [119, 104, 105, 108, 101], [114, 101, 116, 117, 114, 110], [111, 98, 115, 101, 114, 118, 101], [103, 97, 105, 110], [112, 105, 99, 107], [102, 108, 105, 112], [99, 104, 111, 111, 115, 101]]
theorem wc_l5 {l : List Int32} (h : 8 ≤ l.length) : wch5 wl5 150 l = 140 := by
  unfold wl5
  simp only [wch5]
  rw [if_neg (fun z => by rw [z] at h; exact absurd h (by decide))]
  rw [if_neg (fun z => by rw [z] at h; exact absurd h (by decide))]
  rw [if_neg (fun z => by rw [z] at h; exact absurd h (by decide))]
  rw [if_neg (fun z => by rw [z] at h; exact absurd h (by decide))]
  rw [if_neg (fun z => by rw [z] at h; exact absurd h (by decide))]
  rw [if_neg (fun z => by rw [z] at h; exact absurd h (by decide))]
  rw [if_neg (fun z => by rw [z] at h; exact absurd h (by decide))]
  rw [if_neg (fun z => by rw [z] at h; exact absurd h (by decide))]
  rw [if_neg (fun z => by rw [z] at h; exact absurd h (by decide))]
  rw [if_neg (fun z => by rw [z] at h; exact absurd h (by decide))]
  rw [if_neg (fun z => by rw [z] at h; exact absurd h (by decide))]
  rw [if_neg (fun z => by rw [z] at h; exact absurd h (by decide))]
  rw [if_neg (fun z => by rw [z] at h; exact absurd h (by decide))]
theorem wo_U5 {U : U5} {p s : Nat} {a1 a2 : Int32} (H : okU5 U) (ha : a1.toInt = p) (hs2 : a2 = Int32.ofNat s) (hs3 : s ≤ 12) (hp : p + s ≤ nU5 U) : f5_Ta_wordOf U a1 a2 = wch5 wl5 150 (nmqq5 (bU5 U) p s) := by
  have l5 := ofn_i (n := s) (by omega)
  by_cases h8 : (8 : Int32) ≤ a2
  · rw [wc_l5 (by rw [nm_l5]; rw [hs2, lei, l5] at h8; have : (8 : Int32).toInt = 8 := rfl; omega)]
    unfold f5_Ta_wordOf
    rw [show fu5 = 4294967295 + 1 from rfl, f5_Ta_wordOf_10]
    dsimp only [pb5]
    by_cases z : Int32.ofNat wt5.length ≤ 0
    · rw [if_pos z]
    · rw [if_neg z, if_pos h8]
  · unfold f5_Ta_wordOf wl5
    simp only [wch5]
    rw [show (0 : Int32) = Int32.ofNat 0 from rfl, show fu5 = (4294967292) + 1 + ([118, 97, 114] : List Int32).length from rfl]
    rw [wo_5 (w := [118, 97, 114]) (q := 0) (s := s) (m := 4294967292) H ha hs2 hs3 hp h8 (by decide +kernel) (by decide) (by decide) (by decide +kernel)]
    refine ifc_5 Iff.rfl rfl ?_
    show f5_Ta_wordOf_10 U (4294967288 + 1 + ([97, 114, 114] : List Int32).length) a1 a2 _ (Int32.ofNat 4) (Int32.ofNat 4) = _
    rw [wo_5 (w := [97, 114, 114]) (q := 4) (s := s) (m := 4294967288) H ha hs2 hs3 hp h8 (by decide +kernel) (by decide) (by decide) (by decide +kernel)]
    refine ifc_5 Iff.rfl rfl ?_
    show f5_Ta_wordOf_10 U (4294967283 + 1 + ([102, 117, 110, 99] : List Int32).length) a1 a2 _ (Int32.ofNat 8) (Int32.ofNat 8) = _
    rw [wo_5 (w := [102, 117, 110, 99]) (q := 8) (s := s) (m := 4294967283) H ha hs2 hs3 hp h8 (by decide +kernel) (by decide) (by decide) (by decide +kernel)]
    refine ifc_5 Iff.rfl rfl ?_
    show f5_Ta_wordOf_10 U (4294967277 + 1 + ([108, 111, 99, 97, 108] : List Int32).length) a1 a2 _ (Int32.ofNat 13) (Int32.ofNat 13) = _
    rw [wo_5 (w := [108, 111, 99, 97, 108]) (q := 13) (s := s) (m := 4294967277) H ha hs2 hs3 hp h8 (by decide +kernel) (by decide) (by decide) (by decide +kernel)]
    refine ifc_5 Iff.rfl rfl ?_
    show f5_Ta_wordOf_10 U (4294967274 + 1 + ([105, 102] : List Int32).length) a1 a2 _ (Int32.ofNat 19) (Int32.ofNat 19) = _
    rw [wo_5 (w := [105, 102]) (q := 19) (s := s) (m := 4294967274) H ha hs2 hs3 hp h8 (by decide +kernel) (by decide) (by decide) (by decide +kernel)]
    refine ifc_5 Iff.rfl rfl ?_
    show f5_Ta_wordOf_10 U (4294967269 + 1 + ([101, 108, 115, 101] : List Int32).length) a1 a2 _ (Int32.ofNat 22) (Int32.ofNat 22) = _
    rw [wo_5 (w := [101, 108, 115, 101]) (q := 22) (s := s) (m := 4294967269) H ha hs2 hs3 hp h8 (by decide +kernel) (by decide) (by decide) (by decide +kernel)]
    refine ifc_5 Iff.rfl rfl ?_
    show f5_Ta_wordOf_10 U (4294967263 + 1 + ([119, 104, 105, 108, 101] : List Int32).length) a1 a2 _ (Int32.ofNat 27) (Int32.ofNat 27) = _
    rw [wo_5 (w := [119, 104, 105, 108, 101]) (q := 27) (s := s) (m := 4294967263) H ha hs2 hs3 hp h8 (by decide +kernel) (by decide) (by decide) (by decide +kernel)]
    refine ifc_5 Iff.rfl rfl ?_
    show f5_Ta_wordOf_10 U (4294967256 + 1 + ([114, 101, 116, 117, 114, 110] : List Int32).length) a1 a2 _ (Int32.ofNat 33) (Int32.ofNat 33) = _
    rw [wo_5 (w := [114, 101, 116, 117, 114, 110]) (q := 33) (s := s) (m := 4294967256) H ha hs2 hs3 hp h8 (by decide +kernel) (by decide) (by decide) (by decide +kernel)]
    refine ifc_5 Iff.rfl rfl ?_
    show f5_Ta_wordOf_10 U (4294967248 + 1 + ([111, 98, 115, 101, 114, 118, 101] : List Int32).length) a1 a2 _ (Int32.ofNat 40) (Int32.ofNat 40) = _
    rw [wo_5 (w := [111, 98, 115, 101, 114, 118, 101]) (q := 40) (s := s) (m := 4294967248) H ha hs2 hs3 hp h8 (by decide +kernel) (by decide) (by decide) (by decide +kernel)]
    refine ifc_5 Iff.rfl rfl ?_
    show f5_Ta_wordOf_10 U (4294967243 + 1 + ([103, 97, 105, 110] : List Int32).length) a1 a2 _ (Int32.ofNat 48) (Int32.ofNat 48) = _
    rw [wo_5 (w := [103, 97, 105, 110]) (q := 48) (s := s) (m := 4294967243) H ha hs2 hs3 hp h8 (by decide +kernel) (by decide) (by decide) (by decide +kernel)]
    refine ifc_5 Iff.rfl rfl ?_
    show f5_Ta_wordOf_10 U (4294967238 + 1 + ([112, 105, 99, 107] : List Int32).length) a1 a2 _ (Int32.ofNat 53) (Int32.ofNat 53) = _
    rw [wo_5 (w := [112, 105, 99, 107]) (q := 53) (s := s) (m := 4294967238) H ha hs2 hs3 hp h8 (by decide +kernel) (by decide) (by decide) (by decide +kernel)]
    refine ifc_5 Iff.rfl rfl ?_
    show f5_Ta_wordOf_10 U (4294967233 + 1 + ([102, 108, 105, 112] : List Int32).length) a1 a2 _ (Int32.ofNat 58) (Int32.ofNat 58) = _
    rw [wo_5 (w := [102, 108, 105, 112]) (q := 58) (s := s) (m := 4294967233) H ha hs2 hs3 hp h8 (by decide +kernel) (by decide) (by decide) (by decide +kernel)]
    refine ifc_5 Iff.rfl rfl ?_
    show f5_Ta_wordOf_10 U (4294967226 + 1 + ([99, 104, 111, 111, 115, 101] : List Int32).length) a1 a2 _ (Int32.ofNat 63) (Int32.ofNat 63) = _
    rw [wo_5 (w := [99, 104, 111, 111, 115, 101]) (q := 63) (s := s) (m := 4294967226) H ha hs2 hs3 hp h8 (by decide +kernel) (by decide) (by decide) (by decide +kernel)]
    refine ifc_5 Iff.rfl rfl ?_
    show f5_Ta_wordOf_10 U (4294967225 + 1) a1 a2 _ (Int32.ofNat 70) (Int32.ofNat 70) = _
    rw [f5_Ta_wordOf_10]
    dsimp only [pb5]
    exact if_pos (by decide)

end
section
set_option maxHeartbeats 1600000
/-! the reference's words and numbers -/
theorem bv_85 {x y : Int32} (h0 : 0 ≤ x.toInt) (h1 : x.toInt < 256) (h2 : 0 ≤ y.toInt) (h3 : y.toInt < 256) (h : BitVec.ofNat 8 x.toInt.toNat = BitVec.ofNat 8 y.toInt.toNat) : x = y := by
  have z := congrArg BitVec.toNat h
  rw [BitVec.toNat_ofNat, BitVec.toNat_ofNat, Nat.mod_eq_of_lt (by omega), Nat.mod_eq_of_lt (by omega)] at z
  exact Int32.toInt_inj.mp (by omega)
theorem gD_05 {w : List Int32} {i : Nat} (h : w.length ≤ i) : w.getD i 0 = 0 := by
  rw [List.getD_eq_getElem?_getD, List.getElem?_eq_none h]
  rfl
theorem fw_5 {B : Nat → Int32} {p k : Nat} {F W : Int64} {G : Int32} {w : List Int32} (h : nmP5 B p k F G) (hb : ∀ i, i < k → 0 < (B (p + i)).toInt ∧ (B (p + i)).toInt < 256) (hw : ∀ i, i < 8 → b8_5 W i = BitVec.ofNat 8 (w.getD i 0).toInt.toNat) (hl : w.length ≤ 7) (hz : ∀ i, i < w.length → 0 < (w.getD i 0).toInt ∧ (w.getD i 0).toInt < 256) : (F = W ∧ G = 0) ↔ nmqq5 B p k = w := by
  constructor
  · rintro ⟨e1, e2⟩
    subst e1
    have hk : ∀ i, i < 8 → (if i < k then BitVec.ofNat 8 (B (p + i)).toInt.toNat else 0) = BitVec.ofNat 8 (w.getD i 0).toInt.toNat := fun i hi => (h.1 i hi).symm.trans (hw i hi)
    have l1 : k = w.length := by
      rcases Nat.lt_trichotomy k w.length with c | c | c
      · have z := hk k (by omega)
        rw [if_neg (by omega)] at z
        have q := hz k c
        have y := congrArg BitVec.toNat z
        rw [BitVec.toNat_ofNat, Nat.mod_eq_of_lt (by omega)] at y
        have t : (0 : BitVec 8).toNat = 0 := rfl
        rw [t] at y
        omega
      · exact c
      · have z := hk w.length (by omega)
        rw [if_pos c, gD_05 (Nat.le_refl _)] at z
        have q := hb w.length c
        have y := congrArg BitVec.toNat z
        have t : (0 : Int32).toInt.toNat = 0 := rfl
        rw [t, BitVec.toNat_ofNat, BitVec.toNat_ofNat, Nat.mod_eq_of_lt (by omega)] at y
        omega
    refine nm_iff5.mpr ⟨l1, fun i hi => ?_⟩
    have z := hk i (by omega)
    rw [if_pos hi] at z
    have q1 := hb i hi
    have q2 := hz i (by omega)
    exact bv_85 (by omega) q1.2 (by omega) q2.2 z
  · intro h2
    obtain ⟨l1, l2⟩ := nm_iff5.mp h2
    refine ⟨b8_e5 (fun i hi => ?_), b4_e5 (fun i hi => ?_)⟩
    · rw [h.1 i hi, hw i hi]
      by_cases c : i < k
      · rw [if_pos c, l2 i c]
      · rw [if_neg c, gD_05 (by omega)]
        rfl
    · rw [h.2 i hi, if_neg (by omega), b4_z5]
theorem fx_5 {B : Nat → Int32} {p k : Nat} {F W : Int64} {G : Int32} {w : List Int32} (h : nmP5 B p k F G) (hb : ∀ i, i < k → 0 < (B (p + i)).toInt ∧ (B (p + i)).toInt < 256) (hG : G = 0) (hw : ∀ i, i < 8 → b8_5 W i = BitVec.ofNat 8 (w.getD i 0).toInt.toNat) (hl : w.length ≤ 7) (hz : ∀ i, i < w.length → 0 < (w.getD i 0).toInt ∧ (w.getD i 0).toInt < 256) : lg_cmp F W = 0 ↔ nmqq5 B p k = w :=
  (lg_cmp_eq F W).trans ⟨fun e => (fw_5 h hb hw hl hz).mp ⟨e, hG⟩, fun e => ((fw_5 h hb hw hl hz).mpr e).1⟩
def wrs5 (l : List Int32) : Int32 := if l = [118, 97, 114] then 1 else if l = [97, 114, 114] then 2 else if l = [102, 117, 110, 99] then 3 else if l = [105, 102] then 5 else if l = [101, 108, 115, 101] then 6 else if l = [103, 97, 105, 110] then 10 else if l = [112, 105, 99, 107] then 11 else if l = [102, 108, 105, 112] then 12 else 0
def wrt5 (l : List Int32) : Int32 := if l = [108, 111, 99, 97, 108] then 4 else if l = [119, 104, 105, 108, 101] then 7 else if l = [114, 101, 116, 117, 114, 110] then 8 else if l = [111, 98, 115, 101, 114, 118, 101] then 9 else if l = [99, 104, 111, 111, 115, 101] then 13 else 0
def wrf5 (l : List Int32) : Int32 := if wrs5 l ≤ 0 then wrt5 l else wrs5 l
theorem gs_5 {B : Nat → Int32} {p k : Nat} {F : Int64} {G : Int32} {σ : rS} (h : nmP5 B p k F G) (hb : ∀ i, i < k → 0 < (B (p + i)).toInt ∧ (B (p + i)).toInt < 256) (hG : G = 0) : g5_shortWord F σ = wrs5 (nmqq5 B p k) := by
  unfold g5_shortWord wrs5
  dsimp only [pb5]
  refine ifc_5 (fx_5 h hb hG (w := [118, 97, 114]) (by unfold g5_word; decide +kernel) (by decide) (by decide)) rfl ?_
  refine ifc_5 (fx_5 h hb hG (w := [97, 114, 114]) (by unfold g5_word; decide +kernel) (by decide) (by decide)) rfl ?_
  refine ifc_5 (fx_5 h hb hG (w := [102, 117, 110, 99]) (by unfold g5_word; decide +kernel) (by decide) (by decide)) rfl ?_
  refine ifc_5 (fx_5 h hb hG (w := [105, 102]) (by unfold g5_word; decide +kernel) (by decide) (by decide)) rfl ?_
  refine ifc_5 (fx_5 h hb hG (w := [101, 108, 115, 101]) (by unfold g5_word; decide +kernel) (by decide) (by decide)) rfl ?_
  refine ifc_5 (fx_5 h hb hG (w := [103, 97, 105, 110]) (by unfold g5_word; decide +kernel) (by decide) (by decide)) rfl ?_
  refine ifc_5 (fx_5 h hb hG (w := [112, 105, 99, 107]) (by unfold g5_word; decide +kernel) (by decide) (by decide)) rfl ?_
  refine ifc_5 (fx_5 h hb hG (w := [102, 108, 105, 112]) (by unfold g5_word; decide +kernel) (by decide) (by decide)) rfl ?_
  rfl
theorem gwd_5 {B : Nat → Int32} {p k : Nat} {F : Int64} {G : Int32} {σ : rS} (h : nmP5 B p k F G) (hb : ∀ i, i < k → 0 < (B (p + i)).toInt ∧ (B (p + i)).toInt < 256) (hG : G = 0) : g5_wordOf F σ = wrf5 (nmqq5 B p k) := by
  unfold g5_wordOf wrf5
  dsimp only [pb5]
  rw [gs_5 h hb hG]
  refine ifc_5 Iff.rfl ?_ rfl
  unfold wrt5
  refine ifc_5 (fx_5 h hb hG (w := [108, 111, 99, 97, 108]) (by unfold g5_word; decide +kernel) (by decide) (by decide)) rfl ?_
  refine ifc_5 (fx_5 h hb hG (w := [119, 104, 105, 108, 101]) (by unfold g5_word; decide +kernel) (by decide) (by decide)) rfl ?_
  refine ifc_5 (fx_5 h hb hG (w := [114, 101, 116, 117, 114, 110]) (by unfold g5_word; decide +kernel) (by decide) (by decide)) rfl ?_
  refine ifc_5 (fx_5 h hb hG (w := [111, 98, 115, 101, 114, 118, 101]) (by unfold g5_word; decide +kernel) (by decide) (by decide)) rfl ?_
  refine ifc_5 (fx_5 h hb hG (w := [99, 104, 111, 111, 115, 101]) (by unfold g5_word; decide +kernel) (by decide) (by decide)) rfl ?_
  rfl
theorem wr_l5 {l : List Int32} (h : 8 ≤ l.length) : wrf5 l = 0 := by
  unfold wrf5 wrs5 wrt5
  have hn : ∀ w : List Int32, w.length < 8 → ¬ l = w := fun w a b => by rw [b] at h; omega
  rw [if_neg (hn [118, 97, 114] (by decide)), if_neg (hn [97, 114, 114] (by decide)), if_neg (hn [102, 117, 110, 99] (by decide)), if_neg (hn [105, 102] (by decide)), if_neg (hn [101, 108, 115, 101] (by decide)), if_neg (hn [103, 97, 105, 110] (by decide)), if_neg (hn [112, 105, 99, 107] (by decide)), if_neg (hn [102, 108, 105, 112] (by decide))]
  rw [if_neg (hn [108, 111, 99, 97, 108] (by decide)), if_neg (hn [119, 104, 105, 108, 101] (by decide)), if_neg (hn [114, 101, 116, 117, 114, 110] (by decide)), if_neg (hn [111, 98, 115, 101, 114, 118, 101] (by decide)), if_neg (hn [99, 104, 111, 111, 115, 101] (by decide))]
  rfl
theorem wr_5 (l : List Int32) : (wch5 wl5 150 l = 140 ∧ wrf5 l = 0) ∨ (0 < (wrf5 l).toInt ∧ (wrf5 l).toInt ≤ 13 ∧ wch5 wl5 150 l = 149 + wrf5 l) := by
  by_cases h0 : l = [118, 97, 114]
  · subst h0; exact Or.inr (by decide +kernel)
  by_cases h1 : l = [97, 114, 114]
  · subst h1; exact Or.inr (by decide +kernel)
  by_cases h2 : l = [102, 117, 110, 99]
  · subst h2; exact Or.inr (by decide +kernel)
  by_cases h3 : l = [108, 111, 99, 97, 108]
  · subst h3; exact Or.inr (by decide +kernel)
  by_cases h4 : l = [105, 102]
  · subst h4; exact Or.inr (by decide +kernel)
  by_cases h5 : l = [101, 108, 115, 101]
  · subst h5; exact Or.inr (by decide +kernel)
  by_cases h6 : l = [119, 104, 105, 108, 101]
  · subst h6; exact Or.inr (by decide +kernel)
  by_cases h7 : l = [114, 101, 116, 117, 114, 110]
  · subst h7; exact Or.inr (by decide +kernel)
  by_cases h8 : l = [111, 98, 115, 101, 114, 118, 101]
  · subst h8; exact Or.inr (by decide +kernel)
  by_cases h9 : l = [103, 97, 105, 110]
  · subst h9; exact Or.inr (by decide +kernel)
  by_cases h10 : l = [112, 105, 99, 107]
  · subst h10; exact Or.inr (by decide +kernel)
  by_cases h11 : l = [102, 108, 105, 112]
  · subst h11; exact Or.inr (by decide +kernel)
  by_cases h12 : l = [99, 104, 111, 111, 115, 101]
  · subst h12; exact Or.inr (by decide +kernel)
  refine Or.inl ⟨?_, ?_⟩
  · unfold wl5
    simp only [wch5]
    rw [if_neg h0, if_neg h1, if_neg h2, if_neg h3, if_neg h4, if_neg h5, if_neg h6, if_neg h7, if_neg h8, if_neg h9, if_neg h10, if_neg h11, if_neg h12]
  · unfold wrf5 wrs5 wrt5
    rw [if_neg h0, if_neg h1, if_neg h2, if_neg h4, if_neg h5, if_neg h9, if_neg h10, if_neg h11]
    rw [if_neg h3, if_neg h6, if_neg h7, if_neg h8, if_neg h12]
    rfl
/-- a token written -/
def tkE5 (σ σ' : rS) (T : Nat) (pl so nu : Int32) (F : Int64) (G : Int32) : Prop := (∀ j, σ'.1 j = σ.1 j) ∧ (∀ r j, ¬ (j = T ∧ (r = 5 ∨ r = 6 ∨ r = 7 ∨ r = 9)) → σ'.2.2.1 r j = σ.2.2.1 r j) ∧ (∀ j, j ≠ T → σ'.2.2.2 8 j = σ.2.2.2 8 j) ∧ σ'.2.2.1 5 T = so ∧ σ'.2.2.1 6 T = pl ∧ σ'.2.2.1 7 T = nu ∧ σ'.2.2.1 9 T = G ∧ σ'.2.2.2 8 T = F
theorem tk_05 {σ : rS} {T : Nat} {pl : Int32} : tkE5 σ (riU (rlU (riU (riU σ 6 T pl) 7 T 0) 8 T 0) 9 T 0) T pl (σ.2.2.1 5 T) 0 0 0 := by
  refine ⟨fun _ => rfl, fun r j h => ?_, fun j h => ?_, ?_, ?_, ?_, ?_, ?_⟩
  · rw [ri34]
    by_cases a : r = 9
    · subst a
      rw [if_pos rfl, if_neg (fun q => h ⟨q, by omega⟩), rl3a, ri34, if_neg (by decide), ri34, if_neg (by decide)]
    · rw [if_neg a, rl3a, ri34]
      by_cases b : r = 7
      · subst b
        rw [if_pos rfl, if_neg (fun q => h ⟨q, by omega⟩), ri34, if_neg (by decide)]
      · rw [if_neg b, ri34]
        by_cases c : r = 6
        · subst c
          rw [if_pos rfl, if_neg (fun q => h ⟨q, by omega⟩)]
        · rw [if_neg c]
  · rw [ri5, rl45, if_pos rfl, if_neg h]
    rfl
  · rw [ri34, if_neg (by decide), rl3a, ri34, if_neg (by decide), ri34, if_neg (by decide)]
  · rw [ri34, if_neg (by decide), rl3a, ri34, if_neg (by decide), ri34, if_pos rfl, if_pos rfl]
  · rw [ri34, if_neg (by decide), rl3a, ri34, if_pos rfl, if_pos rfl]
  · rw [ri34, if_pos rfl, if_pos rfl]
  · rw [ri5, rl45, if_pos rfl, if_pos rfl]
theorem tk_55 {σ σ' : rS} {T : Nat} {pl so nu x : Int32} {F : Int64} {G : Int32} (h : tkE5 σ σ' T pl so nu F G) : tkE5 σ (riU σ' 5 T x) T pl x nu F G := by
  refine ⟨h.1, fun r j a => ?_, h.2.2.1, ?_, ?_, ?_, ?_, h.2.2.2.2.2.2.2⟩
  · rw [ri34]
    by_cases b : r = 5
    · subst b
      rw [if_pos rfl, if_neg (fun q => a ⟨q, by omega⟩)]
      exact h.2.1 5 j a
    · rw [if_neg b]
      exact h.2.1 r j a
  · rw [ri34, if_pos rfl, if_pos rfl]
  · rw [ri34, if_neg (by decide)]; exact h.2.2.2.2.1
  · rw [ri34, if_neg (by decide)]; exact h.2.2.2.2.2.1
  · rw [ri34, if_neg (by decide)]; exact h.2.2.2.2.2.2.1
theorem tk_75 {σ σ' : rS} {T : Nat} {pl so nu x : Int32} {F : Int64} {G : Int32} (h : tkE5 σ σ' T pl so nu F G) : tkE5 σ (riU σ' 7 T x) T pl so x F G := by
  refine ⟨h.1, fun r j a => ?_, h.2.2.1, ?_, ?_, ?_, ?_, h.2.2.2.2.2.2.2⟩
  · rw [ri34]
    by_cases b : r = 7
    · subst b
      rw [if_pos rfl, if_neg (fun q => a ⟨q, by omega⟩)]
      exact h.2.1 7 j a
    · rw [if_neg b]
      exact h.2.1 r j a
  · rw [ri34, if_neg (by decide)]; exact h.2.2.2.1
  · rw [ri34, if_neg (by decide)]; exact h.2.2.2.2.1
  · rw [ri34, if_pos rfl, if_pos rfl]
  · rw [ri34, if_neg (by decide)]; exact h.2.2.2.2.2.2.1
theorem tk_n5 {σ σ' : rS} {T : Nat} {pl so nu : Int32} {F F' : Int64} {G G' : Int32} (h : tkE5 σ σ' T pl so nu F G) : tkE5 σ (nmS5 σ' T F' G') T pl so nu F' G' := by
  unfold nmS5
  refine ⟨h.1, fun r j a => ?_, fun j a => ?_, ?_, ?_, ?_, ?_, ?_⟩
  · rw [ri34]
    by_cases b : r = 9
    · subst b
      rw [if_pos rfl, if_neg (fun q => a ⟨q, by omega⟩), rl3a]
      exact h.2.1 9 j a
    · rw [if_neg b, rl3a]
      exact h.2.1 r j a
  · rw [ri5, rl45, if_pos rfl, if_neg a]
    exact h.2.2.1 j a
  · rw [ri34, if_neg (by decide), rl3a]; exact h.2.2.2.1
  · rw [ri34, if_neg (by decide), rl3a]; exact h.2.2.2.2.1
  · rw [ri34, if_neg (by decide), rl3a]; exact h.2.2.2.2.2.1
  · rw [ri34, if_pos rfl, if_pos rfl]
  · rw [ri5, rl45, if_pos rfl, if_pos rfl]
theorem tk_b5 {σ σ' : rS} {T : Nat} {pl so nu : Int32} {F : Int64} {G : Int32} (h : tkE5 σ σ' T pl so nu F G) : bS5 σ' = bS5 σ ∧ nS5 σ' = nS5 σ ∧ (okS5 σ → okS5 σ') := by
  refine ⟨funext fun j => ?_, ?_, fun q => ?_⟩
  · unfold bS5
    rw [h.2.1 1 j (by omega)]
  · unfold nS5
    rw [h.1]
  · unfold okS5 at q ⊢
    rw [h.1]
    exact q
/-- a number's value -/
def nv5 (B : Nat → Int32) (p : Nat) : Nat → Int32
  | 0 => 0
  | k + 1 => nv5 B p k * 10 + B (p + k) - 48
theorem td_m5 {σ0 : rS} {t1 a1 pl so : Int32} {T p : Nat} (H : okS5 σ0) (ht : t1.toNatClampNeg = T) (ha : a1.toInt = p) : ∀ (m k : Nat) (a4 : Int32) (σ : rS), a4.toInt = p + k → p + k ≤ nS5 σ0 → nS5 σ0 - (p + k) < m → tkE5 σ0 σ T pl so (nv5 (bS5 σ0) p (min k 9)) 0 0 → ∃ (σ' : rS) (e so' : Int32), g5_take_68 m a1 t1 a4 σ = (σ', e) ∧ e.toInt = rnqq5 isDqq5 (bS5 σ0) (nS5 σ0) (p + k) ∧ tkE5 σ0 σ' T pl so' (nv5 (bS5 σ0) p (min (rnqq5 isDqq5 (bS5 σ0) (nS5 σ0) (p + k) - p) 9)) 0 0 ∧ so' = (if rnqq5 isDqq5 (bS5 σ0) (nS5 σ0) (p + k) - p ≤ 9 then 2 else 4)
  | 0, _, _, _, _, _, h, _ => by omega
  | m + 1, k, a4, σ, e4, hk, hm, hE => by
    have hn : nS5 σ0 ≤ 65536 := by have := H.2; unfold nS5; omega
    obtain ⟨b1, b2, b3⟩ := tk_b5 hE
    have e4n : a4.toInt.toNat = p + k := by omega
    have hbA : g5_byteAt a4 σ = bAqq5 (bS5 σ0) (nS5 σ0) (p + k) := by rw [bs_5 (by omega), b1, b2, e4n]
    have ed : (a4 - a1).toInt = k := by rw [su_i5 (by omega) (by omega)]; omega
    have e9 : (9 : Int32).toInt = 9 := rfl
    unfold g5_take_68
    dsimp only [pb5]
    rw [hbA, gd_5]
    by_cases c : p + k < nS5 σ0 ∧ isDqq5 (bS5 σ0 (p + k)) = true
    · have e5 : (a4 + 1).toInt = (p : Int) + (k + 1 : Nat) := by
        rw [in_5 (n := 65536) (by omega) (by omega) (by omega)]
        omega
      rw [ba_5 c.1, if_pos c.2, if_neg (by decide), rn_s5 c, ht]
      unfold g5_take_122
      dsimp only [pb5]
      rw [ht]
      by_cases k9 : k < 9
      · rw [if_neg (by rw [lei, ed, e9]; omega)]
        refine td_m5 (so := so) H ht ha m (k + 1) (a4 + 1) _ e5 (by omega) (by omega) ?_
        have z := tk_75 (x := (10 : Int32) * σ.2.2.1 7 T + bS5 σ0 (p + k) - 48) hE
        have y : (10 : Int32) * σ.2.2.1 7 T + bS5 σ0 (p + k) - 48 = nv5 (bS5 σ0) p (min (k + 1) 9) := by
          rw [hE.2.2.2.2.2.1, show min k 9 = k by omega, show min (k + 1) 9 = k + 1 by omega, Int32.mul_comm]
          rfl
        rw [y] at z ⊢
        exact z
      · rw [if_pos (by rw [lei, ed, e9]; omega)]
        refine td_m5 (so := so) H ht ha m (k + 1) (a4 + 1) _ e5 (by omega) (by omega) ?_
        have z := tk_75 (x := σ.2.2.1 7 T) hE
        have y : σ.2.2.1 7 T = nv5 (bS5 σ0) p (min (k + 1) 9) := by
          rw [hE.2.2.2.2.2.1, show min k 9 = 9 by omega, show min (k + 1) 9 = 9 by omega]
        rw [y] at z ⊢
        exact z
    · have q : isDqq5 (bAqq5 (bS5 σ0) (nS5 σ0) (p + k)) = false := by
        by_cases l : p + k < nS5 σ0
        · rw [ba_5 l]
          exact Bool.eq_false_iff.mpr (fun y => c ⟨l, y⟩)
        · have w : bAqq5 (bS5 σ0) (nS5 σ0) (p + k) = -1 := if_neg l
          rw [w]
          decide
      rw [rn_e5 c, q, if_pos (by decide), ht, show p + k - p = k by omega]
      by_cases k9 : k ≤ 9
      · rw [if_pos (by rw [lei, ed, e9]; omega), if_pos k9]
        exact ⟨_, a4, 2, rfl, by omega, tk_55 hE, rfl⟩
      · rw [if_neg (by rw [lei, ed, e9]; omega), if_neg k9]
        exact ⟨_, a4, 4, rfl, by omega, tk_55 hE, rfl⟩

end
section
set_option maxHeartbeats 1600000
/-! a token taken on both sides -/
theorem rn_a5 {f : Int32 → Bool} {B : Nat → Int32} {n p i : Nat} : p ≤ i → i < rnqq5 f B n p → f (B i) = true := by
  fun_induction rnqq5 f B n p with
  | case1 p h ih =>
    intro a b
    by_cases c : i = p
    · rw [c]; exact h.2
    · exact ih (by omega) b
  | case2 p h => intro a b; omega
theorem is_c5 {c a x : Int32} {l : List Int32} (h : x = if c ∈ l then 1 else 0) : (if c = a then 1 else x) = if c ∈ a :: l then 1 else 0 := by
  by_cases z : c = a
  · rw [if_pos z, if_pos (by rw [z]; exact List.mem_cons_self)]
  · rw [if_neg z, h]
    exact ifc_5 ⟨fun q => List.mem_cons_of_mem _ q, fun q => by
      rcases List.mem_cons.mp q with y | y
      · exact absurd y z
      · exact y⟩ rfl rfl
theorem gi_5 {c : Int32} {σ : rS} : g5_isSign c σ = if c ∈ sn5 then 1 else 0 := by
  unfold g5_isSign sn5
  iterate 21 refine is_c5 ?_
  exact (if_neg (List.not_mem_nil)).symm
theorem lt_15 {c : Int32} (h : cL5 c = true) : 0 < c.toInt ∧ c.toInt < 128 := by
  unfold cL5 isLqq5 isDqq5 at h
  simp only [Bool.or_eq_true, Bool.and_eq_true, decide_eq_true_eq] at h
  have e1 : (97 : Int32).toInt = 97 := rfl
  have e2 : (122 : Int32).toInt = 122 := rfl
  have e3 : (65 : Int32).toInt = 65 := rfl
  have e4 : (90 : Int32).toInt = 90 := rfl
  have e5 : (95 : Int32).toInt = 95 := rfl
  have e6 : (48 : Int32).toInt = 48 := rfl
  have e7 : (57 : Int32).toInt = 57 := rfl
  rcases h with ((h | h) | h) | h
  · rw [lei, lei, e1, e2] at h; omega
  · rw [lei, lei, e3, e4] at h; omega
  · rw [h, e5]; omega
  · rw [lei, lei, e6, e7] at h; omega
/-- what the reference writes of a token -/
def tQ5 (B : Nat → Int32) (n p : Nat) (so nu : Int32) (F : Int64) (G : Int32) : Prop :=
  (isLqq5 (B p) = true ∧ nmP5 B p (tEnq5 B n p - p) F G ∧ (∀ i, i < tEnq5 B n p - p → cL5 (B (p + i)) = true) ∧ ((12 < tEnq5 B n p - p ∧ so = 4) ∨ (tEnq5 B n p - p ≤ 12 ∧ nu = wrf5 (nmqq5 B p (tEnq5 B n p - p)) ∧ so = if wrf5 (nmqq5 B p (tEnq5 B n p - p)) ≤ 0 then 1 else 6))) ∨
  (¬ isLqq5 (B p) = true ∧ isDqq5 (B p) = true ∧ ((9 < tEnq5 B n p - p ∧ so = 4) ∨ (tEnq5 B n p - p ≤ 9 ∧ so = 2 ∧ nu = nv5 B p (tEnq5 B n p - p)))) ∨
  (¬ isLqq5 (B p) = true ∧ ¬ isDqq5 (B p) = true ∧ so = (if B p ∈ sn5 then 3 else 4) ∧ nu = if tEnq5 B n p = p + 2 then (if B p = 61 then 256 else if B p = 33 then 257 else if B p = 60 then 258 else 259) else B p)
theorem b4_05 {B : Nat → Int32} {p k : Nat} {F : Int64} {G : Int32} (h : nmP5 B p k F G) (hk : k ≤ 8) : G = 0 := b4_e5 (fun i hi => by rw [h.2 i hi, if_neg (by omega), b4_z5])
theorem te_L5 {B : Nat → Int32} {n p : Nat} (h : isLqq5 (B p) = true) (hp : p < n) : tEnq5 B n p = rnqq5 cL5 B n p := by
  unfold tEnq5
  rw [if_pos h, rn_s5 (f := cL5) ⟨hp, by unfold cL5; rw [h]; rfl⟩]
  rfl
theorem te_D5 {B : Nat → Int32} {n p : Nat} (h : ¬ isLqq5 (B p) = true) (h2 : isDqq5 (B p) = true) (hp : p < n) : tEnq5 B n p = rnqq5 isDqq5 B n p := by
  unfold tEnq5
  rw [if_neg h, if_pos h2, rn_s5 (f := isDqq5) ⟨hp, h2⟩]
theorem tk_9_5 {σ σ5 : rS} {t1 a1 a3 pl so nu wd : Int32} {F : Int64} {G : Int32} {T p k : Nat} (ht : t1.toNatClampNeg = T) (ha : a1.toInt = p) (h3 : a3.toInt = p + k) (hk : p + k ≤ 65536) (hE : tkE5 σ σ5 T pl so nu F G) : ∃ σ', g5_takeName_159 t1 a1 a3 t1 wd σ5 = (σ', a3) ∧ tkE5 σ σ' T pl (if k ≤ 12 then (if wd ≤ 0 then 1 else 6) else 4) wd F G := by
  unfold g5_takeName_159
  dsimp only [pb5]
  have ed : (a3 - a1).toInt = k := by rw [su_i5 (by omega) (by omega)]; omega
  have e12 : (12 : Int32).toInt = 12 := rfl
  rw [ht, ri34, if_pos rfl, if_pos rfl]
  by_cases c : k ≤ 12
  · rw [if_pos (by rw [lei, ed, e12]; omega), if_pos c]
    by_cases d : wd ≤ 0
    · rw [if_pos d, if_pos d]
      exact ⟨_, rfl, tk_55 (tk_75 hE)⟩
    · rw [if_neg d, if_neg d]
      exact ⟨_, rfl, tk_55 (tk_75 hE)⟩
  · rw [if_neg (by rw [lei, ed, e12]; omega), if_neg c]
    exact ⟨_, rfl, tk_55 (tk_75 hE)⟩
theorem tk_L5 {σ σ5 : rS} {a1 t1 so : Int32} {p T : Nat} (H : okS5 σ) (ha : a1.toInt = p) (hp : p < nS5 σ) (hT : t1.toNatClampNeg = T) (hE : tkE5 σ σ5 T a1 so 0 0 0) (hL : isLqq5 (bS5 σ p) = true) : ∃ (σ' : rS) (e so nu : Int32) (F : Int64) (G : Int32), g5_takeName t1 a1 σ5 = (σ', e) ∧ e.toInt = tEnq5 (bS5 σ) (nS5 σ) p ∧ tkE5 σ σ' T a1 so nu F G ∧ tQ5 (bS5 σ) (nS5 σ) p so nu F G := by
  obtain ⟨b1, b2, b3⟩ := tk_b5 hE
  have hn : nS5 σ ≤ 65536 := by have := H.2; unfold nS5; omega
  have hi : nmS5 σ5 T 0 0 = σ5 := nm_i5 hE.2.2.2.2.2.2.2 hE.2.2.2.2.2.2.1
  obtain ⟨k, F, G, a3, r1, r2, r3, r4⟩ := tn_m5 (b3 H) hT (by rw [b2]; exact hp) fu5 0 a1 a1 0 0 ha (by omega) (by rw [b2]; omega) (by rw [b2]; unfold fu5; omega) nm_05
  rw [hi] at r4
  rw [b1, b2, Nat.add_zero, ← te_L5 hL hp] at r3
  rw [b1] at r1
  have tb := te_b5 (B := bS5 σ) hp
  have hk : tEnq5 (bS5 σ) (nS5 σ) p - p = k := by omega
  have hcl : ∀ i, i < k → cL5 (bS5 σ (p + i)) = true := fun i hi => by
    have z := te_L5 (n := nS5 σ) hL hp
    exact rn_a5 (n := nS5 σ) (p := p) (by omega) (by rw [← z]; omega)
  have hb : ∀ i, i < k → 0 < (bS5 σ (p + i)).toInt ∧ (bS5 σ (p + i)).toInt < 256 := fun i hi => by
    have z := lt_15 (hcl i hi)
    omega
  have fin : ∀ wd : Int32, wd = wrf5 (nmqq5 (bS5 σ) p k) → g5_takeName t1 a1 σ5 = g5_takeName_159 t1 a1 a3 t1 wd (nmS5 σ5 T F G) → ∃ (σ' : rS) (e so nu : Int32) (F : Int64) (G : Int32), g5_takeName t1 a1 σ5 = (σ', e) ∧ e.toInt = tEnq5 (bS5 σ) (nS5 σ) p ∧ tkE5 σ σ' T a1 so nu F G ∧ tQ5 (bS5 σ) (nS5 σ) p so nu F G := fun wd hw hg => by
    obtain ⟨σ', s1, s2⟩ := tk_9_5 (wd := wd) hT ha r2 (by omega) (tk_n5 (F' := F) (G' := G) hE)
    refine ⟨σ', a3, _, _, F, G, hg.trans s1, by omega, s2, Or.inl ⟨hL, by rw [hk]; exact r1, by rw [hk]; exact hcl, ?_⟩⟩
    rw [hk]
    by_cases c : k ≤ 12
    · rw [if_pos c, ← hw]
      exact Or.inr ⟨c, rfl, rfl⟩
    · rw [if_neg c]
      exact Or.inl ⟨by omega, rfl⟩
  by_cases g : G = 0
  · exact fin _ (gwd_5 (σ := nmS5 σ5 T F G) r1 hb g) (by unfold g5_takeName; rw [r4, if_pos g])
  · refine fin 0 ?_ (by unfold g5_takeName; rw [r4, if_neg g])
    rw [wr_l5]
    rw [nm_l5]
    exact Nat.le_of_lt (Nat.lt_of_not_le (fun q => g (b4_05 r1 q)))
theorem tk_S5 {σ : rS} {a1 : Int32} {p T : Nat} (H : okS5 σ) (ha : a1.toInt = p) (hp : p < nS5 σ) (hT : (σ.1 3 + σ.1 4).toNatClampNeg = T) : ∃ (σ' : rS) (e so nu : Int32) (F : Int64) (G : Int32), g5_take a1 σ = (σ', e) ∧ e.toInt = tEnq5 (bS5 σ) (nS5 σ) p ∧ tkE5 σ σ' T a1 so nu F G ∧ tQ5 (bS5 σ) (nS5 σ) p so nu F G := by
  have hn : nS5 σ ≤ 65536 := by have := H.2; unfold nS5; omega
  have hE := tk_05 (σ := σ) (T := T) (pl := a1)
  unfold g5_take
  dsimp only [pb5, pm5]
  rw [hT]
  revert hE
  generalize (riU (rlU (riU (riU σ 6 T a1) 7 T 0) 8 T 0) 9 T 0) = σ5
  intro hE
  obtain ⟨b1, b2, b3⟩ := tk_b5 hE
  have e1 : (a1 + 1).toInt = a1.toInt + 1 := in_5 (n := 65536) (by omega) (by omega) (by omega)
  have e1n : (a1 + 1).toInt.toNat = p + 1 := by omega
  have ean : a1.toInt.toNat = p := by omega
  rw [bs_5 (σ := σ5) (a := a1) (by omega), bs_5 (σ := σ5) (a := a1 + 1) (by omega), b1, b2, e1n, ean, ba_5 hp, gl_5, gd_5]
  by_cases cL : isLqq5 (bS5 σ p) = true
  · rw [if_pos cL, if_neg (by decide)]
    exact tk_L5 H ha hp hT hE cL
  · rw [if_neg cL, if_pos rfl]
    by_cases cD : isDqq5 (bS5 σ p) = true
    · rw [if_pos cD, if_neg (by decide)]
      obtain ⟨σ', e, so', r1, r2, r3, r4⟩ := td_m5 H hT ha fu5 0 a1 σ5 (by omega) (by omega) (by unfold fu5; omega) hE
      rw [Nat.add_zero, ← te_D5 cL cD hp] at r2 r3 r4
      refine ⟨σ', e, so', _, 0, 0, r1, r2, r3, Or.inr (Or.inl ⟨cL, cD, ?_⟩)⟩
      by_cases c : tEnq5 (bS5 σ) (nS5 σ) p - p ≤ 9
      · rw [if_pos c] at r4
        exact Or.inr ⟨c, r4, by rw [show min (tEnq5 (bS5 σ) (nS5 σ) p - p) 9 = tEnq5 (bS5 σ) (nS5 σ) p - p by omega]⟩
      · rw [if_neg c] at r4
        exact Or.inl ⟨by omega, r4⟩
    · rw [if_neg cD, if_pos rfl]
      have e2 : (a1 + 2).toInt = a1.toInt + 2 := by rw [add_i (by have : (2 : Int32).toInt = 2 := rfl; omega) (by have : (2 : Int32).toInt = 2 := rfl; omega)]; rfl
      have hte : tEnq5 (bS5 σ) (nS5 σ) p = if (bS5 σ p = 61 ∨ bS5 σ p = 33 ∨ bS5 σ p = 60 ∨ bS5 σ p = 62) ∧ bAqq5 (bS5 σ) (nS5 σ) (p + 1) = 61 then p + 2 else p + 1 := by
        unfold tEnq5
        rw [if_neg cL, if_neg cD]
      have fin : ∀ s0 : Int32, (s0 = 1 ∧ tEnq5 (bS5 σ) (nS5 σ) p = p + 2) ∨ (s0 = 0 ∧ tEnq5 (bS5 σ) (nS5 σ) p = p + 1) → ∃ (σ' : rS) (e so nu : Int32) (F : Int64) (G : Int32), g5_take_194 a1 (σ.1 3 + σ.1 4) (bS5 σ p) s0 σ5 = (σ', e) ∧ e.toInt = tEnq5 (bS5 σ) (nS5 σ) p ∧ tkE5 σ σ' T a1 so nu F G ∧ tQ5 (bS5 σ) (nS5 σ) p so nu F G := fun s0 hs => by
        have go : ∀ s2 so' : Int32, vp_nar .byte (s2).toInt8.toInt32 = so' → so' = (if bS5 σ p ∈ sn5 then 3 else 4) → ∃ (σ' : rS) (e so nu : Int32) (F : Int64) (G : Int32), g5_take_213 a1 (σ.1 3 + σ.1 4) (bS5 σ p) s0 (σ.1 3 + σ.1 4) s2 σ5 = (σ', e) ∧ e.toInt = tEnq5 (bS5 σ) (nS5 σ) p ∧ tkE5 σ σ' T a1 so nu F G ∧ tQ5 (bS5 σ) (nS5 σ) p so nu F G := fun s2 so' hv hs2 => by
          have last : ∀ nw : Int32, nw = (if tEnq5 (bS5 σ) (nS5 σ) p = p + 2 then (if bS5 σ p = 61 then 256 else if bS5 σ p = 33 then 257 else if bS5 σ p = 60 then 258 else 259) else bS5 σ p) → ∃ (σ' : rS) (e so nu : Int32) (F : Int64) (G : Int32), g5_take_268 a1 s0 (σ.1 3 + σ.1 4) nw (riU σ5 5 T so') = (σ', e) ∧ e.toInt = tEnq5 (bS5 σ) (nS5 σ) p ∧ tkE5 σ σ' T a1 so nu F G ∧ tQ5 (bS5 σ) (nS5 σ) p so nu F G := fun nw hnu => by
            unfold g5_take_268
            dsimp only [pb5]
            rw [hT]
            have ht := tk_75 (x := nw) (tk_55 (x := so') hE)
            have hq : tQ5 (bS5 σ) (nS5 σ) p so' nw 0 0 := Or.inr (Or.inr ⟨cL, cD, hs2, hnu⟩)
            rcases hs with ⟨rfl, q⟩ | ⟨rfl, q⟩
            · rw [if_neg (by decide)]
              exact ⟨_, _, so', nw, 0, 0, rfl, by rw [q]; omega, ht, hq⟩
            · rw [if_pos rfl]
              exact ⟨_, _, so', nw, 0, 0, rfl, by rw [q]; omega, ht, hq⟩
          unfold g5_take_213
          dsimp only [pb5]
          rw [hT, hv]
          rcases hs with ⟨rfl, q⟩ | ⟨rfl, q⟩
          · rw [if_neg (by decide)]
            rw [if_pos q] at last
            by_cases d1 : bS5 σ p = 61
            · rw [if_pos d1] at last ⊢
              exact last _ rfl
            · rw [if_neg d1] at last ⊢
              by_cases d2 : bS5 σ p = 33
              · rw [if_pos d2] at last ⊢
                exact last _ rfl
              · rw [if_neg d2] at last ⊢
                by_cases d3 : bS5 σ p = 60
                · rw [if_pos d3] at last ⊢
                  exact last _ rfl
                · rw [if_neg d3] at last ⊢
                  exact last _ rfl
          · rw [if_pos rfl]
            rw [if_neg (by omega)] at last
            exact last _ rfl
        unfold g5_take_194
        dsimp only [pb5]
        rw [gi_5]
        by_cases cs : bS5 σ p ∈ sn5
        · rw [if_pos cs, if_neg (by decide)]
          exact go 3 3 rfl (if_pos cs).symm
        · rw [if_neg cs, if_pos rfl]
          exact go 4 4 rfl (if_neg cs).symm
      by_cases c61 : bAqq5 (bS5 σ) (nS5 σ) (p + 1) = 61
      · rw [if_pos c61]
        by_cases d1 : bS5 σ p = 61
        · rw [if_pos d1]; exact fin 1 (Or.inl ⟨rfl, by rw [hte, if_pos ⟨Or.inl d1, c61⟩]⟩)
        · rw [if_neg d1]
          by_cases d2 : bS5 σ p = 33
          · rw [if_pos d2]; exact fin 1 (Or.inl ⟨rfl, by rw [hte, if_pos ⟨Or.inr (Or.inl d2), c61⟩]⟩)
          · rw [if_neg d2]
            by_cases d3 : bS5 σ p = 60
            · rw [if_pos d3]; exact fin 1 (Or.inl ⟨rfl, by rw [hte, if_pos ⟨Or.inr (Or.inr (Or.inl d3)), c61⟩]⟩)
            · rw [if_neg d3]
              by_cases d4 : bS5 σ p = 62
              · rw [if_pos d4]; exact fin 1 (Or.inl ⟨rfl, by rw [hte, if_pos ⟨Or.inr (Or.inr (Or.inr d4)), c61⟩]⟩)
              · rw [if_neg d4]
                exact fin 0 (Or.inr ⟨rfl, by
                  rw [hte, if_neg (fun q => by
                    rcases q.1 with q | q | q | q
                    · exact d1 q
                    · exact d2 q
                    · exact d3 q
                    · exact d4 q)]⟩)
      · rw [if_neg c61]
        exact fin 0 (Or.inr ⟨rfl, by rw [hte, if_neg (fun q => c61 q.2)]⟩)
/-- the class's kind of a token -/
def cK5 (B : Nat → Int32) (n p : Nat) : Int32 := if isLqq5 (B p) = true then (if tEnq5 B n p - p ≤ 12 then wch5 wl5 150 (nmqq5 B p (tEnq5 B n p - p)) else 143) else if isDqq5 (B p) = true then (if tEnq5 B n p - p ≤ 9 then 141 else 143) else if tEnq5 B n p = p + 2 then (if B p = 61 then 128 else if B p = 33 then 129 else if B p = 60 then 130 else 131) else if B p ∈ sn5 then B p else 143
theorem ixs_5 : ∀ n, n < 256 → (ix5 sn5 (UInt32.toInt32 (Int32.toUInt32 (Int32.ofNat n) % 65536)) < 0 ↔ ¬ (Int32.ofNat n) ∈ sn5) := by decide +kernel
theorem bU_r5 {U : U5} {j : Nat} : 0 ≤ (bU5 U j).toInt ∧ (bU5 U j).toInt < 256 := by
  unfold bU5
  have a := andi_i (x := U.1 j) (m := 255) (by decide)
  have e255 : (255 : Int32).toInt = 255 := rfl
  rw [e255] at a
  omega
theorem of_t5 {x : Int32} (h : 0 ≤ x.toInt) : x = Int32.ofNat x.toInt.toNat := by
  apply Int32.toInt_inj.mp
  have h2 := x.toInt_lt
  rw [Int32.toInt_ofNat_of_lt (by omega)]
  omega
theorem kn_U5 {U : U5} {r : Int32} {p : Nat} (H : okU5 U) (hr : r.toInt = p) (hp : p < nU5 U) : kn5 U r = cK5 (bU5 U) (nU5 U) p ∧ (sz5 U r).toInt = (tEnq5 (bU5 U) (nU5 U) p : Int) - p := by
  have hb : nU5 U = U.2.1.toInt.toNat := rfl
  have hl : ¬ U.2.1 ≤ r := by rw [lei]; omega
  have h0 := H.1
  have ern : r.toInt.toNat = p := by omega
  have hz : sz5 U r = f5_Ta_sizeAt U r := if_neg hl
  have hs := sz_U5 (a := r) H (by omega) (by omega)
  rw [ern, hr] at hs
  have tl := te_ltqq5 (B := bU5 U) (n := nU5 U) (p := p)
  have tb := te_b5 (B := bU5 U) hp
  refine ⟨?_, by rw [hz]; exact hs⟩
  unfold kn5
  rw [if_neg hl, hz]
  have e9 : (9 : Int32).toInt = 9 := rfl
  have e12 : (12 : Int32).toInt = 12 := rfl
  have e2 : (2 : Int32).toInt = 2 := rfl
  have hsn : f5_Ta_sizeAt U r = Int32.ofNat (tEnq5 (bU5 U) (nU5 U) p - p) := by
    rw [of_t5 (x := f5_Ta_sizeAt U r) (by omega), hs]
    congr 1
    omega
  unfold f5_Ta_kindOf cK5
  dsimp only [pb5]
  rw [by_5 H (by omega), ern, ba_5 hp, le_5, dg_5]
  by_cases cL : isLqq5 (bU5 U p) = true
  · rw [if_pos cL, if_neg (by decide), if_pos cL]
    by_cases c : tEnq5 (bU5 U) (nU5 U) p - p ≤ 12
    · rw [if_pos (by rw [lei, hs, e12]; omega), if_pos c]
      exact wo_U5 H hr hsn c (by omega)
    · rw [if_neg (by rw [lei, hs, e12]; omega), if_neg c]
  · rw [if_neg cL, if_pos rfl, if_neg cL]
    by_cases cD : isDqq5 (bU5 U p) = true
    · rw [if_pos cD, if_neg (by decide), if_pos cD]
      by_cases c : tEnq5 (bU5 U) (nU5 U) p - p ≤ 9
      · rw [if_pos (by rw [lei, hs, e9]; omega), if_pos c]
      · rw [if_neg (by rw [lei, hs, e9]; omega), if_neg c]
    · rw [if_neg cD, if_pos rfl, if_neg cD]
      by_cases c : tEnq5 (bU5 U) (nU5 U) p = p + 2
      · rw [if_pos (by apply Int32.toInt_inj.mp; rw [hs, e2]; omega), if_pos c]
      · rw [if_neg (fun q => by rw [q, e2] at hs; omega), if_neg c]
        have b := bU_r5 (U := U) (j := p)
        have ix := ixs_5 (bU5 U p).toInt.toNat (by omega)
        rw [← of_t5 b.1] at ix
        by_cases d : bU5 U p ∈ sn5
        · rw [if_neg (fun q => (ix.mp q) d), if_pos d]
        · rw [if_pos (ix.mpr d), if_neg d]
/-- a token alike -/
def tR5 (B : Nat → Int32) (p s : Nat) (K so nu : Int32) (F : Int64) (G : Int32) : Prop :=
  (K = 143 ∧ so = 4) ∨ (K = 140 ∧ so = 1 ∧ 0 < s ∧ s ≤ 12 ∧ nmP5 B p s F G ∧ ∀ i, i < s → cL5 (B (p + i)) = true) ∨ (K = 141 ∧ so = 2 ∧ nu = nv5 B p s) ∨ (150 ≤ K.toInt ∧ K.toInt ≤ 162 ∧ so = 6 ∧ nu = K - 149) ∨ (so = 3 ∧ ((0 < K.toInt ∧ K.toInt < 128 ∧ nu = K) ∨ (128 ≤ K.toInt ∧ K.toInt ≤ 131 ∧ nu = K + 128)))
theorem sn_b5 : ∀ x ∈ sn5, 0 < x.toInt ∧ x.toInt < 128 := by decide
theorem tR_5 {B : Nat → Int32} {n p : Nat} {so nu : Int32} {F : Int64} {G : Int32} (h : tQ5 B n p so nu F G) : tR5 B p (tEnq5 B n p - p) (cK5 B n p) so nu F G := by
  unfold cK5
  rcases h with ⟨a, b, d, c⟩ | ⟨a, b, c⟩ | ⟨a, b, c, d⟩
  · rw [if_pos a]
    rcases c with ⟨c1, c2⟩ | ⟨c1, c2, c3⟩
    · rw [if_neg (by omega)]
      exact Or.inl ⟨rfl, c2⟩
    · rw [if_pos c1]
      rcases wr_5 (nmqq5 B p (tEnq5 B n p - p)) with ⟨w1, w2⟩ | ⟨w1, w2, w3⟩
      · rw [w2, if_pos (by decide)] at c3
        exact Or.inr (Or.inl ⟨w1, c3, by have := te_ltqq5 (B := B) (n := n) (p := p); omega, c1, b, d⟩)
      · rw [if_neg (by rw [lei, t0i]; omega)] at c3
        have e149 : (149 : Int32).toInt = 149 := rfl
        have ek : (149 + wrf5 (nmqq5 B p (tEnq5 B n p - p))).toInt = 149 + (wrf5 (nmqq5 B p (tEnq5 B n p - p))).toInt := by rw [add_i (by omega) (by omega), e149]
        refine Or.inr (Or.inr (Or.inr (Or.inl ?_)))
        rw [w3]
        refine ⟨by omega, by omega, c3, ?_⟩
        rw [c2]
        apply Int32.toInt_inj.mp
        rw [sub_i (by omega) (by omega), ek, e149]
        omega
  · rw [if_neg a, if_pos b]
    rcases c with ⟨c1, c2⟩ | ⟨c1, c2, c3⟩
    · rw [if_neg (by omega)]
      exact Or.inl ⟨rfl, c2⟩
    · rw [if_pos c1]
      exact Or.inr (Or.inr (Or.inl ⟨rfl, c2, c3⟩))
  · rw [if_neg a, if_neg b]
    by_cases e : tEnq5 B n p = p + 2
    · rw [if_pos e] at d ⊢
      have hc : B p = 61 ∨ B p = 33 ∨ B p = 60 ∨ B p = 62 := by
        unfold tEnq5 at e
        rw [if_neg a, if_neg b] at e
        by_cases q : (B p = 61 ∨ B p = 33 ∨ B p = 60 ∨ B p = 62) ∧ bAqq5 B n (p + 1) = 61
        · exact q.1
        · rw [if_neg q] at e; omega
      rcases hc with q | q | q | q <;> rw [q] at c d ⊢
      · exact Or.inr (Or.inr (Or.inr (Or.inr ⟨c, Or.inr ⟨by decide, by decide, d⟩⟩)))
      · exact Or.inr (Or.inr (Or.inr (Or.inr ⟨c, Or.inr ⟨by decide, by decide, d⟩⟩)))
      · exact Or.inr (Or.inr (Or.inr (Or.inr ⟨c, Or.inr ⟨by decide, by decide, d⟩⟩)))
      · exact Or.inr (Or.inr (Or.inr (Or.inr ⟨c, Or.inr ⟨by decide, by decide, d⟩⟩)))
    · rw [if_neg e] at d ⊢
      by_cases q : B p ∈ sn5
      · rw [if_pos q] at c ⊢
        have z := sn_b5 (B p) q
        exact Or.inr (Or.inr (Or.inr (Or.inr ⟨c, Or.inl ⟨z.1, z.2, d⟩⟩)))
      · rw [if_neg q] at c ⊢
        exact Or.inl ⟨rfl, c⟩

end
section
set_option maxHeartbeats 1600000
/-! both tapes cut alike -/
def tkA5 (y : Y5) (σ : rS) (B : Nat → Int32) (n Bk t : Nat) : Prop := ∃ p s : Nat, p + s ≤ n ∧ y.2.1 t = Int32.ofNat p ∧ y.2.2.1 t = Int32.ofNat s ∧ σ.2.2.1 6 (Bk + t) = Int32.ofNat p ∧ tR5 B p s (y.1 t) (σ.2.2.1 5 (Bk + t)) (σ.2.2.1 7 (Bk + t)) (σ.2.2.2 8 (Bk + t)) (σ.2.2.1 9 (Bk + t))
def tkZ5 (y : Y5) (σ : rS) (n Bk t : Nat) : Prop := y.1 t = 142 ∧ y.2.1 t = Int32.ofNat n ∧ σ.2.2.1 5 (Bk + t) = 5 ∧ σ.2.2.1 6 (Bk + t) = Int32.ofNat n
def TK5 (y : Y5) (σ : rS) (B : Nat → Int32) (n Bk N : Nat) : Prop := y.2.2.2 = Int32.ofNat N ∧ 0 < N ∧ N ≤ n + 1 ∧ (∀ t, t + 1 < N → tkA5 y σ B n Bk t ∧ y.1 t ≠ 143) ∧ ((tkA5 y σ B n Bk (N - 1) ∧ y.1 (N - 1) = 143) ∨ tkZ5 y σ n Bk (N - 1))
def frT5 (σ σ' : rS) : Prop := (∀ j, j ≠ 4 → σ'.1 j = σ.1 j) ∧ (∀ r j, ¬ (r = 5 ∨ r = 6 ∨ r = 7 ∨ r = 9) → σ'.2.2.1 r j = σ.2.2.1 r j)
theorem tkA_k5 {y y' : Y5} {σ σ' : rS} {B : Nat → Int32} {n Bk t : Nat} (h : tkA5 y σ B n Bk t) (h1 : y'.1 t = y.1 t) (h2 : y'.2.1 t = y.2.1 t) (h3 : y'.2.2.1 t = y.2.2.1 t) (hr : ∀ r, (r = 5 ∨ r = 6 ∨ r = 7 ∨ r = 9) → σ'.2.2.1 r (Bk + t) = σ.2.2.1 r (Bk + t)) (hl : σ'.2.2.2 8 (Bk + t) = σ.2.2.2 8 (Bk + t)) : tkA5 y' σ' B n Bk t := by
  unfold tkA5 at h ⊢
  rw [h1, h2, h3, hr 5 (by omega), hr 6 (by omega), hr 7 (by omega), hr 9 (by omega), hl]
  exact h
theorem cl_5 {k : Nat} (h : k ≤ 67108864) : (Int32.ofNat k).toNatClampNeg = k := by
  have z := ofn_i h
  rw [nc_5, z]
  omega
theorem ct_75 {σ : rS} {T : Nat} (hT : (σ.1 3 + σ.1 4).toNatClampNeg = T) : (∀ j, (g5_cutTape_72 σ).1 j = σ.1 j) ∧ (∀ r j, ¬ (j = T ∧ (r = 5 ∨ r = 6 ∨ r = 7)) → (g5_cutTape_72 σ).2.2.1 r j = σ.2.2.1 r j) ∧ (g5_cutTape_72 σ).2.2.2 = σ.2.2.2 ∧ (g5_cutTape_72 σ).2.2.1 5 T = 5 ∧ (g5_cutTape_72 σ).2.2.1 6 T = σ.1 2 := by
  unfold g5_cutTape_72
  dsimp only [pb5]
  have e : ∀ x y, ((riU (riU σ 5 (σ.1 3 + σ.1 4).toNatClampNeg x) 6 ((riU σ 5 (σ.1 3 + σ.1 4).toNatClampNeg x).1 3 + (riU σ 5 (σ.1 3 + σ.1 4).toNatClampNeg x).1 4).toNatClampNeg y).1 3 + (riU (riU σ 5 (σ.1 3 + σ.1 4).toNatClampNeg x) 6 ((riU σ 5 (σ.1 3 + σ.1 4).toNatClampNeg x).1 3 + (riU σ 5 (σ.1 3 + σ.1 4).toNatClampNeg x).1 4).toNatClampNeg y).1 4).toNatClampNeg = T := fun _ _ => hT
  have e2 : ∀ x, ((riU σ 5 (σ.1 3 + σ.1 4).toNatClampNeg x).1 3 + (riU σ 5 (σ.1 3 + σ.1 4).toNatClampNeg x).1 4).toNatClampNeg = T := fun _ => hT
  rw [e, e2, hT]
  refine ⟨fun _ => rfl, fun r j h => ?_, rfl, ?_, ?_⟩
  · rw [ri34]
    by_cases a : r = 7
    · subst a
      rw [if_pos rfl, if_neg (fun q => h ⟨q, by omega⟩), ri34, if_neg (by decide), ri34, if_neg (by decide)]
    · rw [if_neg a, ri34]
      by_cases b : r = 6
      · subst b
        rw [if_pos rfl, if_neg (fun q => h ⟨q, by omega⟩), ri34, if_neg (by decide)]
      · rw [if_neg b, ri34]
        by_cases c : r = 5
        · subst c
          rw [if_pos rfl, if_neg (fun q => h ⟨q, by omega⟩)]
        · rw [if_neg c]
  · rw [ri34, if_neg (by decide), ri34, if_neg (by decide), ri34, if_pos rfl, if_pos rfl]
    rfl
  · rw [ri34, if_neg (by decide), ri34, if_pos rfl, if_pos rfl]
    rfl
theorem tR_k5 {B : Nat → Int32} {p s : Nat} {K so nu : Int32} {F : Int64} {G : Int32} (h : tR5 B p s K so nu F G) : K ≠ 142 ∧ (K = 143 ↔ so = 4) := by
  have e4 : (142 : Int32).toInt = 142 := rfl
  have e5 : (143 : Int32).toInt = 143 := rfl
  rcases h with ⟨a, b⟩ | ⟨a, b, _⟩ | ⟨a, b, _⟩ | ⟨a, a2, b, _⟩ | ⟨b, c⟩
  · rw [a, b]; exact ⟨by decide, fun _ => rfl, fun _ => rfl⟩
  · rw [a, b]; exact ⟨by decide, fun q => absurd q (by decide), fun q => absurd q (by decide)⟩
  · rw [a, b]; exact ⟨by decide, fun q => absurd q (by decide), fun q => absurd q (by decide)⟩
  · rw [b]
    exact ⟨fun q => by rw [q, e4] at a; omega, fun q => by rw [q, e5] at a; omega, fun q => absurd q (by decide)⟩
  · rw [b]
    rcases c with ⟨c, d, _⟩ | ⟨c, d, _⟩
    · exact ⟨fun q => by rw [q, e4] at d; omega, fun q => by rw [q, e5] at d; omega, fun q => absurd q (by decide)⟩
    · exact ⟨fun q => by rw [q, e4] at d; omega, fun q => by rw [q, e5] at d; omega, fun q => absurd q (by decide)⟩
theorem pu_e5 {f : Nat → Int32} {n x : Int32} {k : Nat} (h : n.toNatClampNeg = k) : pu5 f n x k = x := if_pos h.symm
theorem pu_n5 {f : Nat → Int32} {n x : Int32} {k t : Nat} (h : n.toNatClampNeg = k) (ht : t ≠ k) : pu5 f n x t = f t := if_neg (fun q => ht (q.trans h))
theorem of_e5 {x : Int32} {n : Nat} (h : x.toInt = n) (hn : n ≤ 67108864) : x = Int32.ofNat n := Int32.toInt_inj.mp (by rw [ofn_i hn]; exact h)
theorem sp_l5 {U : U5} {B : Nat → Int32} {n Bk : Nat} (HU : okU5 U) (hB : bU5 U = B) (hn : nU5 U = n) (hn2 : n ≤ 65536) (hBk : Bk ≤ 65537) : ∀ (d mc mr cnt : Nat) (a1 a2 r : Int32) (y : Y5) (σ : rS), okS5 σ → bS5 σ = B → nS5 σ = n → σ.1 3 = Int32.ofNat Bk → σ.1 4 = Int32.ofNat cnt → y.2.2.2 = Int32.ofNat cnt → a2 = Int32.ofNat cnt → 0 ≤ a1.toInt → a1.toInt ≤ n → r.toInt = skqq5 B n false a1.toInt.toNat → cnt ≤ a1.toInt.toNat → n - r.toInt.toNat < d → d ≤ mc → d ≤ mr → (∀ t, t < cnt → tkA5 y σ B n Bk t ∧ y.1 t ≠ 143) → ∃ N, TK5 (f5_Ta_split_9 U mc a1 a2 y) (g5_cutTape_13 mr r 0 σ) B n Bk N ∧ frT5 σ (g5_cutTape_13 mr r 0 σ)
  | 0, _, _, _, _, _, _, _, _, _, _, _, _, _, _, _, _, _, _, _, h, _, _, _ => by omega
  | d + 1, mc, mr, cnt, a1, a2, r, y, σ, HS, sB, sn, s3, s4, hy, ha2, h0, h1, hr, hc, hd, hmc, hmr, hA => by
    obtain ⟨mc, rfl⟩ : ∃ k, mc = k + 1 := ⟨mc - 1, by omega⟩
    obtain ⟨mr, rfl⟩ : ∃ k, mr = k + 1 := ⟨mr - 1, by omega⟩
    have hlen : U.2.1.toInt = n := by have := HU.1; unfold nU5 at hn; omega
    have hsz : (σ.1 2).toInt = n := by have := HS.1; unfold nS5 at sn; omega
    have lc := ofn_i (n := cnt) (by omega)
    have hR : f5_Ta_skipBlanks U a1 = r := Int32.toInt_inj.mp (by rw [sk_U5 HU h0 (by omega), hB, hn, hr])
    have hT : (σ.1 3 + σ.1 4).toNatClampNeg = Bk + cnt := by rw [s3, s4, on_5 (by omega), cl_5 (by omega)]
    have sk1 := sk_leqq5 (B := B) (n := n) (p := a1.toInt.toNat) (c := false) (by omega)
    have sk2 := sk_b5 (B := B) (n := n) (p := a1.toInt.toNat) (c := false)
    have yc : y.2.2.2.toNatClampNeg = cnt := by rw [hy, cl_5 (by omega)]
    have yt : y.2.2.2 + 1 = Int32.ofNat (cnt + 1) := by rw [hy, on_15 (by omega)]
    rw [sp_s5 (by rw [lti, ha2]; omega), hR]
    by_cases c : n ≤ r.toInt.toNat
    · have k1 : kn5 U r = 142 := if_pos (by rw [lei]; omega)
      have e1 : g5_cutTape_13 (mr + 1) r 0 σ = g5_cutTape_72 σ := by
        rw [g5_cutTape_13]
        exact if_pos (by rw [lei]; omega)
      rw [k1, if_pos rfl, e1]
      obtain ⟨q1, q2, q3, q4, q5⟩ := ct_75 hT
      refine ⟨cnt + 1, ⟨yt, by omega, by omega, fun t ht => ?_, Or.inr ⟨pu_e5 yc, ?_, q4, ?_⟩⟩, fun j _ => q1 j, fun r' j hj => q2 r' j (fun q => hj (by omega))⟩
      · obtain ⟨w1, w2⟩ := hA t (by omega)
        have e : (tk5 142 r (sz5 U r) y).1 t = y.1 t := pu_n5 yc (by omega)
        refine ⟨tkA_k5 w1 e (pu_n5 yc (by omega)) (pu_n5 yc (by omega)) (fun r' hr' => q2 r' _ (by omega)) (by rw [q3]), by rw [e]; exact w2⟩
      · show pu5 y.2.1 y.2.2.2 r (cnt + 1 - 1) = _
        rw [show cnt + 1 - 1 = cnt by omega, pu_e5 yc]
        exact of_e5 (by omega) (by omega)
      · rw [show Bk + (cnt + 1 - 1) = Bk + cnt by omega, q5]
        exact of_e5 (by omega) (by omega)
    · have hp : r.toInt.toNat < n := by omega
      have r0 : 0 ≤ r.toInt := by rw [hr]; exact Int.natCast_nonneg _
      obtain ⟨k1, k2⟩ := kn_U5 (r := r) (p := r.toInt.toNat) HU (by omega) (by rw [hn]; exact hp)
      rw [hB, hn] at k1 k2
      obtain ⟨σ1, e, so, nu, F, G, t1, t2, t3, t4⟩ := tk_S5 (a1 := r) (p := r.toInt.toNat) HS (by omega) (by omega) hT
      rw [sB, sn] at t2 t4
      obtain ⟨u1, u2, u3⟩ := tk_b5 t3
      have tR := tR_5 t4
      rw [← k1] at tR
      obtain ⟨n1, n2⟩ := tR_k5 tR
      have te1 := te_ltqq5 (B := B) (n := n) (p := r.toInt.toNat)
      have te2 := te_b5 (B := B) hp
      have hsk : (g5_skip e σ1).toInt = skqq5 B n false e.toInt.toNat := by
        rw [sk_S5 (u3 HS) (by omega) (by have w := t3.1 2; rw [w]; omega), u1, u2, sB, sn]
      have e1 : g5_cutTape_13 (mr + 1) r 0 σ = if so = 4 then g5_cutTape_58 (g5_cutTape_13 mr) (g5_skip e σ1) 1 σ1 else g5_cutTape_58 (g5_cutTape_13 mr) (g5_skip e σ1) 0 σ1 := by
        rw [g5_cutTape_13]
        dsimp only [pm5, pb5]
        rw [if_neg (by rw [lei]; omega), if_pos rfl, t1]
        dsimp only
        rw [t3.1 3, t3.1 4, hT, t3.2.2.2.1]
      rw [if_neg n1, e1]
      have yk : ∀ t, t ≠ cnt → (tk5 (kn5 U r) r (sz5 U r) y).1 t = y.1 t := fun t ht => pu_n5 yc ht
      have yk2 : (tk5 (kn5 U r) r (sz5 U r) y).1 cnt = kn5 U r := pu_e5 yc
      have hs4 : (siU σ1 4 (σ1.1 4 + 1)).1 4 = Int32.ofNat (cnt + 1) := by
        rw [si1, if_pos rfl, t3.1 4, s4, on_15 (by omega)]
      have hs3 : (siU σ1 4 (σ1.1 4 + 1)).1 3 = Int32.ofNat Bk := by
        rw [si1, if_neg (by decide), t3.1 3, s3]
      have hAll : ∀ t, t < cnt → tkA5 (tk5 (kn5 U r) r (sz5 U r) y) (siU σ1 4 (σ1.1 4 + 1)) B n Bk t := fun t ht =>
        tkA_k5 (hA t ht).1 (yk t (by omega)) (pu_n5 yc (by omega)) (pu_n5 yc (by omega)) (fun r' hr' => t3.2.1 r' _ (by omega)) (t3.2.2.1 _ (by omega))
      have hNew : tkA5 (tk5 (kn5 U r) r (sz5 U r) y) (siU σ1 4 (σ1.1 4 + 1)) B n Bk cnt := by
        refine ⟨r.toInt.toNat, tEnq5 B n r.toInt.toNat - r.toInt.toNat, by omega, ?_, ?_, ?_, ?_⟩
        · show pu5 y.2.1 y.2.2.2 r cnt = _
          rw [pu_e5 yc]
          exact of_t5 (by omega)
        · show pu5 y.2.2.1 y.2.2.2 (sz5 U r) cnt = _
          rw [pu_e5 yc]
          exact of_e5 (by omega) (by omega)
        · show σ1.2.2.1 6 (Bk + cnt) = _
          rw [t3.2.2.2.2.1]
          exact of_t5 (by omega)
        · rw [yk2]
          show tR5 _ _ _ _ (σ1.2.2.1 5 (Bk + cnt)) (σ1.2.2.1 7 (Bk + cnt)) (σ1.2.2.2 8 (Bk + cnt)) (σ1.2.2.1 9 (Bk + cnt))
          rw [t3.2.2.2.1, t3.2.2.2.2.2.1, t3.2.2.2.2.2.2.1, t3.2.2.2.2.2.2.2]
          exact tR
      by_cases k3 : kn5 U r = 143
      · rw [if_pos k3, if_pos (n2.mp k3)]
        have e2 : g5_cutTape_58 (g5_cutTape_13 mr) (g5_skip e σ1) 1 σ1 = g5_cutTape_72 (siU σ1 4 (σ1.1 4 + 1)) := by
          unfold g5_cutTape_58
          dsimp only [pb5]
          obtain ⟨mr, rfl⟩ : ∃ k, mr = k + 1 := ⟨mr - 1, by omega⟩
          rw [g5_cutTape_13]
          by_cases z : (siU σ1 4 (σ1.1 4 + 1)).1 2 ≤ g5_skip e σ1
          · rw [if_pos z]
          · rw [if_neg z, if_neg (by decide)]
        rw [e2]
        obtain ⟨q1, q2, q3, q4, q5⟩ := ct_75 (σ := siU σ1 4 (σ1.1 4 + 1)) (T := Bk + cnt + 1) (by rw [hs3, hs4, on_5 (by omega), cl_5 (by omega)]; omega)
        refine ⟨cnt + 1, ⟨yt, by omega, by omega, fun t ht => ?_, Or.inl ⟨?_, ?_⟩⟩, fun j hj => ?_, fun r' j hj => ?_⟩
        · refine ⟨tkA_k5 (hAll t (by omega)) rfl rfl rfl (fun r' hr' => q2 r' _ (by omega)) (by rw [q3]), ?_⟩
          rw [yk t (by omega)]
          exact (hA t (by omega)).2
        · rw [show cnt + 1 - 1 = cnt by omega]
          exact tkA_k5 hNew rfl rfl rfl (fun r' hr' => q2 r' _ (by omega)) (by rw [q3])
        · rw [show cnt + 1 - 1 = cnt by omega, yk2]
          exact k3
        · rw [q1, si1, if_neg hj]
          exact t3.1 j
        · rw [q2 r' j (fun q => hj (by omega))]
          exact t3.2.1 r' j (fun q => hj (by omega))
      · rw [if_neg k3, if_neg (fun q => k3 (n2.mpr q))]
        have e2 : g5_cutTape_58 (g5_cutTape_13 mr) (g5_skip e σ1) 0 σ1 = g5_cutTape_13 mr (g5_skip e σ1) 0 (siU σ1 4 (σ1.1 4 + 1)) := rfl
        rw [e2]
        have er : (r + sz5 U r).toInt = e.toInt := by
          rw [add_i (by omega) (by omega)]
          omega
        have fr1 : frT5 σ (siU σ1 4 (σ1.1 4 + 1)) := ⟨fun j hj => by rw [si1, if_neg hj]; exact t3.1 j, fun r' j hj => t3.2.1 r' j (fun q => hj (by omega))⟩
        have sk3 := sk_leqq5 (B := B) (n := n) (p := e.toInt.toNat) (c := false) (by omega)
        have bb : bS5 (siU σ1 4 (σ1.1 4 + 1)) = B := by
          have z : bS5 (siU σ1 4 (σ1.1 4 + 1)) = bS5 σ1 := rfl
          rw [z, u1, sB]
        have n2' : (siU σ1 4 (σ1.1 4 + 1)).1 2 = σ.1 2 := by rw [si1, if_neg (by decide), t3.1 2]
        obtain ⟨N, g1, g2⟩ := sp_l5 HU hB hn hn2 hBk d mc mr (cnt + 1) (r + sz5 U r) (a2 + 1) (g5_skip e σ1) (tk5 (kn5 U r) r (sz5 U r) y) (siU σ1 4 (σ1.1 4 + 1)) (by unfold okS5 at HS ⊢; rw [n2']; exact HS) bb (by unfold nS5 at sn ⊢; rw [n2']; exact sn) hs3 hs4 yt (by rw [ha2, on_15 (by omega)]) (by omega) (by omega) (by rw [er]; exact hsk) (by omega) (by omega) (by omega) (by omega) (fun t ht => by
          by_cases z : t = cnt
          · rw [z, yk2]; exact ⟨hNew, k3⟩
          · rw [yk t z]; exact ⟨hAll t (by omega), (hA t (by omega)).2⟩)
        exact ⟨N, g1, fun j hj => (g2.1 j hj).trans (fr1.1 j hj), fun r' j hj => (g2.2 r' j hj).trans (fr1.2 r' j hj)⟩
/-- both tapes cut -/
theorem cut_5 {U : U5} {σ : rS} {n Bk : Nat} (HU : okU5 U) (HS : okS5 σ) (hB : bU5 U = bS5 σ) (hn : nU5 U = n) (sn : nS5 σ = n) (hBk : Bk ≤ 65537) (s3 : σ.1 3 = Int32.ofNat Bk) : ∃ N, TK5 (f5_Ta_split U) (g5_cutTape σ) (bS5 σ) n Bk N ∧ frT5 σ (g5_cutTape σ) := by
  have hsz : (σ.1 2).toInt = n := by have := HS.1; unfold nS5 at sn; omega
  have hn2 : n ≤ 65536 := by have := HS.2; omega
  unfold f5_Ta_split g5_cutTape
  dsimp only [pb5]
  have b1 : bS5 (siU σ 4 0) = bS5 σ := rfl
  have e2 : (siU σ 4 0).1 2 = σ.1 2 := rfl
  have o1 : okS5 (siU σ 4 0) := HS
  have hs := sk_S5 (a := 0) o1 (by decide) (by rw [e2, t0i]; exact HS.1)
  have z0 : (0 : Int32).toInt.toNat = 0 := rfl
  have nn : nS5 (siU σ 4 0) = n := sn
  rw [b1, nn, z0] at hs
  obtain ⟨N, g1, g2⟩ := sp_l5 HU hB hn hn2 hBk (n + 1) fu5 fu5 0 0 0 (g5_skip 0 (siU σ 4 0)) y05 (siU σ 4 0) o1 b1 nn s3 rfl rfl rfl (by decide) (by rw [t0i]; omega) (by rw [z0]; exact hs) (by omega) (by omega) (by unfold fu5; omega) (by unfold fu5; omega) (fun t ht => by omega)
  refine ⟨N, g1, fun j hj => (g2.1 j hj).trans ?_, fun r' j hj => g2.2 r' j hj⟩
  rw [si1, if_neg hj]

end
