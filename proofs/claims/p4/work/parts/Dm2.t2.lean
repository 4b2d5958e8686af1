set_option maxHeartbeats 1600000
/-! the class's tokens: sizes, words, kinds -/
theorem rn_s5 {f : Int32 → Bool} {B : Nat → Int32} {n p : Nat} (h : p < n ∧ f (B p) = true) : rnqq5 f B n p = rnqq5 f B n (p + 1) := by
  conv => lhs; rw [rnqq5]
  rw [if_pos h]
theorem rn_e5 {f : Int32 → Bool} {B : Nat → Int32} {n p : Nat} (h : ¬ (p < n ∧ f (B p) = true)) : rnqq5 f B n p = p := by
  rw [rnqq5, if_neg h]
theorem rn_b5 {f : Int32 → Bool} {B : Nat → Int32} {n p : Nat} (h : p ≤ n) : rnqq5 f B n p ≤ n := by
  fun_induction rnqq5 f B n p with
  | case1 p h1 ih => exact ih (by omega)
  | case2 p h1 => omega
/-- which bytes go on in a token -/
def cn5 (a3 : Int32) : Int32 → Bool := fun x => isDqq5 x || (decide (a3 ≠ 0) && isLqq5 x)
theorem su_i5 {a b : Int32} (h0 : 0 ≤ a.toInt) (h1 : 0 ≤ b.toInt) : (b - a).toInt = b.toInt - a.toInt := by
  have h2 := a.toInt_lt
  have h3 := b.toInt_lt
  exact sub_i (by omega) (by omega)
theorem sz_m5 {U : U5} (H : okU5 U) : ∀ (m : Nat) (a1 a3 a4 : Int32), 0 ≤ a1.toInt → 0 ≤ a4.toInt → a4.toInt ≤ U.2.1.toInt → (U.2.1.toInt - a4.toInt).toNat < m → (f5_Ta_sizeAt_81 U m a1 a3 a4).toInt = rnqq5 (cn5 a3) (bU5 U) (nU5 U) a4.toInt.toNat - a1.toInt
  | 0, _, _, _, _, _, _, h => by omega
  | m + 1, a1, a3, a4, h9, h0, h1, h => by
    have hn := H.2.1
    have hm := H.2.2
    unfold f5_Ta_sizeAt_81
    dsimp only [pb5]
    by_cases z : U.2.1 ≤ a4
    · rw [if_pos z, su_i5 h9 h0, rn_e5 (by rw [lei] at z; unfold nU5; omega)]
      omega
    · rw [if_neg z]
      rw [lei] at z
      have lt : a4.toInt.toNat < nU5 U := by unfold nU5; omega
      have e1 : (a4 + 1).toInt = a4.toInt + 1 := in_5 (n := U.2.1.toInt) h0 (by omega) (by omega)
      have e2 : (a4 + 1).toInt.toNat = a4.toInt.toNat + 1 := by omega
      have ih := sz_m5 H m a1 a3 (a4 + 1) h9 (by omega) (by omega) (by omega)
      rw [e2] at ih
      rw [by_5 H h0, ba_5 lt, dg_5, le_5]
      by_cases c1 : isDqq5 (bU5 U a4.toInt.toNat) = true
      · rw [if_pos c1, if_neg (by decide), ih, rn_s5 (p := a4.toInt.toNat) ⟨lt, by unfold cn5; rw [c1]; rfl⟩]
      · rw [if_neg c1, if_pos rfl]
        by_cases c2 : a3 = 0
        · rw [if_pos c2, su_i5 h9 h0, rn_e5 (fun q => by
            have w := q.2
            unfold cn5 at w
            rw [c2, Bool.eq_false_iff.mpr c1] at w
            exact absurd w (by simp))]
          omega
        · rw [if_neg c2]
          by_cases c3 : isLqq5 (bU5 U a4.toInt.toNat) = true
          · rw [if_pos c3, if_neg (by decide), ih, rn_s5 (p := a4.toInt.toNat) ⟨lt, by unfold cn5; rw [c3, decide_eq_true c2]; simp⟩]
          · rw [if_neg c3, if_pos rfl, su_i5 h9 h0, rn_e5 (fun q => by
              have w := q.2
              unfold cn5 at w
              rw [Bool.eq_false_iff.mpr c3, Bool.eq_false_iff.mpr c1] at w
              exact absurd w (by simp))]
            omega
theorem cn_L5 : cn5 1 = fun x => isLqq5 x || isDqq5 x := by
  funext x
  unfold cn5
  rw [Bool.or_comm]
  rfl
theorem cn_D5 : cn5 0 = isDqq5 := by
  funext x
  unfold cn5
  simp
theorem te_b5 {B : Nat → Int32} {n p : Nat} (h : p < n) : tEnq5 B n p ≤ n := by
  unfold tEnq5
  split
  · exact rn_b5 (by omega)
  · split
    · exact rn_b5 (by omega)
    · split
      · rename_i q
        have w := q.2
        unfold bAqq5 at w
        by_cases y : p + 1 < n
        · omega
        · rw [if_neg y] at w
          exact absurd w (by decide)
      · omega
/-- the class's sizes -/
theorem sz_U5 {U : U5} {a : Int32} (H : okU5 U) (h0 : 0 ≤ a.toInt) (h1 : a.toInt < U.2.1.toInt) : (f5_Ta_sizeAt U a).toInt = (tEnq5 (bU5 U) (nU5 U) a.toInt.toNat : Int) - a.toInt := by
  have hn := H.2.1
  have hm := H.2.2
  have lt : a.toInt.toNat < nU5 U := by unfold nU5; omega
  have e1 : (a + 1).toInt = a.toInt + 1 := in_5 (n := U.2.1.toInt) h0 (by omega) (by omega)
  have e2 : (a + 1).toInt.toNat = a.toInt.toNat + 1 := by omega
  have run : ∀ a3 : Int32, (f5_Ta_sizeAt_76 U a a3).toInt = (rnqq5 (cn5 a3) (bU5 U) (nU5 U) (a.toInt.toNat + 1) : Int) - a.toInt := fun a3 => by
    unfold f5_Ta_sizeAt_76
    dsimp only [pb5]
    rw [sz_m5 H fu5 a a3 (a + 1) h0 (by omega) (by omega) (by unfold fu5; omega), e2]
  have two : ∀ s0 : Int32, s0 = 0 ∨ s0 = 1 → (f5_Ta_sizeAt_51 U a s0).toInt = if s0 ≠ 0 ∧ bAqq5 (bU5 U) (nU5 U) (a.toInt.toNat + 1) = 61 then 2 else 1 := fun s0 hs => by
    unfold f5_Ta_sizeAt_51
    dsimp only [pb5]
    rw [by_5 H (by omega), e2]
    rcases hs with rfl | rfl
    · rw [if_pos rfl, if_neg (fun q => q.1 rfl)]
      rfl
    · rw [if_neg (by decide)]
      by_cases q : bAqq5 (bU5 U) (nU5 U) (a.toInt.toNat + 1) = 61
      · rw [if_pos q, if_pos ⟨by decide, q⟩]
        rfl
      · rw [if_neg q, if_neg (fun w => q w.2)]
        rfl
  unfold f5_Ta_sizeAt
  dsimp only [pb5]
  rw [by_5 H h0, ba_5 lt, le_5, dg_5]
  unfold tEnq5
  by_cases c1 : isLqq5 (bU5 U a.toInt.toNat) = true
  · rw [if_pos c1, if_neg (by decide), if_pos c1, run, cn_L5]
  · rw [if_neg c1, if_pos rfl, if_neg c1]
    by_cases c2 : isDqq5 (bU5 U a.toInt.toNat) = true
    · rw [if_pos c2, if_neg (by decide), if_pos c2, run, cn_D5]
    · rw [if_neg c2, if_pos rfl, if_neg c2]
      have fin : ∀ s0 : Int32, (s0 = 1 ∧ (bU5 U a.toInt.toNat = 61 ∨ bU5 U a.toInt.toNat = 33 ∨ bU5 U a.toInt.toNat = 60 ∨ bU5 U a.toInt.toNat = 62)) ∨ (s0 = 0 ∧ ¬ (bU5 U a.toInt.toNat = 61 ∨ bU5 U a.toInt.toNat = 33 ∨ bU5 U a.toInt.toNat = 60 ∨ bU5 U a.toInt.toNat = 62)) → (f5_Ta_sizeAt_51 U a s0).toInt = (((if (bU5 U a.toInt.toNat = 61 ∨ bU5 U a.toInt.toNat = 33 ∨ bU5 U a.toInt.toNat = 60 ∨ bU5 U a.toInt.toNat = 62) ∧ bAqq5 (bU5 U) (nU5 U) (a.toInt.toNat + 1) = 61 then a.toInt.toNat + 2 else a.toInt.toNat + 1) : Nat) : Int) - a.toInt := fun s0 hs => by
        rw [two s0 (by rcases hs with q | q; exact Or.inr q.1; exact Or.inl q.1)]
        rcases hs with ⟨rfl, q⟩ | ⟨rfl, q⟩
        · by_cases w : bAqq5 (bU5 U) (nU5 U) (a.toInt.toNat + 1) = 61
          · rw [if_pos ⟨by decide, w⟩, if_pos ⟨q, w⟩]; omega
          · rw [if_neg (fun y => w y.2), if_neg (fun y => w y.2)]; omega
        · rw [if_neg (fun y => y.1 rfl), if_neg (fun y => q y.1)]; omega
      by_cases d1 : bU5 U a.toInt.toNat = 61
      · rw [if_pos d1]; exact fin 1 (Or.inl ⟨rfl, Or.inl d1⟩)
      · rw [if_neg d1]
        by_cases d2 : bU5 U a.toInt.toNat = 33
        · rw [if_pos d2]; exact fin 1 (Or.inl ⟨rfl, Or.inr (Or.inl d2)⟩)
        · rw [if_neg d2]
          by_cases d3 : bU5 U a.toInt.toNat = 60
          · rw [if_pos d3]; exact fin 1 (Or.inl ⟨rfl, Or.inr (Or.inr (Or.inl d3))⟩)
          · rw [if_neg d3]
            by_cases d4 : bU5 U a.toInt.toNat = 62
            · rw [if_pos d4]; exact fin 1 (Or.inl ⟨rfl, Or.inr (Or.inr (Or.inr d4))⟩)
            · rw [if_neg d4]
              exact fin 0 (Or.inr ⟨rfl, fun q => by
                rcases q with q | q | q | q
                · exact d1 q
                · exact d2 q
                · exact d3 q
                · exact d4 q⟩)
