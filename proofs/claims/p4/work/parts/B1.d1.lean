set_option maxHeartbeats 1600000
/-! the class: whole numbers of 32 bits as integers; rows of numbers kept once (Hoard) -/
theorem add_i {x y : Int32} (h1 : -2147483648 ≤ x.toInt + y.toInt) (h2 : x.toInt + y.toInt < 2147483648) : (x + y).toInt = x.toInt + y.toInt := by
  rw [Int32.toInt_add]; exact Int.bmod_eq_of_le (by omega) (by omega)
theorem sub_i {x y : Int32} (h1 : -2147483648 ≤ x.toInt - y.toInt) (h2 : x.toInt - y.toInt < 2147483648) : (x - y).toInt = x.toInt - y.toInt := by
  rw [Int32.toInt_sub]; exact Int.bmod_eq_of_le (by omega) (by omega)
theorem mul_i {x y : Int32} (h1 : -2147483648 ≤ x.toInt * y.toInt) (h2 : x.toInt * y.toInt < 2147483648) : (x * y).toInt = x.toInt * y.toInt := by
  rw [Int32.toInt_mul]; exact Int.bmod_eq_of_le (by omega) (by omega)
theorem lei {x y : Int32} : x ≤ y ↔ x.toInt ≤ y.toInt := Int32.le_iff_toInt_le
theorem lti {x y : Int32} : x < y ↔ x.toInt < y.toInt := Int32.lt_iff_toInt_lt
theorem t0i : (0 : Int32).toInt = 0 := rfl
theorem t1i : (1 : Int32).toInt = 1 := rfl
theorem t2i : (2 : Int32).toInt = 2 := rfl
theorem tmi : (-1 : Int32).toInt = -1 := rfl
theorem ilo (x : Int32) : -2147483648 ≤ x.toInt := Int32.le_toInt x
theorem ihi (x : Int32) : x.toInt < 2147483648 := Int32.toInt_lt x
theorem andi_i {x m : Int32} (h : 0 ≤ m.toInt) : 0 ≤ (x &&& m).toInt ∧ (x &&& m).toInt ≤ m.toInt := by
  have e1 : m.toInt = (m.toBitVec.toNat : Int) := BitVec.toInt_eq_toNat_of_lt (by
    have h9 : 0 ≤ m.toBitVec.toInt := h
    rw [BitVec.toInt_eq_toNat_cond] at h9
    have l := m.toBitVec.isLt
    split at h9
    · assumption
    · omega)
  have e2 : (x &&& m).toBitVec.toNat = x.toBitVec.toNat &&& m.toBitVec.toNat := by
    show (x.toBitVec &&& m.toBitVec).toNat = _
    exact BitVec.toNat_and _ _
  have l2 : (x &&& m).toBitVec.toNat ≤ m.toBitVec.toNat := by rw [e2]; exact Nat.and_le_right
  have hm : 2 * m.toBitVec.toNat < 2 ^ 32 := by
    have h9 := ihi m
    rw [e1] at h9
    omega
  have e3 : (x &&& m).toInt = ((x &&& m).toBitVec.toNat : Int) := BitVec.toInt_eq_toNat_of_lt (by omega)
  rw [e3, e1]
  omega
theorem cnk {x : Int32} (h : 0 ≤ x.toInt) : (x.toNatClampNeg : Int) = x.toInt := by
  show ((x.toInt.toNat : Nat) : Int) = x.toInt
  omega
/-- a store of rows that is in use -/
def hoA (κ : zS) (h M D S : Nat) : Prop := (zN κ (zR κ hoTable h)) = S ∧ (zN κ (zR κ hoStarts h)) = M + 1 ∧ (zA κ (zR κ hoStarts h) 0).toInt = 0 ∧ (∀ k, k < ((zI κ hoTotal h).toInt).toNat → (zA κ (zR κ hoStarts h) k).toInt ≤ (zA κ (zR κ hoStarts h) (k + 1)).toInt ∧ (zA κ (zR κ hoStarts h) (k + 1)).toInt ≤ (zA κ (zR κ hoStarts h) k).toInt + D) ∧ (zA κ (zR κ hoStarts h) ((zI κ hoTotal h).toInt).toNat).toInt ≤ (zN κ (zR κ hoPool h)) ∧ ∀ j, j < S → 0 ≤ (zA κ (zR κ hoTable h) j).toInt ∧ (zA κ (zR κ hoTable h) j).toInt ≤ (zI κ hoTotal h).toInt
def hoI (κ : zS) (h M D S : Nat) : Prop := ((zI κ hoMost h).toInt = M ∧ (zI κ hoWidest h).toInt = D ∧ (zI κ hoSlots h).toInt = S) ∧ (0 ≤ (zI κ hoTotal h).toInt ∧ (zI κ hoTotal h).toInt ≤ M) ∧ (16 ≤ (zN κ (zR κ hoPool h)) ∧ (zN κ (zR κ hoPool h)) ≤ M * D) ∧ (((zN κ (zR κ hoTable h)) = 0 ∧ (zN κ (zR κ hoStarts h)) = 1 ∧ (zI κ hoTotal h).toInt = 0) ∨ hoA κ h M D S)
def hoP (M D S : Nat) : Prop := (M = 1000 ∧ D = 142 ∧ S = 2048) ∨ (M = 1000 ∧ D = 35 ∧ S = 2048) ∨ (M = 3000 ∧ D = 3 ∧ S = 8192)
theorem hoP_b {M D S : Nat} (h : hoP M D S) : M ≤ 3000 ∧ D ≤ 142 ∧ 2048 ≤ S ∧ S ≤ 8192 ∧ M * D ≤ 142000 ∧ 1000 ≤ M := by
  rcases h with ⟨rfl, rfl, rfl⟩ | ⟨rfl, rfl, rfl⟩ | ⟨rfl, rfl, rfl⟩ <;> decide
theorem hoA_mono {κ : zS} {h M D S : Nat} (H : hoA κ h M D S) : ∀ j k, k ≤ j → j ≤ ((zI κ hoTotal h).toInt).toNat → (zA κ (zR κ hoStarts h) k).toInt ≤ (zA κ (zR κ hoStarts h) j).toInt := by
  intro j
  induction j with
  | zero => intro k hk _; rw [Nat.le_zero.mp hk]; exact Int.le_refl _
  | succ j ih =>
    intro k hk hj
    by_cases e : k = j + 1
    · rw [e]; exact Int.le_refl _
    · exact Int.le_trans (ih k (by omega) (by omega)) (H.2.2.2.1 j (by omega)).1
theorem hoA_0 {κ : zS} {h M D S k : Nat} (H : hoA κ h M D S) (hk : k ≤ ((zI κ hoTotal h).toInt).toNat) : 0 ≤ (zA κ (zR κ hoStarts h) k).toInt := by
  have := hoA_mono H k 0 (Nat.zero_le _) hk
  rw [H.2.2.1] at this
  exact this
theorem hoA_D {κ : zS} {h M D S : Nat} (H : hoA κ h M D S) : ∀ j, j ≤ ((zI κ hoTotal h).toInt).toNat → (zA κ (zR κ hoStarts h) j).toInt ≤ j * D := by
  intro j
  induction j with
  | zero => intro _; rw [H.2.2.1]; simp
  | succ j ih =>
    intro hj
    have a := ih (by omega)
    have b := (H.2.2.2.1 j (by omega)).2
    have e : ((j + 1 : Nat) : Int) * D = j * D + D := by rw [Int.natCast_add]; simp [Int.add_mul]
    omega
theorem hoA_t {κ : zS} {h M D S k : Nat} (H : hoA κ h M D S) (hk : k ≤ ((zI κ hoTotal h).toInt).toNat) : (zA κ (zR κ hoStarts h) k).toInt ≤ (zN κ (zR κ hoPool h)) := Int.le_trans (hoA_mono H _ k hk (Nat.le_refl _)) H.2.2.2.2.1
theorem hoI_A {κ : zS} {h M D S : Nat} (H : hoI κ h M D S) (z : 0 < (zI κ hoTotal h).toInt ∨ (zN κ (zR κ hoTable h)) ≠ 0) : hoA κ h M D S := by
  rcases H.2.2.2 with q | q
  · omega
  · exact q
/-- the same store -/
theorem hoI_f {κ κ' : zS} {h M D S : Nat} (H : hoI κ h M D S) (hi : ∀ f, f / 100 = 6 → zI κ' f h = zI κ f h) (hr : ∀ f, f = hoStarts ∨ f = hoTable ∨ f = hoPool → zR κ' f h = zR κ f h ∧ zA κ' (zR κ f h) = zA κ (zR κ f h) ∧ zN κ' (zR κ f h) = zN κ (zR κ f h)) : hoI κ' h M D S := by
  have s := hr hoStarts (Or.inl rfl)
  have t := hr hoTable (Or.inr (Or.inl rfl))
  have p := hr hoPool (Or.inr (Or.inr rfl))
  unfold hoI hoA
  unfold hoI hoA at H
  show (((zI κ' hoMost h).toInt = M ∧ (zI κ' hoWidest h).toInt = D ∧ (zI κ' hoSlots h).toInt = S) ∧ (0 ≤ (zI κ' hoTotal h).toInt ∧ (zI κ' hoTotal h).toInt ≤ M) ∧ (16 ≤ zN κ' (zR κ' hoPool h) ∧ zN κ' (zR κ' hoPool h) ≤ M * D) ∧ ((zN κ' (zR κ' hoTable h) = 0 ∧ zN κ' (zR κ' hoStarts h) = 1 ∧ (zI κ' hoTotal h).toInt = 0) ∨ (zN κ' (zR κ' hoTable h) = S ∧ zN κ' (zR κ' hoStarts h) = M + 1 ∧ (zA κ' (zR κ' hoStarts h) 0).toInt = 0 ∧ (∀ k, k < ((zI κ' hoTotal h).toInt).toNat → (zA κ' (zR κ' hoStarts h) k).toInt ≤ (zA κ' (zR κ' hoStarts h) (k + 1)).toInt ∧ (zA κ' (zR κ' hoStarts h) (k + 1)).toInt ≤ (zA κ' (zR κ' hoStarts h) k).toInt + D) ∧ (zA κ' (zR κ' hoStarts h) ((zI κ' hoTotal h).toInt).toNat).toInt ≤ zN κ' (zR κ' hoPool h) ∧ ∀ j, j < S → 0 ≤ (zA κ' (zR κ' hoTable h) j).toInt ∧ (zA κ' (zR κ' hoTable h) j).toInt ≤ (zI κ' hoTotal h).toInt)))
  rw [hi hoMost rfl, hi hoWidest rfl, hi hoSlots rfl, hi hoTotal rfl, s.1, t.1, p.1, s.2.1, t.2.1, s.2.2, t.2.2, p.2.2]
  exact H
theorem Ho_lengthOf_c {C : zC} {n0 : Nat} {a0 : Nat} {a1 : Int32} {κ : zS} {Q : Int32 → zS → Prop} (W : zW C n0 κ) (Ta0 : zT κ a0 = 6) (M D S : Nat) (hp : hoI κ a0 M D S ∧ hoP M D S) (h : ∀ (v : Int32), (0 ≤ v.toInt ∧ v.toInt ≤ D ∧ (0 < v.toInt → 0 ≤ a1.toInt ∧ a1.toInt < (zI κ hoTotal a0).toInt ∧ v.toInt = (zA κ (zR κ hoStarts a0) (a1.toNatClampNeg + 1)).toInt - (zA κ (zR κ hoStarts a0) a1.toNatClampNeg).toInt)) → Q v κ) : zRun C 0 mHo_lengthOf [.ref a0, .int a1] κ (oI Q noX) := by
  refine Ho_lengthOf_run W Ta0 ?_
  replace W := W.lo (Nat.le_trans W.1.2.1 W.1.2.2) (Nat.le_refl (zn κ))
  unfold w_Ho_lengthOf_0
  obtain ⟨H, P⟩ := hp
  have B := hoP_b P
  have z0 : 0 ≤ (0 : Int32).toInt ∧ (0 : Int32).toInt ≤ (D : Int) ∧ (0 < (0 : Int32).toInt → 0 ≤ a1.toInt ∧ a1.toInt < (zI κ hoTotal a0).toInt ∧ (0 : Int32).toInt = (zA κ (zR κ hoStarts a0) (a1.toNatClampNeg + 1)).toInt - (zA κ (zR κ hoStarts a0) a1.toNatClampNeg).toInt) := ⟨by decide, Int.natCast_nonneg D, fun h => absurd h (by decide)⟩
  refine ⟨fun c1 => ?_, fun c1 => ?_⟩
  · skip
    refine h _ ?_
    · exact z0  -- q1
  · skip
    refine ⟨fun c2 => ?_, fun c2 => ?_⟩
    · skip
      refine h _ ?_
      · exact z0  -- q2
    · skip
      have c0 : 0 ≤ a1.toInt := by rw [lti, t0i] at c1; omega
      have c3 : a1.toInt < (zI κ hoTotal a0).toInt := by rw [lei] at c2; omega
      have k9 := cnk c0
      have tM := H.2.1.2
      have A := hoI_A H (Or.inl (by omega))
      have e1 : (a1 + 1).toInt = a1.toInt + 1 := by rw [add_i (by rw [t1i]; omega) (by rw [t1i]; omega), t1i]
      have n1 : (a1 + 1).toNatClampNeg = a1.toNatClampNeg + 1 := by have := cnk (x := a1 + 1) (by omega); omega
      have sl : zN κ (zR κ hoStarts a0) = M + 1 := A.2.1
      refine ⟨?_, ?_⟩
      · rw [inb_iff, e1, sl]; omega  -- b3
      refine ⟨?_, ?_⟩
      · rw [inb_iff, sl]; omega  -- b4
      refine h _ ?_
      · rw [n1]
        have a := hoA_0 A (k := a1.toNatClampNeg) (by omega)
        have b := A.2.2.2.1 a1.toNatClampNeg (by omega)
        have t := hoA_t A (k := a1.toNatClampNeg + 1) (by omega)
        have p := H.2.2.1.2
        have e : (zA κ (zR κ hoStarts a0) (a1.toNatClampNeg + 1) - zA κ (zR κ hoStarts a0) a1.toNatClampNeg).toInt = (zA κ (zR κ hoStarts a0) (a1.toNatClampNeg + 1)).toInt - (zA κ (zR κ hoStarts a0) a1.toNatClampNeg).toInt := sub_i (by omega) (by omega)
        show 0 ≤ (zA κ (zR κ hoStarts a0) (a1.toNatClampNeg + 1) - zA κ (zR κ hoStarts a0) a1.toNatClampNeg).toInt ∧ _
        rw [e]
        exact ⟨by omega, by omega, fun _ => ⟨c0, c3, rfl⟩⟩

theorem Ho_part_c {C : zC} {n0 : Nat} {a0 : Nat} {a1 : Int32} {a2 : Int32} {κ : zS} {Q : Int32 → zS → Prop} (W : zW C n0 κ) (Ta0 : zT κ a0 = 6) (M D S : Nat) (hp : hoI κ a0 M D S ∧ hoP M D S) (h : ∀ (v : Int32), (True) → Q v κ) : zRun C 1 mHo_part [.ref a0, .int a1, .int a2] κ (oI Q noX) := by
  refine Ho_part_run W Ta0 ?_
  replace W := W.lo (Nat.le_trans W.1.2.1 W.1.2.2) (Nat.le_refl (zn κ))
  unfold w_Ho_part_0
  obtain ⟨H, P⟩ := hp
  have B := hoP_b P
  refine ⟨fun c1 => ?_, fun c1 => ?_⟩
  · skip
    refine h _ ?_
    · trivial  -- q1
  · skip
    intro T2
    refine Ho_lengthOf_c W T2 M D S ?_ (fun r3 q5 => ?_)
    · exact ⟨H, P⟩  -- p2
    intro W6
    intro M7
    refine ⟨fun c8 => ?_, fun c8 => ?_⟩
    · skip
      refine h _ ?_
      · trivial  -- q3
    · skip
      have c0 : 0 ≤ a2.toInt := by rw [lti, t0i] at c1; omega
      have c9 : a2.toInt < r3.toInt := by rw [lei] at c8; omega
      obtain ⟨k0, k1, ek⟩ := q5.2.2 (by omega)
      have k9 := cnk k0
      have tM := H.2.1.2
      have A := hoI_A H (Or.inl (by omega))
      have sl : zN κ (zR κ hoStarts a0) = M + 1 := A.2.1
      refine ⟨?_, ?_⟩
      · rw [inb_iff, sl]; omega  -- b4
      refine ⟨?_, ?_⟩
      · have a := hoA_0 A (k := a1.toNatClampNeg) (by omega)
        have t := hoA_t A (k := a1.toNatClampNeg + 1) (by omega)
        have p := H.2.2.1.2
        have e : (zA κ (zR κ hoStarts a0) a1.toNatClampNeg + a2).toInt = (zA κ (zR κ hoStarts a0) a1.toNatClampNeg).toInt + a2.toInt := add_i (by omega) (by omega)
        rw [inb_iff, e]
        have t2 : (zA κ (zR κ hoStarts a0) (a1.toNatClampNeg + 1)).toInt ≤ zN κ (zR κ hoPool a0) := t
        omega
      refine h _ ?_
      · trivial  -- q6

theorem Ho_isRow_c {C : zC} {n0 : Nat} {a0 : Nat} {a1 : Int32} {a2 : Nat} {a3 : Int32} {κ : zS} {Q : Int32 → zS → Prop} (W : zW C n0 κ) (Ta0 : zT κ a0 = 6) (Ta2 : zT κ a2 = 20) (M D S : Nat) (hp : hoA κ a0 M D S ∧ hoP M D S ∧ 0 ≤ (zI κ hoTotal a0).toInt ∧ (zI κ hoTotal a0).toInt ≤ M ∧ (zN κ (zR κ hoPool a0)) ≤ M * D ∧ 0 ≤ a1.toInt ∧ a1.toInt < (zI κ hoTotal a0).toInt ∧ a3.toInt ≤ zN κ a2) (h : ∀ (v : Int32), (nb v) → Q v κ) : zRun C 0 mHo_isRow [.ref a0, .int a1, .ref a2, .int a3] κ (oI Q noX) := by
  refine Ho_isRow_run W Ta0 Ta2 ?_
  replace W := W.lo (Nat.le_trans W.1.2.1 W.1.2.2) (Nat.le_refl (zn κ))
  unfold w_Ho_isRow_0
  obtain ⟨A, P, h0, h1, hpl, k0, k1, hl⟩ := hp
  have B := hoP_b P
  have k9 := cnk k0
  have sl : zN κ (zR κ hoStarts a0) = M + 1 := A.2.1
  have e1 : (a1 + 1).toInt = a1.toInt + 1 := by rw [add_i (by rw [t1i]; omega) (by rw [t1i]; omega), t1i]
  have n1 : (a1 + 1).toNatClampNeg = a1.toNatClampNeg + 1 := by have := cnk (x := a1 + 1) (by omega); omega
  have a := hoA_0 A (k := a1.toNatClampNeg) (by omega)
  have b := A.2.2.2.1 a1.toNatClampNeg (by omega)
  have t : (zA κ (zR κ hoStarts a0) (a1.toNatClampNeg + 1)).toInt ≤ zN κ (zR κ hoPool a0) := hoA_t A (k := a1.toNatClampNeg + 1) (by omega)
  have p : zN κ (zR κ hoPool a0) ≤ M * D := hpl
  refine ⟨?_, ?_⟩
  · rw [inb_iff, sl]; omega  -- b1
  intro x1 hx1
  refine ⟨?_, ?_⟩
  · rw [inb_iff, e1, sl]; omega  -- b2
  refine ⟨fun c2 => ?_, fun c2 => ?_⟩
  · skip
    unfold w_Ho_isRow_28
    refine ⟨fun n l0 l2 l3 l4 l5 τ => n = (l3 - l5).toNatClampNeg ∧ (κ = τ ∧ a0 = l0 ∧ a2 = l2 ∧ a3 = l3 ∧ 0 ≤ l5.toInt ∧ l4.toInt = (zA κ (zR κ hoStarts a0) a1.toNatClampNeg).toInt ∧ a3.toInt = (zA κ (zR κ hoStarts a0) (a1.toNatClampNeg + 1)).toInt - (zA κ (zR κ hoStarts a0) a1.toNatClampNeg).toInt ∧ l5.toInt ≤ a3.toInt), ⟨_, rfl, ?_⟩, ?_⟩
    · have e : (zA κ (zR κ hoStarts a0) (a1.toNatClampNeg + 1) - zA κ (zR κ hoStarts a0) a1.toNatClampNeg).toInt = (zA κ (zR κ hoStarts a0) (a1.toNatClampNeg + 1)).toInt - (zA κ (zR κ hoStarts a0) a1.toNatClampNeg).toInt := sub_i (by omega) (by omega)
      rw [n1, hx1] at c2
      have c3 : (zA κ (zR κ hoStarts a0) (a1.toNatClampNeg + 1) - zA κ (zR κ hoStarts a0) a1.toNatClampNeg).toInt = a3.toInt := congrArg Int32.toInt c2
      rw [e] at c3
      exact ⟨rfl, rfl, rfl, rfl, by decide, by rw [hx1], c3.symm, by rw [t0i]; omega⟩
    rintro n28 _ _ _ x28_4 x28_5 _ W28 T28_0 T28_1 ⟨hn28, rfl, rfl, rfl, rfl, i28⟩
    obtain ⟨m0, m1, m2, m3⟩ := i28
    refine ⟨fun c3 => ?_, fun c3 => ?_⟩
    · skip
      refine h _ ?_
      · exact nb_1  -- q4
    · skip
      have c9 : x28_5.toInt < a3.toInt := by rw [lei] at c3; omega
      refine ⟨?_, ?_⟩
      · have e : (x28_4 + x28_5).toInt = x28_4.toInt + x28_5.toInt := add_i (by omega) (by omega)
        rw [inb_iff, e]; omega
      refine ⟨?_, ?_⟩
      · rw [inb_iff]; omega  -- b6
      refine ⟨fun c4 => ?_, fun c4 => ?_⟩
      · skip
        intro x5 hx5
        refine ⟨_, cn_lt2 hn28 ?_ ?_, rfl, ?_⟩
        · rw [hx5, lei, t0i]
          have e : (x28_5 + 1).toInt = x28_5.toInt + 1 := by rw [add_i (by rw [t1i]; omega) (by rw [t1i]; omega), t1i]
          rw [sub_i (by rw [e]; omega) (by rw [e]; omega), e]; omega
        · rw [hx5, lti]
          have e : (x28_5 + 1).toInt = x28_5.toInt + 1 := by rw [add_i (by rw [t1i]; omega) (by rw [t1i]; omega), t1i]
          rw [sub_i (by rw [e]; omega) (by rw [e]; omega), e, sub_i (by omega) (by omega)]; omega
        · have e : (x28_5 + 1).toInt = x28_5.toInt + 1 := by rw [add_i (by rw [t1i]; omega) (by rw [t1i]; omega), t1i]
          exact ⟨rfl, rfl, rfl, rfl, by rw [hx5, e]; omega, m1, m2, by rw [hx5, e]; omega⟩
      · skip
        refine h _ ?_
        · exact nb_0  -- q10
  · skip
    refine h _ ?_
    · exact nb_0  -- q11

theorem Ho_slotOf_c {C : zC} {n0 : Nat} {a0 : Nat} {a1 : Nat} {a2 : Int32} {κ : zS} {Q : Int32 → zS → Prop} (W : zW C n0 κ) (Ta0 : zT κ a0 = 6) (Ta1 : zT κ a1 = 20) (M D S : Nat) (hp : hoA κ a0 M D S ∧ hoP M D S ∧ 0 ≤ (zI κ hoTotal a0).toInt ∧ (zI κ hoTotal a0).toInt ≤ M ∧ (zN κ (zR κ hoPool a0)) ≤ M * D ∧ a2.toInt ≤ zN κ a1) (h : ∀ (v : Int32), (0 ≤ v.toInt ∧ v.toInt < S) → Q v κ) : zRun C 1 mHo_slotOf [.ref a0, .ref a1, .int a2] κ (oI Q noX) := by
  refine Ho_slotOf_run W Ta0 Ta1 ?_
  replace W := W.lo (Nat.le_trans W.1.2.1 W.1.2.2) (Nat.le_refl (zn κ))
  unfold w_Ho_slotOf_0
  obtain ⟨A, P, h0, h1, hpl, hl⟩ := hp
  have B := hoP_b P
  have tl : zN κ (zR κ hoTable a0) = S := A.1
  have nN := W.n Ta1
  have eS : (Int32.ofNat S).toInt = S := ofn_i (by omega)
  have eM : (Int32.ofNat S - 1).toInt = S - 1 := by rw [sub_i (by rw [eS, t1i]; omega) (by rw [eS, t1i]; omega), eS, t1i]
  unfold w_Ho_slotOf_5
  refine ⟨fun n l0 l1 l2 l3 l4 τ => n = (a2.toInt - l4.toInt).toNat ∧ (κ = τ ∧ a0 = l0 ∧ a1 = l1 ∧ a2 = l2 ∧ 0 ≤ l4.toInt), ⟨_, rfl, ?_⟩, ?_⟩
  · exact ⟨rfl, rfl, rfl, rfl, by decide⟩  -- j1
  rintro n5 _ _ _ x5_3 x5_4 _ W5 T5_0 T5_1 ⟨hn5, rfl, rfl, rfl, rfl, i5⟩
  refine ⟨fun c1 => ?_, fun c1 => ?_⟩
  · skip
    intro x2 hx2
    unfold w_Ho_slotOf_48
    refine ⟨fun n l0 l1 l2 l4 l5 τ => n = ((S : Int) - l5.toInt).toNat ∧ (κ = τ ∧ a0 = l0 ∧ a1 = l1 ∧ a2 = l2 ∧ 0 ≤ l4.toInt ∧ l4.toInt < S ∧ 0 ≤ l5.toInt), ⟨_, rfl, ?_⟩, ?_⟩
    · rw [tl] at hx2
      have q := andi_i (x := x5_3) (m := Int32.ofNat S - 1) (by rw [eM]; omega)
      rw [eM] at q
      exact ⟨rfl, rfl, rfl, rfl, by rw [hx2]; exact q.1, by rw [hx2]; omega, by decide⟩
    rintro n48 _ _ _ x48_4 x48_5 _ W48 T48_0 T48_1 ⟨hn48, rfl, rfl, rfl, rfl, i48⟩
    obtain ⟨m0, m1, m2⟩ := i48
    refine ⟨fun c3 => ?_, fun c3 => ?_⟩
    · skip
      refine h _ ?_
      · exact ⟨m0, m1⟩  -- q3
    · skip
      have c9 : x48_5.toInt < S := by rw [lei, tl, eS] at c3; omega
      refine ⟨?_, ?_⟩
      · rw [inb_iff, tl]; exact ⟨m0, m1⟩  -- b4
      refine ⟨fun c4 => ?_, fun c4 => ?_⟩
      · skip
        refine h _ ?_
        · exact ⟨m0, m1⟩  -- q5
      · skip
        refine ⟨?_, ?_⟩
        · rw [inb_iff, tl]; exact ⟨m0, m1⟩  -- b6
        intro T5
        intro T6
        refine Ho_isRow_c W48 T5 T6 M D S ?_ (fun r7 q9 => ?_)
        · have z := A.2.2.2.2.2 x48_4.toNatClampNeg (by have := cnk m0; omega)
          have z2 : zA κ (zR κ hoTable a0) x48_4.toNatClampNeg ≠ 0 := c4
          have z3 : (zA κ (zR κ hoTable a0) x48_4.toNatClampNeg).toInt ≠ 0 := fun e => z2 (Int32.toInt_inj.mp e)
          have e : (zA κ (zR κ hoTable a0) x48_4.toNatClampNeg - 1).toInt = (zA κ (zR κ hoTable a0) x48_4.toNatClampNeg).toInt - 1 := by rw [sub_i (by rw [t1i]; omega) (by rw [t1i]; omega), t1i]
          exact ⟨A, P, h0, h1, hpl, by rw [e]; omega, by rw [e]; omega, hl⟩
        intro W10
        intro M11
        refine ⟨fun c12 => ?_, fun c12 => ?_⟩
        · skip
          intro x13 hx13
          intro x14 hx14
          refine ⟨_, ?_, rfl, ?_⟩
          · have e : (x48_5 + 1).toInt = x48_5.toInt + 1 := by rw [add_i (by rw [t1i]; omega) (by rw [t1i]; omega), t1i]
            rw [hn48, hx14, e]; omega
          · have e : (x48_5 + 1).toInt = x48_5.toInt + 1 := by rw [add_i (by rw [t1i]; omega) (by rw [t1i]; omega), t1i]
            rw [tl] at hx13
            have q := andi_i (x := x48_4 + 1) (m := Int32.ofNat S - 1) (by rw [eM]; omega)
            rw [eM] at q
            exact ⟨rfl, rfl, rfl, rfl, by rw [hx13]; exact q.1, by rw [hx13]; omega, by rw [hx14, e]; omega⟩
        · skip
          refine h _ ?_
          · exact ⟨m0, m1⟩  -- q10
  · skip
    have c9 : x5_4.toInt < a2.toInt := by rw [lei] at c1; omega
    refine ⟨?_, ?_⟩
    · rw [inb_iff]; omega  -- b11
    intro x15 hx15
    intro x16 hx16
    intro x17 hx17
    refine ⟨_, ?_, rfl, ?_⟩
    · have e : (x5_4 + 1).toInt = x5_4.toInt + 1 := by rw [add_i (by rw [t1i]; omega) (by rw [t1i]; have := ihi a2; omega), t1i]
      rw [hn5, hx17, e]; omega
    · have e : (x5_4 + 1).toInt = x5_4.toInt + 1 := by rw [add_i (by rw [t1i]; omega) (by rw [t1i]; have := ihi a2; omega), t1i]
      exact ⟨rfl, rfl, rfl, rfl, by rw [hx17, e]; omega⟩

theorem Ho_find_c {C : zC} {n0 : Nat} {a0 : Nat} {a1 : Nat} {a2 : Int32} {κ : zS} {Q : Int32 → zS → Prop} (W : zW C n0 κ) (Ta0 : zT κ a0 = 6) (Ta1 : zT κ a1 = 20) (M D S : Nat) (hp : hoI κ a0 M D S ∧ hoP M D S) (h : ∀ (v : Int32), (-1 ≤ v.toInt ∧ v.toInt < (zI κ hoTotal a0).toInt) → Q v κ) : zRun C 2 mHo_find [.ref a0, .ref a1, .int a2] κ (oI Q noX) := by
  refine Ho_find_run W Ta0 Ta1 ?_
  replace W := W.lo (Nat.le_trans W.1.2.1 W.1.2.2) (Nat.le_refl (zn κ))
  unfold w_Ho_find_0
  obtain ⟨H, P⟩ := hp
  have B := hoP_b P
  have tN := W.n (ty_hoTable W Ta0)
  have nN := W.n Ta1
  have z1 : -1 ≤ (-1 : Int32).toInt ∧ (-1 : Int32).toInt < (zI κ hoTotal a0).toInt := ⟨by decide, by rw [tmi]; have := H.2.1.1; omega⟩
  refine ⟨fun c1 => ?_, fun c1 => ?_⟩
  · skip
    refine h _ ?_
    · exact z1  -- q1
  · skip
    have A := hoI_A H (Or.inr (fun e => c1 (by have e9 : zN κ (zR κ hoTable a0) = 0 := e; rw [e9]; rfl)))
    refine ⟨fun c2 => ?_, fun c2 => ?_⟩
    · skip
      intro T3
      intro T4
      refine Ho_slotOf_c W T3 T4 M D S ?_ (fun r5 q7 => ?_)
      · exact ⟨A, P, H.2.1.1, H.2.1.2, H.2.2.1.2, by rw [lei, ofn_i nN] at c2; exact c2⟩  -- p2
      intro W8
      intro M9
      refine ⟨?_, ?_⟩
      · rw [inb_iff, show zN κ (zR κ hoTable a0) = S from A.1]; exact q7  -- b3
      refine h _ ?_
      · have z := A.2.2.2.2.2 r5.toNatClampNeg (by have := cnk q7.1; omega)
        have tM := H.2.1.2
        have e : (zA κ (zR κ hoTable a0) r5.toNatClampNeg - 1).toInt = (zA κ (zR κ hoTable a0) r5.toNatClampNeg).toInt - 1 := by rw [sub_i (by rw [t1i]; omega) (by rw [t1i]; omega), t1i]
        rw [e]
        omega
    · skip
      refine h _ ?_
      · exact z1  -- q5
