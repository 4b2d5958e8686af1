set_option maxHeartbeats 1600000
/-! the class: common divisors of short numbers -/
def gcNn (A B x y n : Nat) : Prop := Nat.gcd x y = Nat.gcd A B ∧ ((n = 0 ∧ x = A ∧ y = B) ∨ (1 ≤ n ∧ y < x ∧ x * y * 2 ^ (n - 1) ≤ A * B))
theorem eu_m {x y : Nat} (h : 0 < y) (l : y ≤ x) : Nat.gcd y (x % y) = Nat.gcd x y ∧ 2 * (y * (x % y)) ≤ x * y := by
  have d := Nat.div_add_mod x y
  have e := eu_s (x := x) (y := y) (r := x % y) (q := x / y) (by rw [Nat.mul_comm]; exact d.symm) (Nat.mod_lt _ h) (Nat.div_pos l h)
  exact ⟨e.1, e.2.1⟩
theorem gc_m {x y : Nat} : Nat.gcd y (x % y) = Nat.gcd x y := by rw [Nat.gcd_comm x y, Nat.gcd_rec y x, Nat.gcd_comm]
theorem gcNn_s {A B x y n : Nat} (h : gcNn A B x y n) (hy : 0 < y) : gcNn A B y (x % y) (n + 1) := by
  refine ⟨by rw [gc_m]; exact h.1, Or.inr ⟨by omega, Nat.mod_lt _ hy, ?_⟩⟩
  show y * (x % y) * 2 ^ n ≤ _
  rcases h.2 with ⟨z1, z2, z3⟩ | ⟨z1, z2, z3⟩
  · rw [z1, z2, z3, Nat.pow_zero, Nat.mul_one, Nat.mul_comm A B]
    exact Nat.mul_le_mul_left B (Nat.mod_le _ _)
  · have e := (eu_m hy (Nat.le_of_lt z2)).2
    have e2 := Nat.mul_le_mul_right (2 ^ (n - 1)) e
    have e3 : n = n - 1 + 1 := by omega
    have e4 : 2 ^ n = 2 ^ (n - 1) * 2 := by
      conv => lhs; rw [e3]
      rw [Nat.pow_succ]
    rw [e4, Nat.mul_comm (2 ^ (n - 1)) 2, ← Nat.mul_assoc, Nat.mul_comm (y * (x % y)) 2]
    omega
theorem gcNn_b {A B x y n k : Nat} (h : gcNn A B x y n) (hy : 0 < y) (hk : A * B < 2 ^ k) : n ≤ k := by
  rcases h.2 with ⟨z1, _, _⟩ | ⟨z1, z2, z3⟩
  · omega
  · have p : 1 ≤ x * y := Nat.mul_pos (by omega) hy
    have q := Nat.mul_le_mul_right (2 ^ (n - 1)) p
    rw [Nat.one_mul] at q
    have : 2 ^ (n - 1) < 2 ^ k := by omega
    have := (Nat.pow_lt_pow_iff_right (by decide : 1 < 2)).mp this
    omega
theorem Ch_commonLong_c {C : zC} {n0 : Nat} {a0 : Int64} {a2 : Int64} {κ : zS} {Q : Int64 → zS → Prop} (W : zW C n0 κ)   (hp : (0 ≤ a0.toInt ∧ a0.toInt < 4611686018427387904) ∧ 0 ≤ a2.toInt ∧ a2.toInt < 4611686018427387904) (h : ∀ (v : Int64), (v.toInt = ((Nat.gcd a0.toInt.toNat a2.toInt.toNat : Nat) : Int)) → Q v κ) : zRun C 0 mCh_commonLong [.long a0, .long a2] κ (oJ Q noX) := by
  refine Ch_commonLong_run W  ?_
  replace W := W.lo (Nat.le_trans W.1.2.1 W.1.2.2) (Nat.le_refl (zn κ))
  unfold w_Ch_commonLong_0
  have z64 : (0 : Int64).toInt = 0 := rfl
  have t200 : (200 : Int32).toInt = 200 := rfl
  have AB : a0.toInt.toNat * a2.toInt.toNat < 2 ^ 124 := by
    have := Nat.mul_le_mul (show a0.toInt.toNat ≤ 4611686018427387903 by omega) (show a2.toInt.toNat ≤ 4611686018427387903 by omega)
    omega
  have fin : ∀ (x y : Int64) (n : Nat), gcNn a0.toInt.toNat a2.toInt.toNat x.toInt.toNat y.toInt.toNat n → 0 ≤ x.toInt → y.toInt.toNat = 0 → x.toInt = ((Nat.gcd a0.toInt.toNat a2.toInt.toNat : Nat) : Int) := fun x y n h h0 z => by
    rw [← h.1, z, Nat.gcd_zero_right]
    omega
  unfold w_Ch_commonLong_9
  refine ⟨fun n l4 l6 l8 τ => n = (200 - l8.toInt).toNat ∧ (κ = τ ∧ (0 ≤ l8.toInt ∧ l8.toInt ≤ 200) ∧ (0 ≤ l4.toInt ∧ 0 ≤ l6.toInt) ∧ gcNn a0.toInt.toNat a2.toInt.toNat l4.toInt.toNat l6.toInt.toNat l8.toInt.toNat), ⟨_, rfl, ?_⟩, ?_⟩
  · exact ⟨rfl, ⟨by decide, by decide⟩, ⟨hp.1.1, hp.2.1⟩, rfl, Or.inl ⟨rfl, rfl, rfl⟩⟩  -- j1
  rintro n9 x9_4 x9_6 x9_8 _ W9  ⟨hn9, rfl, i9⟩
  obtain ⟨k9, c9, J9⟩ := i9
  refine ⟨fun c1 => ?_, fun c1 => ?_⟩
  · skip
    refine h _ ?_
    · rw [lei, t200] at c1
      refine fin _ _ _ J9 c9.1 (Nat.eq_zero_of_not_pos (fun z => ?_))
      have := gcNn_b J9 z AB
      omega
  · skip
    refine ⟨fun c2 => ?_, fun c2 => ?_⟩
    · skip
      refine h _ ?_
      · have e : x9_6.toInt = 0 := by rw [(lg_cmp_eq _ _).mp c2]; rfl
        exact fin _ _ _ J9 c9.1 (by omega)
    · skip
      have nz : x9_6.toInt ≠ 0 := fun y => c2 ((lg_cmp_eq _ _).mpr (Int64.toInt_inj.mp (y.trans z64.symm)))
      rw [lei, t200] at c1
      refine ⟨?_, ?_⟩
      · exact j_n0 (by omega)  -- b4
      intro x3 hx3
      intro x4 hx4
      refine ⟨_, ?_, rfl, ?_⟩
      · have e : x4.toInt = x9_8.toInt + 1 := by rw [hx4, add_i (by rw [t1i]; omega) (by rw [t1i]; omega), t1i]
        rw [hn9]; omega
      · have e : x4.toInt = x9_8.toInt + 1 := by rw [hx4, add_i (by rw [t1i]; omega) (by rw [t1i]; omega), t1i]
        have m := jmod_i (x := x9_4) (y := x9_6) c9.1 (by omega)
        rw [← hx3] at m
        have s := gcNn_s J9 (by omega)
        have e3 : x3.toInt = ((x9_4.toInt.toNat % x9_6.toInt.toNat : Nat) : Int) := by
          rw [m, Int.natCast_emod]
          congr 1 <;> omega
        have e4 : x3.toInt.toNat = x9_4.toInt.toNat % x9_6.toInt.toNat := by rw [e3]; exact Int.toNat_natCast _
        have e5 : x4.toInt.toNat = x9_8.toInt.toNat + 1 := by omega
        exact ⟨rfl, by omega, ⟨c9.2, by rw [e3]; exact Int.natCast_nonneg _⟩, by rw [e4, e5]; exact s⟩

theorem imod_i {x y : Int32} (h0 : 0 ≤ x.toInt) (hy : 0 < y.toInt) : (x - x / y * y).toInt = x.toInt % y.toInt := by
  have d := div_i h0 hy
  have m : x.toInt / y.toInt * y.toInt ≤ x.toInt := Int.ediv_mul_le _ (by omega)
  have p : 0 ≤ x.toInt / y.toInt * y.toInt := Int.mul_nonneg (Int.ediv_nonneg h0 (by omega)) (by omega)
  have l := ihi x
  have e : (x / y * y).toInt = x.toInt / y.toInt * y.toInt := by rw [mul_i (by rw [d]; omega) (by rw [d]; omega), d]
  rw [sub_i (by rw [e]; omega) (by rw [e]; omega), e, Int.emod_def, Int.mul_comm]
theorem Ch_commonInt_c {C : zC} {n0 : Nat} {a0 : Int32} {a1 : Int32} {κ : zS} {Q : Int32 → zS → Prop} (W : zW C n0 κ)   (hp : 0 ≤ a0.toInt ∧ 0 ≤ a1.toInt) (h : ∀ (v : Int32), (1 ≤ v.toInt ∧ (v.toInt.toNat = Nat.gcd a0.toInt.toNat a1.toInt.toNat ∨ (a0.toInt = 0 ∧ a1.toInt = 0 ∧ v.toInt = 1))) → Q v κ) : zRun C 1 mCh_commonInt [.int a0, .int a1] κ (oI Q noX) := by
  refine Ch_commonInt_run W  ?_
  replace W := W.lo (Nat.le_trans W.1.2.1 W.1.2.2) (Nat.le_refl (zn κ))
  unfold w_Ch_commonInt_0
  have t100 : (100 : Int32).toInt = 100 := rfl
  have AB : a0.toInt.toNat * a1.toInt.toNat < 2 ^ 62 := by
    have h1 := ihi a0
    have h2 := ihi a1
    have := Nat.mul_le_mul (show a0.toInt.toNat ≤ 2147483647 by omega) (show a1.toInt.toNat ≤ 2147483647 by omega)
    omega
  have fin : ∀ (x y : Int32) (n : Nat), gcNn a0.toInt.toNat a1.toInt.toNat x.toInt.toNat y.toInt.toNat n → 0 ≤ x.toInt → y.toInt.toNat = 0 → 1 ≤ (if x < (1 : Int32) then (1 : Int32) else x).toInt ∧ ((if x < (1 : Int32) then (1 : Int32) else x).toInt.toNat = Nat.gcd a0.toInt.toNat a1.toInt.toNat ∨ (a0.toInt = 0 ∧ a1.toInt = 0 ∧ (if x < (1 : Int32) then (1 : Int32) else x).toInt = 1)) := fun x y n h h0 z => by
    have g := h.1
    rw [z, Nat.gcd_zero_right] at g
    by_cases s : x < 1
    · rw [if_pos s]
      rw [lti, t1i] at s
      have xz : x.toInt.toNat = 0 := by omega
      rw [xz] at g
      have q := Nat.gcd_eq_zero_iff.mp g.symm
      exact ⟨by decide, Or.inr ⟨by omega, by omega, rfl⟩⟩
    · rw [if_neg s]
      rw [lti, t1i] at s
      exact ⟨by omega, Or.inl g⟩
  unfold w_Ch_commonInt_7
  refine ⟨fun n l2 l3 l4 τ => n = (100 - l4.toInt).toNat ∧ (κ = τ ∧ (0 ≤ l4.toInt ∧ l4.toInt ≤ 100) ∧ (0 ≤ l2.toInt ∧ 0 ≤ l3.toInt) ∧ gcNn a0.toInt.toNat a1.toInt.toNat l2.toInt.toNat l3.toInt.toNat l4.toInt.toNat), ⟨_, rfl, ?_⟩, ?_⟩
  · exact ⟨rfl, ⟨by decide, by decide⟩, ⟨hp.1, hp.2⟩, rfl, Or.inl ⟨rfl, rfl, rfl⟩⟩  -- j1
  rintro n7 x7_2 x7_3 x7_4 _ W7  ⟨hn7, rfl, i7⟩
  obtain ⟨k9, c9, J9⟩ := i7
  refine ⟨fun c1 => ?_, fun c1 => ?_⟩
  · skip
    refine h _ ?_
    · rw [lei, t100] at c1
      refine fin _ _ _ J9 c9.1 (Nat.eq_zero_of_not_pos (fun z => ?_))
      have := gcNn_b J9 z AB
      omega
  · skip
    refine ⟨fun c2 => ?_, fun c2 => ?_⟩
    · skip
      refine h _ ?_
      · have e : x7_3.toInt = 0 := by rw [c2]; rfl
        exact fin _ _ _ J9 c9.1 (by omega)
    · skip
      have nz : x7_3.toInt ≠ 0 := fun y => c2 (Int32.toInt_inj.mp (y.trans t0i.symm))
      rw [lei, t100] at c1
      refine ⟨?_, ?_⟩
      · exact c2  -- b4
      intro x3 hx3
      intro x4 hx4
      refine ⟨_, ?_, rfl, ?_⟩
      · have e : x4.toInt = x7_4.toInt + 1 := by rw [hx4, add_i (by rw [t1i]; omega) (by rw [t1i]; omega), t1i]
        rw [hn7]; omega
      · have e : x4.toInt = x7_4.toInt + 1 := by rw [hx4, add_i (by rw [t1i]; omega) (by rw [t1i]; omega), t1i]
        have m := imod_i (x := x7_2) (y := x7_3) c9.1 (by omega)
        rw [← hx3] at m
        have s := gcNn_s J9 (by omega)
        have e3 : x3.toInt = ((x7_2.toInt.toNat % x7_3.toInt.toNat : Nat) : Int) := by
          rw [m, Int.natCast_emod]
          congr 1 <;> omega
        have e4 : x3.toInt.toNat = x7_2.toInt.toNat % x7_3.toInt.toNat := by rw [e3]; exact Int.toNat_natCast _
        have e5 : x4.toInt.toNat = x7_4.toInt.toNat + 1 := by omega
        exact ⟨rfl, by omega, ⟨c9.2, by rw [e3]; exact Int.natCast_nonneg _⟩, by rw [e4, e5]; exact s⟩
