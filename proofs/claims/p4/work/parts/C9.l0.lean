set_option maxHeartbeats 1600000
/-! the class: Lehmer's steps -/
theorem mneg_u {f v U : Int} (hf : f ≤ 0) (hv : v ≤ U) : f * U ≤ f * v := Int.mul_le_mul_of_nonpos_left hf hv
theorem mpos_u {f v U : Int} (hf : 0 ≤ f) (hv : v ≤ U) : f * v ≤ f * U := Int.mul_le_mul_of_nonneg_left hv hf
/-- a step by the highest bits is a true one -/
theorem lp_st {h l a b c d q U u v : Int} (h0 : 0 < U) (u0 : 0 ≤ u) (u1 : u ≤ U) (v0 : 0 ≤ v) (v1 : v ≤ U) (q0 : 0 ≤ q) (s1 : 0 ≤ a) (s2 : b ≤ 0) (s3 : c ≤ 0) (s4 : 0 ≤ d) (t2 : h + a < (q + 1) * (l + c)) (t3 : q * (l + d) ≤ h + b) : 0 ≤ (h - q * l) * U + (a - q * c) * u + (b - q * d) * v ∧ (h - q * l) * U + (a - q * c) * u + (b - q * d) * v < l * U + c * u + d * v ∧ 0 ≤ h - q * l := by
  have e1 : q * c ≤ 0 := Int.mul_nonpos_of_nonneg_of_nonpos q0 s3
  have e2 : 0 ≤ q * d := Int.mul_nonneg q0 s4
  have e0 : 0 ≤ a - q * c := by omega
  have f0 : b - q * d ≤ 0 := by omega
  have m1 : 0 ≤ (a - q * c) * u := Int.mul_nonneg e0 u0
  have m2 := mneg_u f0 v1
  have x3 : q * (l + d) = q * l + q * d := Int.mul_add ..
  have x2 : (q + 1) * (l + c) = q * l + q * c + (l + c) := by rw [Int.add_mul, Int.mul_add, Int.one_mul]
  have m3 : 0 ≤ (h - q * l + (b - q * d)) * U := Int.mul_nonneg (by omega) (by omega)
  rw [Int.add_mul] at m3
  have m4 : 0 < (l + c - (h - q * l + (a - q * c))) * U := Int.mul_pos (by omega) h0
  have m5 : (l + c - (h - q * l + (a - q * c))) * U = l * U + c * U - ((h - q * l) * U + (a - q * c) * U) := by rw [Int.sub_mul, Int.add_mul, Int.add_mul]
  have m6 := mpos_u e0 u1
  have m7 := mneg_u s3 u1
  have m8 : 0 ≤ d * v := Int.mul_nonneg s4 v0
  have m9 : (b - q * d) * v ≤ 0 := Int.mul_nonpos_of_nonpos_of_nonneg f0 v0
  have ma : 0 ≤ (a - q * c) * U - (a - q * c) * u + (c * u - c * U) := by omega
  have mb : (c - (a - q * c)) * U ≤ (c - (a - q * c)) * u := mneg_u (by omega) u1
  rw [Int.sub_mul, Int.sub_mul] at mb
  refine ⟨by omega, by omega, by omega⟩
theorem lp_lt {h l a b c d U u v : Int} (h0 : 0 < U) (u1 : u ≤ U) (v0 : 0 ≤ v) (s1 : 0 ≤ a) (s2 : b ≤ 0) (s3 : c ≤ 0) (s4 : 0 ≤ d) (t : h + a < l + c) : h * U + a * u + b * v < l * U + c * u + d * v := by
  have m1 := mpos_u (f := a - c) (by omega) u1
  rw [Int.sub_mul, Int.sub_mul] at m1
  have m2 : (b - d) * v ≤ 0 := Int.mul_nonpos_of_nonpos_of_nonneg (by omega) v0
  rw [Int.sub_mul] at m2
  have m3 : 0 < (l + c - (h + a)) * U := Int.mul_pos (by omega) h0
  rw [Int.sub_mul, Int.add_mul, Int.add_mul] at m3
  omega
theorem td_c {n m q : Int} (hm : 0 < m) (hq : q = n.tdiv m) : (0 ≤ n → 0 ≤ q ∧ q * m ≤ n ∧ n < (q + 1) * m) ∧ (n < 0 → q ≤ 0) := by
  refine ⟨fun h => ?_, fun h => ?_⟩
  · rw [Int.tdiv_eq_ediv_of_nonneg h] at hq
    refine ⟨by rw [hq]; exact Int.ediv_nonneg h (by omega), by rw [hq]; exact Int.ediv_mul_le _ (by omega), ?_⟩
    rw [hq]
    exact Int.lt_ediv_add_one_mul_self _ hm
  · have e : n = -(-n) := by omega
    rw [e, Int.neg_tdiv, Int.tdiv_eq_ediv_of_nonneg (by omega)] at hq
    have := Int.ediv_nonneg (a := -n) (b := m) (by omega) (by omega)
    omega
/-- one of the two patterns of signs: the quotient of the highest bits is the true one -/
theorem lp_q {h l a b c d q U u v : Int} (h0 : 0 < U) (u0 : 0 ≤ u) (u1 : u ≤ U) (v0 : 0 ≤ v) (v1 : v ≤ U) (hh : 0 ≤ h) (s1 : 0 ≤ a) (s2 : b ≤ 0) (s3 : c ≤ 0) (s4 : 0 ≤ d) (k1 : 0 < l + c) (k2 : 0 < l + d) (q1 : q = (h + a).tdiv (l + c)) (q2 : q = (h + b).tdiv (l + d)) (ord : l * U + c * u + d * v ≤ h * U + a * u + b * v) : 1 ≤ q ∧ (0 ≤ (h - q * l) * U + (a - q * c) * u + (b - q * d) * v ∧ (h - q * l) * U + (a - q * c) * u + (b - q * d) * v < l * U + c * u + d * v ∧ 0 ≤ h - q * l) ∧ q * l ≤ h + a := by
  have t1 := (td_c k1 q1).1 (by omega)
  have t2 := td_c k2 q2
  have q3 : 1 ≤ q := by
    refine Int.not_lt.mp (fun z => ?_)
    have qz : q = 0 := by omega
    rw [qz] at t1
    have x := lp_lt h0 u1 v0 s1 s2 s3 s4 (h := h) (l := l) (u := u) (by omega)
    omega
  have hb : 0 ≤ h + b := Int.not_lt.mp (fun z => by
    have := t2.2 z
    omega)
  have t3 := t2.1 hb
  have st := lp_st (a := a) (b := b) h0 u0 u1 v0 v1 (by omega) s1 s2 s3 s4 t1.2.2 t3.2.1
  refine ⟨q3, st, ?_⟩
  have := st.2.2
  omega
def lpS (a b c d : Int) : Prop := (0 ≤ a ∧ b ≤ 0 ∧ c ≤ 0 ∧ 0 ≤ d) ∨ (a ≤ 0 ∧ 0 ≤ b ∧ 0 ≤ c ∧ d ≤ 0)
def lpB (a b c d : Int) : Prop := (-2147483647 ≤ a ∧ a ≤ 2147483647) ∧ (-2147483647 ≤ b ∧ b ≤ 2147483647) ∧ (-2147483647 ≤ c ∧ c ≤ 2147483647) ∧ (-2147483647 ≤ d ∧ d ≤ 2147483647)
/-- what some steps of Euclid's make of two numbers -/
def lpV (X Y : Nat) (a b c d : Int) : Prop := ∃ x y : Nat, (x : Int) = a * X + b * Y ∧ (y : Int) = c * X + d * Y ∧ y ≤ x ∧ Nat.gcd x y = Nat.gcd X Y ∧ x ≤ X ∧ ((b = 0 ∧ a = 1 ∧ c = 0 ∧ d = 1) ∨ 2 * (x * y) ≤ X * Y)
theorem lpV_0 {X Y : Nat} (h : Y ≤ X) : lpV X Y 1 0 0 1 := ⟨X, Y, by omega, by omega, h, rfl, Nat.le_refl _, Or.inl ⟨rfl, rfl, rfl, rfl⟩⟩
theorem eu_s {x y r q : Nat} (h : x = q * y + r) (hr : r < y) (hq : 1 ≤ q) : Nat.gcd y r = Nat.gcd x y ∧ 2 * (y * r) ≤ x * y ∧ y ≤ x := by
  have m : y ≤ q * y := Nat.le_mul_of_pos_left y hq
  have e : x % y = r := by rw [h, Nat.add_comm, Nat.add_mul_mod_self_right, Nat.mod_eq_of_lt hr]
  refine ⟨?_, ?_, by omega⟩
  · rw [Nat.gcd_comm x y, Nat.gcd_rec y x, e, Nat.gcd_comm]
  · have := Nat.mul_le_mul_left y (show 2 * r ≤ x by omega)
    rw [Nat.mul_comm x y, ← Nat.mul_assoc, Nat.mul_comm 2 y, Nat.mul_assoc]
    exact this
theorem lpV_s {X Y : Nat} {a b c d q e f : Int} (h : lpV X Y a b c d) (hq : 1 ≤ q) (he : e = a - q * c) (hf : f = b - q * d) (r0 : 0 ≤ e * X + f * Y) (r1 : e * X + f * Y < c * X + d * Y) : lpV X Y c d e f := by
  obtain ⟨x, y, hx, hy, h1, h2, h3, h4⟩ := h
  have er : e * X + f * Y = (x : Int) - q * y := by
    rw [he, hf, hx, hy]
    simp only [Int.sub_mul, Int.mul_add, Int.mul_assoc]
    omega
  obtain ⟨r, hr⟩ := Int.eq_ofNat_of_zero_le r0
  obtain ⟨p, hp⟩ := Int.eq_ofNat_of_zero_le (show 0 ≤ q by omega)
  have ex : x = p * y + r := by
    have : (x : Int) = ((p * y + r : Nat) : Int) := by
      rw [Int.natCast_add, Int.natCast_mul, ← hp, ← hr, er]
      omega
    exact Int.ofNat.inj this
  have st := eu_s ex (by omega) (by omega)
  refine ⟨y, r, hy, hr.symm ▸ rfl, by omega, by rw [st.1, h2], by omega, Or.inr ?_⟩
  rcases h4 with ⟨z1, z2, z3, z4⟩ | z
  · have ax : x = X := by rw [z1, z2] at hx; omega
    have ay : y = Y := by rw [z3, z4] at hy; omega
    rw [← ax, ← ay]
    exact st.2.1
  · omega
/-- the loop of a leap -/
def lpI (X Y H L : Nat) (h l a b c d : Int) : Prop := lpS a b c d ∧ lpB a b c d ∧ lpV X Y a b c d ∧ (h = a * H + b * L ∧ l = c * H + d * L) ∧ (0 ≤ h ∧ h < 4611686018427387904) ∧ 0 ≤ l ∧ l < 4611686018427387904
theorem lp_e {X H u U a h b L v Y : Int} (hX : X = H * U + u) (hY : Y = L * U + v) (hh : h = a * H + b * L) : a * X + b * Y = h * U + a * u + b * v := by
  rw [hX, hY, hh]
  simp only [Int.mul_add, Int.add_mul, Int.mul_assoc]
  omega
theorem lpI_s {X Y H L U u v : Nat} {h l a b c d q e f : Int} (hI : lpI X Y H L h l a b c d) (hX : X = H * U + u) (hY : Y = L * U + v) (hu : u < U) (hv : v < U) (k1 : 0 < l + c) (k2 : 0 < l + d) (q1 : q = (h + a).tdiv (l + c)) (q2 : q = (h + b).tdiv (l + d)) (he : e = a - q * c) (hf : f = b - q * d) : 1 ≤ q ∧ 0 ≤ q * l ∧ q * l ≤ h ∧ (lpB c d e f → lpI X Y H L l (h - q * l) c d e f) := by
  obtain ⟨S, B, V, ⟨g1, g2⟩, g3, g4⟩ := hI
  have cX : (X : Int) = (H : Int) * U + u := by rw [hX, Int.natCast_add, Int.natCast_mul]
  have cY : (Y : Int) = (L : Int) * U + v := by rw [hY, Int.natCast_add, Int.natCast_mul]
  have ex := lp_e cX cY g1
  have ey := lp_e cX cY g2
  have ord : c * (X : Int) + d * Y ≤ a * X + b * Y := by
    obtain ⟨x, y, hx, hy, h1, _⟩ := V
    omega
  have g5 : h - q * l = e * H + f * L := by
    rw [g1, g2, he, hf]
    simp only [Int.sub_mul, Int.mul_add, Int.mul_assoc]
    omega
  have er := lp_e cX cY g5
  rw [ex, ey] at ord
  have key : 1 ≤ q ∧ (0 ≤ e * (X : Int) + f * Y ∧ e * (X : Int) + f * Y < c * X + d * Y) ∧ 0 ≤ h - q * l := by
    rw [er, ey, he, hf]
    rcases S with ⟨s1, s2, s3, s4⟩ | ⟨s1, s2, s3, s4⟩
    · have r := lp_q (U := (U : Int)) (u := (u : Int)) (v := (v : Int)) (by omega) (by omega) (by omega) (by omega) (by omega) g3.1 s1 s2 s3 s4 k1 k2 q1 q2 (by omega)
      exact ⟨r.1, ⟨r.2.1.1, r.2.1.2.1⟩, r.2.1.2.2⟩
    · have r := lp_q (U := (U : Int)) (u := (v : Int)) (v := (u : Int)) (by omega) (by omega) (by omega) (by omega) (by omega) g3.1 s2 s1 s4 s3 k2 k1 q2 q1 (by omega)
      refine ⟨r.1, ⟨?_, ?_⟩, r.2.1.2.2⟩
      · have := r.2.1.1
        omega
      · have := r.2.1.2.1
        omega
  obtain ⟨j1, ⟨j2, j3⟩, j4⟩ := key
  have ql : 0 ≤ q * l := Int.mul_nonneg (by omega) g4.1
  refine ⟨j1, ql, by omega, fun B' => ⟨?_, B', lpV_s V j1 he hf j2 j3, ⟨g2, g5⟩, g4, by omega, by omega⟩⟩
  rcases S with ⟨s1, s2, s3, s4⟩ | ⟨s1, s2, s3, s4⟩
  · right
    have e1 : q * c ≤ 0 := Int.mul_nonpos_of_nonneg_of_nonpos (by omega) s3
    have e2 : 0 ≤ q * d := Int.mul_nonneg (by omega) s4
    exact ⟨s3, s4, by omega, by omega⟩
  · left
    have e1 : 0 ≤ q * c := Int.mul_nonneg (by omega) s3
    have e2 : q * d ≤ 0 := Int.mul_nonpos_of_nonneg_of_nonpos (by omega) s4
    exact ⟨s3, s4, by omega, by omega⟩
