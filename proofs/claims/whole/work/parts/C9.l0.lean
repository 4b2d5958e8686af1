section
set_option maxHeartbeats 1600000
/-! the class: Lehmer's steps -/
theorem mneg_u {f v U : Int} (hf : f ≤ 0) (hv : v ≤ U) : f * U ≤ f * v := Int.mul_le_mul_of_nonpos_left hf hv
theorem mpos_u {f v U : Int} (hf : 0 ≤ f) (hv : v ≤ U) : f * v ≤ f * U := Int.mul_le_mul_of_nonneg_left hv hf
/-- a step by the highest bits is a true one -/
theorem lp_st {h l a b c d q U u v : Int} (h0 : 0 < U) (u0 : 0 ≤ u) (u1 : u ≤ U) (v0 : 0 ≤ v) (v1 : v ≤ U) (q0 : 0 ≤ q) (s1 : 0 ≤ a) (s2 : b ≤ 0) (s3 : c ≤ 0) (s4 : 0 ≤ d) (t2 : h + a < (q + 1) * (l + c)) (t3 : q * (l + d) ≤ h + b) : 0 ≤ (h - q * l) * U + (a - q * c) * u + (b - q * d) * v ∧ (h - q * l) * U + (a - q * c) * u + (b - q * d) * v < l * U + c * u + d * v ∧ 0 ≤ h - q * l := by
  have e1 : q * c ≤ 0 := Int.mul_nonpos_of_nonneg_of_nonpos q0 s3
  have e2 : 0 ≤ q * d := Int.mul_nonneg q0 s4
  have e0 : 0 ≤ a - q * c := by omega
  have f0 : b - q * d ≤ 0 := by omega
  have m1 : 0 ≤ (a - q * c) * u := Int.mul_nonneg e0 u0
  have m2 := mneg_u f0 v1
  have x3 : q * (l + d) = q * l + q * d := Int.mul_add ..
  have x2 : (q + 1) * (l + c) = q * l + q * c + (l + c) := by rw [Int.add_mul, Int.mul_add, Int.one_mul]
  have m3 : 0 ≤ (h - q * l + (b - q * d)) * U := Int.mul_nonneg (by omega) (by omega)
  rw [Int.add_mul] at m3
  have m4 : 0 < (l + c - (h - q * l + (a - q * c))) * U := Int.mul_pos (by omega) h0
  have m5 : (l + c - (h - q * l + (a - q * c))) * U = l * U + c * U - ((h - q * l) * U + (a - q * c) * U) := by rw [Int.sub_mul, Int.add_mul, Int.add_mul]
  have m6 := mpos_u e0 u1
  have m7 := mneg_u s3 u1
  have m8 : 0 ≤ d * v := Int.mul_nonneg s4 v0
  have m9 : (b - q * d) * v ≤ 0 := Int.mul_nonpos_of_nonpos_of_nonneg f0 v0
  have ma : 0 ≤ (a - q * c) * U - (a - q * c) * u + (c * u - c * U) := by omega
  have mb : (c - (a - q * c)) * U ≤ (c - (a - q * c)) * u := mneg_u (by omega) u1
  rw [Int.sub_mul, Int.sub_mul] at mb
  refine ⟨by omega, by omega, by omega⟩
theorem lp_lt {h l a b c d U u v : Int} (h0 : 0 < U) (u1 : u ≤ U) (v0 : 0 ≤ v) (s1 : 0 ≤ a) (s2 : b ≤ 0) (s3 : c ≤ 0) (s4 : 0 ≤ d) (t : h + a < l + c) : h * U + a * u + b * v < l * U + c * u + d * v := by
  have m1 := mpos_u (f := a - c) (by omega) u1
  rw [Int.sub_mul, Int.sub_mul] at m1
  have m2 : (b - d) * v ≤ 0 := Int.mul_nonpos_of_nonpos_of_nonneg (by omega) v0
  rw [Int.sub_mul] at m2
  have m3 : 0 < (l + c - (h + a)) * U := Int.mul_pos (by omega) h0
  rw [Int.sub_mul, Int.add_mul, Int.add_mul] at m3
  omega
theorem td_c {n m q : Int} (hm : 0 < m) (hq : q = n.tdiv m) : (0 ≤ n → 0 ≤ q ∧ q * m ≤ n ∧ n < (q + 1) * m) ∧ (n < 0 → q ≤ 0) := by
  refine ⟨fun h => ?_, fun h => ?_⟩
  · rw [Int.tdiv_eq_ediv_of_nonneg h] at hq
    refine ⟨by rw [hq]; exact Int.ediv_nonneg h (by omega), by rw [hq]; exact Int.ediv_mul_le _ (by omega), ?_⟩
    rw [hq]
    exact Int.lt_ediv_add_one_mul_self _ hm
  · have e : n = -(-n) := by omega
    rw [e, Int.neg_tdiv, Int.tdiv_eq_ediv_of_nonneg (by omega)] at hq
    have := Int.ediv_nonneg (a := -n) (b := m) (by omega) (by omega)
    omega
/-- one of the two patterns of signs: the quotient of the highest bits is the true one -/
theorem lp_q {h l a b c d q U u v : Int} (h0 : 0 < U) (u0 : 0 ≤ u) (u1 : u ≤ U) (v0 : 0 ≤ v) (v1 : v ≤ U) (hh : 0 ≤ h) (s1 : 0 ≤ a) (s2 : b ≤ 0) (s3 : c ≤ 0) (s4 : 0 ≤ d) (k1 : 0 < l + c) (k2 : 0 < l + d) (q1 : q = (h + a).tdiv (l + c)) (q2 : q = (h + b).tdiv (l + d)) (ord : l * U + c * u + d * v ≤ h * U + a * u + b * v) : 1 ≤ q ∧ (0 ≤ (h - q * l) * U + (a - q * c) * u + (b - q * d) * v ∧ (h - q * l) * U + (a - q * c) * u + (b - q * d) * v < l * U + c * u + d * v ∧ 0 ≤ h - q * l) ∧ q * l ≤ h + a := by
  have t1 := (td_c k1 q1).1 (by omega)
  have t2 := td_c k2 q2
  have q3 : 1 ≤ q := by
    refine Int.not_lt.mp (fun z => ?_)
    have qz : q = 0 := by omega
    rw [qz] at t1
    have x := lp_lt h0 u1 v0 s1 s2 s3 s4 (h := h) (l := l) (u := u) (by omega)
    omega
  have hb : 0 ≤ h + b := Int.not_lt.mp (fun z => by
    have := t2.2 z
    omega)
  have t3 := t2.1 hb
  have st := lp_st (a := a) (b := b) h0 u0 u1 v0 v1 (by omega) s1 s2 s3 s4 t1.2.2 t3.2.1
  refine ⟨q3, st, ?_⟩
  have := st.2.2
  omega
def lpS (a b c d : Int) : Prop := (0 ≤ a ∧ b ≤ 0 ∧ c ≤ 0 ∧ 0 ≤ d) ∨ (a ≤ 0 ∧ 0 ≤ b ∧ 0 ≤ c ∧ d ≤ 0)
def lpB (a b c d : Int) : Prop := (-2147483647 ≤ a ∧ a ≤ 2147483647) ∧ (-2147483647 ≤ b ∧ b ≤ 2147483647) ∧ (-2147483647 ≤ c ∧ c ≤ 2147483647) ∧ (-2147483647 ≤ d ∧ d ≤ 2147483647)
/-- what some steps of Euclid's make of two numbers -/
def lpV (X Y : Nat) (a b c d : Int) : Prop := ∃ x y : Nat, (x : Int) = a * X + b * Y ∧ (y : Int) = c * X + d * Y ∧ y ≤ x ∧ Nat.gcd x y = Nat.gcd X Y ∧ x ≤ X ∧ ((b = 0 ∧ a = 1 ∧ c = 0 ∧ d = 1) ∨ 2 * (x * y) ≤ X * Y)
theorem lpV_0 {X Y : Nat} (h : Y ≤ X) : lpV X Y 1 0 0 1 := ⟨X, Y, by omega, by omega, h, rfl, Nat.le_refl _, Or.inl ⟨rfl, rfl, rfl, rfl⟩⟩
theorem eu_s {x y r q : Nat} (h : x = q * y + r) (hr : r < y) (hq : 1 ≤ q) : Nat.gcd y r = Nat.gcd x y ∧ 2 * (y * r) ≤ x * y ∧ y ≤ x := by
  have m : y ≤ q * y := Nat.le_mul_of_pos_left y hq
  have e : x % y = r := by rw [h, Nat.add_comm, Nat.add_mul_mod_self_right, Nat.mod_eq_of_lt hr]
  refine ⟨?_, ?_, by omega⟩
  · rw [Nat.gcd_comm x y, Nat.gcd_rec y x, e, Nat.gcd_comm]
  · have := Nat.mul_le_mul_left y (show 2 * r ≤ x by omega)
    rw [Nat.mul_comm x y, ← Nat.mul_assoc, Nat.mul_comm 2 y, Nat.mul_assoc]
    exact this
theorem lpV_s {X Y : Nat} {a b c d q e f : Int} (h : lpV X Y a b c d) (hq : 1 ≤ q) (he : e = a - q * c) (hf : f = b - q * d) (r0 : 0 ≤ e * X + f * Y) (r1 : e * X + f * Y < c * X + d * Y) : lpV X Y c d e f := by
  obtain ⟨x, y, hx, hy, h1, h2, h3, h4⟩ := h
  have er : e * X + f * Y = (x : Int) - q * y := by
    rw [he, hf, hx, hy]
    simp only [Int.sub_mul, Int.mul_add, Int.mul_assoc]
    omega
  obtain ⟨r, hr⟩ := Int.eq_ofNat_of_zero_le r0
  obtain ⟨p, hp⟩ := Int.eq_ofNat_of_zero_le (show 0 ≤ q by omega)
  have ex : x = p * y + r := by
    have : (x : Int) = ((p * y + r : Nat) : Int) := by
      rw [Int.natCast_add, Int.natCast_mul, ← hp, ← hr, er]
      omega
    exact Int.ofNat.inj this
  have st := eu_s ex (by omega) (by omega)
  refine ⟨y, r, hy, hr.symm ▸ rfl, by omega, by rw [st.1, h2], by omega, Or.inr ?_⟩
  rcases h4 with ⟨z1, z2, z3, z4⟩ | z
  · have ax : x = X := by rw [z1, z2] at hx; omega
    have ay : y = Y := by rw [z3, z4] at hy; omega
    rw [← ax, ← ay]
    exact st.2.1
  · omega
/-- the loop of a leap -/
def lpI (X Y H L : Nat) (h l a b c d : Int) : Prop := lpS a b c d ∧ lpB a b c d ∧ lpV X Y a b c d ∧ (h = a * H + b * L ∧ l = c * H + d * L) ∧ (0 ≤ h ∧ h < 4611686018427387904) ∧ 0 ≤ l ∧ l < 4611686018427387904
theorem lp_e {X H u U a h b L v Y : Int} (hX : X = H * U + u) (hY : Y = L * U + v) (hh : h = a * H + b * L) : a * X + b * Y = h * U + a * u + b * v := by
  rw [hX, hY, hh]
  simp only [Int.mul_add, Int.add_mul, Int.mul_assoc]
  omega
theorem lpI_s {X Y H L U u v : Nat} {h l a b c d q e f : Int} (hI : lpI X Y H L h l a b c d) (hX : X = H * U + u) (hY : Y = L * U + v) (hu : u < U) (hv : v < U) (k1 : 0 < l + c) (k2 : 0 < l + d) (q1 : q = (h + a).tdiv (l + c)) (q2 : q = (h + b).tdiv (l + d)) (he : e = a - q * c) (hf : f = b - q * d) : 1 ≤ q ∧ 0 ≤ q * l ∧ q * l ≤ h ∧ (lpB c d e f → lpI X Y H L l (h - q * l) c d e f) := by
  obtain ⟨S, B, V, ⟨g1, g2⟩, g3, g4⟩ := hI
  have cX : (X : Int) = (H : Int) * U + u := by rw [hX, Int.natCast_add, Int.natCast_mul]
  have cY : (Y : Int) = (L : Int) * U + v := by rw [hY, Int.natCast_add, Int.natCast_mul]
  have ex := lp_e cX cY g1
  have ey := lp_e cX cY g2
  have ord : c * (X : Int) + d * Y ≤ a * X + b * Y := by
    obtain ⟨x, y, hx, hy, h1, _⟩ := V
    omega
  have g5 : h - q * l = e * H + f * L := by
    rw [g1, g2, he, hf]
    simp only [Int.sub_mul, Int.mul_add, Int.mul_assoc]
    omega
  have er := lp_e cX cY g5
  rw [ex, ey] at ord
  have key : 1 ≤ q ∧ (0 ≤ e * (X : Int) + f * Y ∧ e * (X : Int) + f * Y < c * X + d * Y) ∧ 0 ≤ h - q * l := by
    rw [er, ey, he, hf]
    rcases S with ⟨s1, s2, s3, s4⟩ | ⟨s1, s2, s3, s4⟩
    · have r := lp_q (U := (U : Int)) (u := (u : Int)) (v := (v : Int)) (by omega) (by omega) (by omega) (by omega) (by omega) g3.1 s1 s2 s3 s4 k1 k2 q1 q2 (by omega)
      exact ⟨r.1, ⟨r.2.1.1, r.2.1.2.1⟩, r.2.1.2.2⟩
    · have r := lp_q (U := (U : Int)) (u := (v : Int)) (v := (u : Int)) (by omega) (by omega) (by omega) (by omega) (by omega) g3.1 s2 s1 s4 s3 k2 k1 q2 q1 (by omega)
      refine ⟨r.1, ⟨?_, ?_⟩, r.2.1.2.2⟩
      · have := r.2.1.1
        omega
      · have := r.2.1.2.1
        omega
  obtain ⟨j1, ⟨j2, j3⟩, j4⟩ := key
  have ql : 0 ≤ q * l := Int.mul_nonneg (by omega) g4.1
  refine ⟨j1, ql, by omega, fun B' => ⟨?_, B', lpV_s V j1 he hf j2 j3, ⟨g2, g5⟩, g4, by omega, by omega⟩⟩
  rcases S with ⟨s1, s2, s3, s4⟩ | ⟨s1, s2, s3, s4⟩
  · right
    have e1 : q * c ≤ 0 := Int.mul_nonpos_of_nonneg_of_nonpos (by omega) s3
    have e2 : 0 ≤ q * d := Int.mul_nonneg (by omega) s4
    exact ⟨s3, s4, by omega, by omega⟩
  · left
    have e1 : 0 ≤ q * c := Int.mul_nonneg (by omega) s3
    have e2 : q * d ≤ 0 := Int.mul_nonpos_of_nonneg_of_nonpos (by omega) s4
    exact ⟨s3, s4, by omega, by omega⟩

end
section
set_option maxHeartbeats 1600000
/-! the class: Calc's leap -/
theorem jtd_i {x y : Int64} (hy : 0 < y.toInt) : (x / y).toInt = x.toInt.tdiv y.toInt := by
  have l1 := Int64.toInt_lt x
  have l2 := Int64.le_toInt x
  rw [Int64.toInt_div]
  by_cases z : 0 ≤ x.toInt
  · have a1 : x.toInt / y.toInt ≤ x.toInt := Int.ediv_le_self _ z
    have a2 : 0 ≤ x.toInt / y.toInt := Int.ediv_nonneg z (by omega)
    rw [Int.tdiv_eq_ediv_of_nonneg z]
    exact Int.bmod_eq_of_le (by omega) (by omega)
  · have a1 : -x.toInt / y.toInt ≤ -x.toInt := Int.ediv_le_self _ (by omega)
    have a2 : 0 ≤ -x.toInt / y.toInt := Int.ediv_nonneg (by omega) (by omega)
    have e : x.toInt = -(-x.toInt) := by omega
    have e2 : x.toInt.tdiv y.toInt = -(-x.toInt / y.toInt) := by
      conv => lhs; rw [e]
      rw [Int.neg_tdiv, Int.tdiv_eq_ediv_of_nonneg (by omega)]
    rw [e2]
    exact Int.bmod_eq_of_le (by omega) (by omega)
theorem uj_4 {κ κ1 κ3 κ5 κ7 : zS} {F : Nat} {a b c d : Int64} (e1 : κ1 = uj κ F 0 a) (e3 : κ3 = uj κ1 F 1 b) (e5 : κ5 = uj κ3 F 2 c) (e7 : κ7 = uj κ5 F 3 d) : (zJ κ7 F 0 = a ∧ zJ κ7 F 1 = b ∧ zJ κ7 F 2 = c ∧ zJ κ7 F 3 = d) ∧ zR κ7 = zR κ ∧ zI κ7 = zI κ ∧ zN κ7 = zN κ ∧ zA κ7 = zA κ := by
  have u : ∀ (κ : zS) (i : Nat) (x : Int64), zJ (uj κ F i x) F = vp_updL (zJ κ F) i x := fun _ _ _ => if_pos rfl
  refine ⟨?_, by rw [e7, e5, e3, e1]; rfl, by rw [e7, e5, e3, e1]; rfl, by rw [e7, e5, e3, e1]; rfl, by rw [e7, e5, e3, e1]; rfl⟩
  rw [e7, u, e5, u, e3, u, e1, u]
  exact ⟨rfl, rfl, rfl, rfl⟩
/-- the factors that a leap leaves -/
def lpO (κ : zS) (F X Y : Nat) : Prop := lpS (zJ κ F 0).toInt (zJ κ F 1).toInt (zJ κ F 2).toInt (zJ κ F 3).toInt ∧ lpB (zJ κ F 0).toInt (zJ κ F 1).toInt (zJ κ F 2).toInt (zJ κ F 3).toInt ∧ lpV X Y (zJ κ F 0).toInt (zJ κ F 1).toInt (zJ κ F 2).toInt (zJ κ F 3).toInt ∧ (zJ κ F 1).toInt ≠ 0
theorem Ca_leap_c {C : zC} {n0 : Nat} {a0 : Nat} {κ : zS} {Q : Int32 → zS → Prop} (W : zW C n0 κ) (Ta0 : zT κ a0 = 4)  (hp : (nuI κ (zR κ caX a0) 30000000 ∧ nuI κ (zR κ caY a0) 30000000) ∧ nuN κ (zR κ caY a0) ≤ nuN κ (zR κ caX a0) ∧ 4 ≤ (zN κ (zR κ caFactors a0))) (h : ∀ (v : Int32) (κ' : zS), (zF (oneF caFactors a0) κ κ' ∧ (zR κ' = zR κ ∧ zI κ' = zI κ ∧ zN κ' = zN κ ∧ zA κ' = zA κ) ∧ (v ≠ 0 → lpO κ' (zR κ caFactors a0) (nuN κ (zR κ caX a0)) (nuN κ (zR κ caY a0)))) → Q v κ') : zRun C 1 mCa_leap [.ref a0] κ (oI Q noX) := by
  refine Ca_leap_run W Ta0 ?_
  replace W := W.lo (Nat.le_trans W.1.2.1 W.1.2.2) (Nat.le_refl (zn κ))
  unfold w_Ca_leap_0
  obtain ⟨⟨IX, IY⟩, p1, p2⟩ := hp
  have z64 : (0 : Int64).toInt = 0 := rfl
  have m64 : (2147483647 : Int64).toInt = 2147483647 := rfl
  have n64 : (-2147483647 : Int64).toInt = -2147483647 := rfl
  have hj213 : ∀ (l0 : Nat) (l6 : Int64) (l8 : Int64) (l10 : Int64) (l12 : Int64) (τ : zS), zW C (zn κ) τ → zT τ l0 = 4 → (κ = τ ∧ a0 = l0 ∧ lpS l6.toInt l8.toInt l10.toInt l12.toInt ∧ lpB l6.toInt l8.toInt l10.toInt l12.toInt ∧ lpV (nuN κ (zR κ caX a0)) (nuN κ (zR κ caY a0)) l6.toInt l8.toInt l10.toInt l12.toInt) → w_Ca_leap_213 C (zn κ) Q  l0 l6 l8 l10 l12 τ := by
    rintro _ y213_6 y213_8 y213_10 y213_12 _ W213 T213_0 ⟨rfl, rfl, j213⟩
    unfold w_Ca_leap_213
    refine ⟨?_, ?_⟩
    · rw [inb_iff, t0i]; omega  -- b1
    intro κ_1 hκ_1
    intro W2
    have R1 : zR κ_1 = zR κ := by rw [hκ_1]; rfl
    have N1 : zN κ_1 = zN κ := by rw [hκ_1]; rfl
    have E1 : κ_1 = uj κ (zR κ caFactors a0) 0 y213_6 := hκ_1
    refine ⟨?_, ?_⟩
    · rw [R1, N1, inb_iff, t1i]; omega  -- b2
    intro κ_3 hκ_3
    intro W4
    have R3 : zR κ_3 = zR κ := by rw [hκ_3]; exact R1
    have N3 : zN κ_3 = zN κ := by rw [hκ_3]; exact N1
    rw [R1] at hκ_3
    have E3 : κ_3 = uj κ_1 (zR κ caFactors a0) 1 y213_8 := hκ_3
    refine ⟨?_, ?_⟩
    · have t2 : (2 : Int32).toInt = 2 := rfl
      rw [R3, N3, inb_iff, t2]; omega
    intro κ_5 hκ_5
    intro W6
    have R5 : zR κ_5 = zR κ := by rw [hκ_5]; exact R3
    have N5 : zN κ_5 = zN κ := by rw [hκ_5]; exact N3
    rw [R3] at hκ_5
    have E5 : κ_5 = uj κ_3 (zR κ caFactors a0) 2 y213_10 := hκ_5
    refine ⟨?_, ?_⟩
    · have t3 : (3 : Int32).toInt = 3 := rfl
      rw [R5, N5, inb_iff, t3]; omega
    intro κ_7 hκ_7
    intro W8
    rw [R5] at hκ_7
    have E7 : κ_7 = uj κ_5 (zR κ caFactors a0) 3 y213_12 := hκ_7
    have u := uj_4 E1 E3 E5 E7
    have ow := W.o (show zr caFactors = some 22 by decide +kernel) (by decide) Ta0
    have o1 : zO κ_1 = zO κ := by rw [E1]; rfl
    have o3' : zO κ_3 = zO κ := by rw [E3]; exact o1
    have o5 : zO κ_5 = zO κ := by rw [E5]; exact o3'
    have Z1 : zF (oneF caFactors a0) κ κ_1 := by rw [E1]; exact zF_uj (by rw [ow]; exact ⟨rfl, rfl⟩)
    have Z3 : zF (oneF caFactors a0) κ_1 κ_3 := by rw [E3]; exact zF_uj (by rw [o1, ow]; exact ⟨rfl, rfl⟩)
    have Z5 : zF (oneF caFactors a0) κ_3 κ_5 := by rw [E5]; exact zF_uj (by rw [o3', ow]; exact ⟨rfl, rfl⟩)
    have Z7 : zF (oneF caFactors a0) κ_5 κ_7 := by rw [E7]; exact zF_uj (by rw [o5, ow]; exact ⟨rfl, rfl⟩)
    have Z := ((Z1.tr Z3).tr Z5).tr Z7
    refine ⟨fun c9 => ?_, fun c9 => ?_⟩
    · skip
      refine h _ _ ?_
      · exact ⟨Z, u.2, fun y => absurd rfl y⟩  -- q5
    · skip
      refine h _ _ ?_
      · refine ⟨Z, u.2, fun _ => ?_⟩
        unfold lpO
        rw [u.1.1, u.1.2.1, u.1.2.2.1, u.1.2.2.2]
        refine ⟨j213.1, j213.2.1, j213.2.2, fun y => ?_⟩
        have c9' : ¬ lg_cmp y213_8 (0 : Int64) = 0 := by assumption
        exact c9' ((lg_cmp_eq _ _).mpr (Int64.toInt_inj.mp (y.trans z64.symm)))
  intro T10
  refine Nu_bits_c W T10 30000000 ?_ (fun r11 q13 => ?_)
  · exact ⟨IX, Nat.le_refl _⟩  -- p7
  intro W14
  intro M15
  intro x16 hx16
  intro T17
  have t62 : (62 : Int32).toInt = 62 := rfl
  have kX := nuK_i IX.1
  have lX := IX.1.1
  have cX := IX.1.2.1
  have q13a := q13.1
  have d62 : (r11 - 62).toInt = r11.toInt - 62 := by rw [sub_i (by rw [t62]; omega) (by rw [t62]; omega), t62]
  have e16 : (0 ≤ x16.toInt ∧ x16.toInt ≤ 1000000000) ∧ r11.toInt ≤ x16.toInt + 62 := by
    rw [hx16]
    by_cases z : r11 - 62 < (0 : Int32)
    · rw [if_pos z]
      rw [lti, t0i, d62] at z
      rw [t0i]
      omega
    · rw [if_neg z]
      rw [lti, t0i, d62] at z
      omega
  have lt16 : nuN κ (zR κ caX a0) < 2 ^ (x16.toInt.toNat + 62) := Nat.lt_of_lt_of_le q13.2.1 (Nat.pow_le_pow_right (by decide) (by omega))
  refine Nu_high_c W14 T17 30000000 ?_ (fun r18 q20 => ?_)
  · exact ⟨IX, e16.1, lt16⟩  -- p8
  intro W21
  intro M22
  intro T23
  refine Nu_high_c W21 T23 30000000 ?_ (fun r24 q26 => ?_)
  · exact ⟨IY, e16.1, Nat.lt_of_le_of_lt p1 lt16⟩  -- p9
  intro W27
  intro M28
  have pU : 0 < 2 ^ x16.toInt.toNat := Nat.pow_pos (by decide)
  have hH : nuN κ (zR κ caX a0) / 2 ^ x16.toInt.toNat < 4611686018427387904 := by
    rw [Nat.div_lt_iff_lt_mul pU]
    rw [Nat.pow_add, Nat.mul_comm] at lt16
    exact lt16
  have hL : nuN κ (zR κ caY a0) / 2 ^ x16.toInt.toNat ≤ nuN κ (zR κ caX a0) / 2 ^ x16.toInt.toNat := Nat.div_le_div_right p1
  have dX := Nat.div_add_mod' (nuN κ (zR κ caX a0)) (2 ^ x16.toInt.toNat)
  have dY := Nat.div_add_mod' (nuN κ (zR κ caY a0)) (2 ^ x16.toInt.toNat)
  have mX := Nat.mod_lt (nuN κ (zR κ caX a0)) pU
  have mY := Nat.mod_lt (nuN κ (zR κ caY a0)) pU
  unfold w_Ca_leap_49
  refine ⟨fun n l0 l2 l4 l6 l8 l10 l12 l14 τ => n = (100 - l14.toInt).toNat ∧ (κ = τ ∧ a0 = l0 ∧ 0 ≤ l14.toInt ∧ lpI (nuN κ (zR κ caX a0)) (nuN κ (zR κ caY a0)) (nuN κ (zR κ caX a0) / 2 ^ x16.toInt.toNat) (nuN κ (zR κ caY a0) / 2 ^ x16.toInt.toNat) l2.toInt l4.toInt l6.toInt l8.toInt l10.toInt l12.toInt), ⟨_, rfl, ?_⟩, ?_⟩
  · refine ⟨rfl, rfl, by decide, Or.inl ⟨by decide, by decide, by decide, by decide⟩, ⟨by decide, by decide, by decide, by decide⟩, lpV_0 p1, ?_⟩
    show (r18.toInt = 1 * _ + 0 * _ ∧ r24.toInt = 0 * _ + 1 * _) ∧ _
    rw [q20, q26]
    generalize nuN κ (zR κ caX a0) / 2 ^ x16.toInt.toNat = H at *
    generalize nuN κ (zR κ caY a0) / 2 ^ x16.toInt.toNat = L at *
    omega
  rintro n49 _ x49_2 x49_4 x49_6 x49_8 x49_10 x49_12 x49_14 _ W49 T49_0 ⟨hn49, rfl, rfl, i49⟩
  obtain ⟨k49, J49⟩ := i49
  refine ⟨fun c29 => ?_, fun c29 => ?_⟩
  · skip
    refine hj213 _ _ _ _ _ _ W49 ?_ ?_
    · exact T49_0  -- t11
    · exact ⟨rfl, rfl, J49.1, J49.2.1, J49.2.2.1⟩  -- k12
  · skip
    obtain ⟨Ba, Bb, Bc, Bd⟩ := J49.2.1
    have hb := J49.2.2.2.2.1
    have lb := J49.2.2.2.2.2
    have s1 : (x49_4 + x49_10).toInt = x49_4.toInt + x49_10.toInt := jadd_i (by omega) (by omega)
    have s2 : (x49_4 + x49_12).toInt = x49_4.toInt + x49_12.toInt := jadd_i (by omega) (by omega)
    have s3 : (x49_2 + x49_6).toInt = x49_2.toInt + x49_6.toInt := jadd_i (by omega) (by omega)
    have s4 : (x49_2 + x49_8).toInt = x49_2.toInt + x49_8.toInt := jadd_i (by omega) (by omega)
    refine ⟨fun c30 => ?_, fun c30 => ?_⟩
    · skip
      refine hj213 _ _ _ _ _ _ W49 ?_ ?_
      · exact T49_0  -- t13
      · exact ⟨rfl, rfl, J49.1, J49.2.1, J49.2.2.1⟩  -- k14
    · skip
      refine ⟨fun c31 => ?_, fun c31 => ?_⟩
      · skip
        refine hj213 _ _ _ _ _ _ W49 ?_ ?_
        · exact T49_0  -- t15
        · exact ⟨rfl, rfl, J49.1, J49.2.1, J49.2.2.1⟩  -- k16
      · skip
        rw [lg_cmp_le, jlei, s1, z64] at c30
        rw [lg_cmp_le, jlei, s2, z64] at c31
        refine ⟨?_, ?_⟩
        · exact j_n0 (by rw [s1]; omega)  -- b17
        intro x32 hx32
        have d1 := jtd_i (x := x49_2 + x49_6) (y := x49_4 + x49_10) (by rw [s1]; omega)
        rw [← hx32, s3, s1] at d1
        have d2 := jtd_i (x := x49_2 + x49_8) (y := x49_4 + x49_12) (by rw [s2]; omega)
        rw [s4, s2] at d2
        refine ⟨?_, ?_⟩
        · exact j_n0 (by rw [s2]; omega)  -- b18
        refine ⟨fun c33 => ?_, fun c33 => ?_⟩
        · skip
          refine hj213 _ _ _ _ _ _ W49 ?_ ?_
          · exact T49_0  -- t19
          · exact ⟨rfl, rfl, J49.1, J49.2.1, J49.2.2.1⟩  -- k20
        · skip
          have key : lg_cmp x32 ((x49_2 + x49_8) / (x49_4 + x49_12)) = 0 → lg_cmp x32 2147483647 ≤ 0 → (1 ≤ x32.toInt ∧ x32.toInt ≤ 2147483647) ∧ (x49_6 - x32 * x49_10).toInt = x49_6.toInt - x32.toInt * x49_10.toInt ∧ (x49_8 - x32 * x49_12).toInt = x49_8.toInt - x32.toInt * x49_12.toInt ∧ (x49_2 - x32 * x49_4).toInt = x49_2.toInt - x32.toInt * x49_4.toInt ∧ (lpB x49_10.toInt x49_12.toInt (x49_6.toInt - x32.toInt * x49_10.toInt) (x49_8.toInt - x32.toInt * x49_12.toInt) → lpI (nuN κ (zR κ caX a0)) (nuN κ (zR κ caY a0)) (nuN κ (zR κ caX a0) / 2 ^ x16.toInt.toNat) (nuN κ (zR κ caY a0) / 2 ^ x16.toInt.toNat) x49_4.toInt (x49_2.toInt - x32.toInt * x49_4.toInt) x49_10.toInt x49_12.toInt (x49_6.toInt - x32.toInt * x49_10.toInt) (x49_8.toInt - x32.toInt * x49_12.toInt)) := fun y1 y2 => by
            rw [(lg_cmp_eq _ _).mp y1] at d1
            rw [lg_cmp_le, jlei, m64] at y2
            have y3 : x32.toInt = (x49_2.toInt + x49_8.toInt).tdiv (x49_4.toInt + x49_12.toInt) := by rw [(lg_cmp_eq _ _).mp y1]; exact d2
            rw [← (lg_cmp_eq _ _).mp y1] at d1
            have r := lpI_s J49 dX.symm dY.symm mX mY (by omega) (by omega) d1 y3 rfl rfl
            have c1 : -(2147483647 * 2147483647) ≤ x32.toInt * x49_10.toInt ∧ x32.toInt * x49_10.toInt ≤ 2147483647 * 2147483647 := by
              refine ⟨?_, ?_⟩
              · have a := Int.mul_le_mul_of_nonneg_left (a := -2147483647) (b := x49_10.toInt) (c := x32.toInt) Bc.1 (by omega)
                omega
              · have a := Int.mul_le_mul_of_nonneg_left (b := 2147483647) (a := x49_10.toInt) (c := x32.toInt) Bc.2 (by omega)
                omega
            have c2 : -(2147483647 * 2147483647) ≤ x32.toInt * x49_12.toInt ∧ x32.toInt * x49_12.toInt ≤ 2147483647 * 2147483647 := by
              refine ⟨?_, ?_⟩
              · have a := Int.mul_le_mul_of_nonneg_left (a := -2147483647) (b := x49_12.toInt) (c := x32.toInt) Bd.1 (by omega)
                omega
              · have a := Int.mul_le_mul_of_nonneg_left (b := 2147483647) (a := x49_12.toInt) (c := x32.toInt) Bd.2 (by omega)
                omega
            have g1 : (x32 * x49_10).toInt = x32.toInt * x49_10.toInt := jmul_i (by omega) (by omega)
            have g2 : (x32 * x49_12).toInt = x32.toInt * x49_12.toInt := jmul_i (by omega) (by omega)
            have g3 : (x32 * x49_4).toInt = x32.toInt * x49_4.toInt := jmul_i (by omega) (by omega)
            refine ⟨⟨r.1, y2⟩, ?_, ?_, ?_, r.2.2.2⟩
            · rw [jsub_i (by rw [g1]; omega) (by rw [g1]; omega), g1]
            · rw [jsub_i (by rw [g2]; omega) (by rw [g2]; omega), g2]
            · rw [jsub_i (by rw [g3]; omega) (by rw [g3]; omega), g3]
          refine ⟨fun c34 => ?_, fun c34 => ?_⟩
          · skip
            intro x35 hx35
            intro x36 hx36
            refine ⟨fun c37 => ?_, fun c37 => ?_⟩
            · skip
              refine hj213 _ _ _ _ _ _ W49 ?_ ?_
              · exact T49_0  -- t21
              · exact ⟨rfl, rfl, J49.1, J49.2.1, J49.2.2.1⟩  -- k22
            · skip
              refine ⟨fun c38 => ?_, fun c38 => ?_⟩
              · skip
                refine hj213 _ _ _ _ _ _ W49 ?_ ?_
                · exact T49_0  -- t23
                · exact ⟨rfl, rfl, J49.1, J49.2.1, J49.2.2.1⟩  -- k24
              · skip
                refine ⟨fun c39 => ?_, fun c39 => ?_⟩
                · skip
                  refine hj213 _ _ _ _ _ _ W49 ?_ ?_
                  · exact T49_0  -- t25
                  · exact ⟨rfl, rfl, J49.1, J49.2.1, J49.2.2.1⟩  -- k26
                · skip
                  refine ⟨fun c40 => ?_, fun c40 => ?_⟩
                  · skip
                    intro x41 hx41
                    intro x42 hx42
                    refine ⟨_, ?_, rfl, ?_⟩
                    · have t100 : (100 : Int32).toInt = 100 := rfl
                      rw [lei, t100] at c29
                      have e : x42.toInt = x49_14.toInt + 1 := by rw [hx42, add_i (by rw [t1i]; omega) (by rw [t1i]; omega), t1i]
                      rw [hn49]; omega
                    · have t100 : (100 : Int32).toInt = 100 := rfl
                      rw [lei, t100] at c29
                      have e : x42.toInt = x49_14.toInt + 1 := by rw [hx42, add_i (by rw [t1i]; omega) (by rw [t1i]; omega), t1i]
                      obtain ⟨k1, k2, k3, k4, k5⟩ := key c33 c34
                      rw [← hx35] at k2
                      rw [← hx36] at k3
                      rw [← hx41] at k4
                      rw [lg_cmp_gt, jlti, m64] at c37 c39
                      rw [lg_cmp_lt, jlti, n64] at c38
                      rw [lg_cmp_ge, jlei, n64] at c40
                      rw [← k2, ← k3, ← k4] at k5
                      exact ⟨rfl, rfl, by omega, k5 ⟨Bc, Bd, by omega, by omega⟩⟩
                  · skip
                    refine hj213 _ _ _ _ _ _ W49 ?_ ?_
                    · exact T49_0  -- t29
                    · exact ⟨rfl, rfl, J49.1, J49.2.1, J49.2.2.1⟩  -- k30
          · skip
            refine hj213 _ _ _ _ _ _ W49 ?_ ?_
            · exact T49_0  -- t31
            · exact ⟨rfl, rfl, J49.1, J49.2.1, J49.2.2.1⟩  -- k32

end
section
set_option maxHeartbeats 1600000
/-! the class: Calc's blend -/
theorem j_sar {x : Int64} : (x >>> ((31 : Int32).toInt64 &&& 63)).toInt = x.toInt / 2147483648 := by
  have e : (x >>> ((31 : Int32).toInt64 &&& 63)).toBitVec = x.toBitVec.sshiftRight 31 := by
    rw [Int64.toBitVec_shiftRight, BitVec.sshiftRight_eq']
    rfl
  have t : (x >>> ((31 : Int32).toInt64 &&& 63)).toInt = (x.toBitVec.sshiftRight 31).toInt := by rw [← e]; rfl
  rw [t, BitVec.toInt_sshiftRight, Int.shiftRight_eq_div_pow]
  rfl
/-- opposite signs -/
def lpP (a b : Int) : Prop := ((0 ≤ a ∧ b ≤ 0) ∨ (a ≤ 0 ∧ 0 ≤ b)) ∧ (-2147483647 ≤ a ∧ a ≤ 2147483647) ∧ (-2147483647 ≤ b ∧ b ≤ 2147483647)
theorem lpP_1 {a b c d : Int} (S : lpS a b c d) (B : lpB a b c d) : lpP a b ∧ lpP c d := by
  obtain ⟨B1, B2, B3, B4⟩ := B
  refine ⟨⟨?_, B1, B2⟩, ⟨?_, B3, B4⟩⟩
  · rcases S with s | s
    · exact Or.inl ⟨s.1, s.2.1⟩
    · exact Or.inr ⟨s.1, s.2.1⟩
  · rcases S with s | s
    · exact Or.inr ⟨s.2.2.1, s.2.2.2⟩
    · exact Or.inl ⟨s.2.2.1, s.2.2.2⟩
theorem lpP_t {a l : Int} (ha : -2147483647 ≤ a ∧ a ≤ 2147483647) (hl : 0 ≤ l ∧ l ≤ 2147483647) : (-4611686014132420609 ≤ a * l ∧ a * l ≤ 4611686014132420609) ∧ (0 ≤ a → 0 ≤ a * l) ∧ (a ≤ 0 → a * l ≤ 0) := by
  have m1 := Int.mul_le_mul_of_nonneg_right ha.1 hl.1
  have m2 := Int.mul_le_mul_of_nonneg_right ha.2 hl.1
  exact ⟨by omega, fun z => Int.mul_nonneg z hl.1, fun z => Int.mul_nonpos_of_nonpos_of_nonneg z hl.1⟩
theorem lpP_b {a b l r : Int} (h : lpP a b) (hl : 0 ≤ l ∧ l ≤ 2147483647) (hr : 0 ≤ r ∧ r ≤ 2147483647) : (-4611686014132420609 ≤ a * l ∧ a * l ≤ 4611686014132420609) ∧ (-4611686014132420609 ≤ b * r ∧ b * r ≤ 4611686014132420609) ∧ -4611686014132420609 ≤ a * l + b * r ∧ a * l + b * r ≤ 4611686014132420609 := by
  have t1 := lpP_t h.2.1 hl
  have t2 := lpP_t h.2.2 hr
  rcases h.1 with s | s
  · have u1 := t1.2.1 s.1
    have u2 := t2.2.2 s.2
    omega
  · have u1 := t1.2.2 s.1
    have u2 := t2.2.1 s.2
    omega
/-- a sum of multiples, limb by limb -/
def blI (L M Z : Nat → Int32) (a b : Int) (i : Nat) (o : Int) : Prop := (uV Z i : Int) + o * ((2147483648 ^ i : Nat) : Int) = a * uV L i + b * uV M i ∧ (-2147483648 ≤ o ∧ o ≤ 2147483648) ∧ ∀ j, j < i → 0 ≤ (Z j).toInt
theorem bl_ar {z o a b p S T D x y v : Int} (h : D + o * p = a * S + b * T) (hv : v = o + (a * x + b * y)) : D + v % 2147483648 * p + v / 2147483648 * (2147483648 * p) = a * (S + x * p) + b * (T + y * p) := by
  have m := Int.mul_ediv_add_emod v 2147483648
  have e : (2147483648 * (v / 2147483648) + v % 2147483648) * p = (o + (a * x + b * y)) * p := by rw [m, hv]
  simp only [Int.add_mul, Int.mul_add, Int.mul_assoc, Int.mul_left_comm (v / 2147483648)] at *
  omega
theorem blI_s {L M Z Z' : Nat → Int32} {a b o v : Int} {i : Nat} {x : Int32} (h : blI L M Z a b i o) (P : lpP a b) (hl : 0 ≤ (L i).toInt) (hr : 0 ≤ (M i).toInt) (hv : v = o + (a * (L i).toInt + b * (M i).toInt)) (ex : x.toInt = v % 2147483648) (e : Z' = upd Z i x) : blI L M Z' a b (i + 1) (v / 2147483648) := by
  obtain ⟨h1, h2, h3⟩ := h
  have kl := cnk hl
  have kr := cnk hr
  have l1 := ihi (L i)
  have l2 := ihi (M i)
  have pb := lpP_b P (l := (L i).toInt) (r := (M i).toInt) (by omega) (by omega)
  have kx := cnk (x := x) (by omega)
  have mi : Z' i = x := by rw [e]; exact if_pos rfl
  have mj : ∀ j, j ≠ i → Z' j = Z j := fun j hj => by rw [e]; exact if_neg hj
  refine ⟨?_, by omega, fun j hj => ?_⟩
  · show ((uV Z' i + (Z' i).toNatClampNeg * 2147483648 ^ i : Nat) : Int) + _ = a * ((uV L i + (L i).toNatClampNeg * 2147483648 ^ i : Nat) : Int) + b * ((uV M i + (M i).toNatClampNeg * 2147483648 ^ i : Nat) : Int)
    rw [uV_e (g := Z) (fun j hj => mj j (Nat.ne_of_lt hj)), mi, p31_s]
    rw [Int.natCast_add, Int.natCast_mul, Int.natCast_add, Int.natCast_mul, Int.natCast_add, Int.natCast_mul, Int.natCast_mul, kx, kl, kr, ex]
    exact bl_ar (z := 0) h1 hv
  · by_cases z : j = i
    · rw [z, mi]; omega
    · rw [mj j z]; exact h3 j (by omega)
theorem blI_e {L M Z : Nat → Int32} {a b o : Int} {m x X : Nat} (h : blI L M Z a b m o) (hx : (x : Int) = a * uV L m + b * uV M m) (hX : x ≤ X) (hl : X < 2147483648 ^ m) : uV Z m = x := by
  obtain ⟨h1, h2, h3⟩ := h
  rw [← hx] at h1
  have lz := uV_lt (f := Z) (n := m)
  generalize (2147483648 : Nat) ^ m = P at *
  have oz : o = 0 := by
    by_cases y : 1 ≤ o
    · have := Int.mul_le_mul_of_nonneg_right y (show (0 : Int) ≤ (P : Int) by omega)
      omega
    · by_cases y2 : o ≤ -1
      · have := Int.mul_le_mul_of_nonneg_right y2 (show (0 : Int) ≤ (P : Int) by omega)
        omega
      · omega
  rw [oz] at h1
  omega
theorem nuT_o {κ τ : zS} {x y c : Nat} (h : nuT κ τ y) (n : x ≠ y) : (nuI κ x c → nuI τ x c) ∧ nuN τ x = nuN κ x ∧ (nuB κ x c → nuB τ x c) := by
  have i := h.2.2.2.2 nuLength x (fun z => n z.2)
  refine ⟨fun I => ?_, ?_, fun I => ?_⟩
  · unfold nuI nuB nuZ
    rw [i, h.2.1, h.2.2.1, h.2.2.2.1]
    exact I
  · unfold nuN
    rw [i, h.2.1, h.2.2.1]
  · unfold nuB
    rw [i, h.2.1, h.2.2.1, h.2.2.2.1]
    exact I
theorem Ca_blend_c {C : zC} {n0 : Nat} {a0 : Nat} {a1 : Int64} {a3 : Int64} {a5 : Int64} {a7 : Int64} {κ : zS} {Q : zS → Prop} (W : zW C n0 κ) (Ta0 : zT κ a0 = 4) (c9 : Nat) (hp : (nuI κ (zR κ caX a0) c9 ∧ nuI κ (zR κ caY a0) c9) ∧ (zR κ caX a0) ≠ (zR κ caY a0) ∧ nuN κ (zR κ caY a0) ≤ nuN κ (zR κ caX a0) ∧ (lpS a1.toInt a3.toInt a5.toInt a7.toInt ∧ lpB a1.toInt a3.toInt a5.toInt a7.toInt ∧ lpV (nuN κ (zR κ caX a0)) (nuN κ (zR κ caY a0)) a1.toInt a3.toInt a5.toInt a7.toInt) ∧ nuK κ (zR κ caX a0) + nuK κ (zR κ caX a0) / 2 + 1 ≤ c9 ∧ c9 ≤ 30000000) (h : ∀ (κ' : zS), (zF (nuFp (oo2 (zR κ caX a0) (zR κ caY a0))) κ κ' ∧ nuI κ' (zR κ caX a0) c9 ∧ nuI κ' (zR κ caY a0) c9 ∧ (nuN κ' (zR κ caX a0) : Int) = a1.toInt * nuN κ (zR κ caX a0) + a3.toInt * nuN κ (zR κ caY a0) ∧ (nuN κ' (zR κ caY a0) : Int) = a5.toInt * nuN κ (zR κ caX a0) + a7.toInt * nuN κ (zR κ caY a0)) → Q κ') : zRun C 3 mCa_blend [.ref a0, .long a1, .long a3, .long a5, .long a7] κ (oV Q noX) := by
  refine Ca_blend_run W Ta0 ?_
  replace W := W.lo (Nat.le_trans W.1.2.1 W.1.2.2) (Nat.le_refl (zn κ))
  unfold w_Ca_blend_0
  obtain ⟨⟨IX, IY⟩, nxy, p1, ⟨LS, LB, LV⟩, p2, p3⟩ := hp
  have PP := lpP_1 LS LB
  have kx := nuK_i IX.1
  have ky := nuK_i IY.1
  have kyd : nuK κ (zR κ caY a0) = (zI κ nuLength (zR κ caY a0)).toNatClampNeg := rfl
  have lx := IX.1.1
  have ly := IY.1.1
  have cx := IX.1.2.1
  have cy := IY.1.2.1
  have kl : nuK κ (zR κ caY a0) ≤ nuK κ (zR κ caX a0) := nuK_le (d := 0) IY p1
  have Tx := ty_caX W Ta0
  have Ty := ty_caY W Ta0
  have hh228 : ∀ (l0 : Nat) (τ : zS), zW C (zn κ) τ → zT τ l0 = 4 → (a0 = l0 ∧ ∃ ρ, (zF (nuFp (oo2 (zR κ caX a0) (zR κ caY a0))) κ ρ ∧ (nuI ρ (zR κ caX a0) c9 ∧ nuB ρ (zR κ caY a0) c9) ∧ (nuN ρ (zR κ caX a0) : Int) = a1.toInt * nuN κ (zR κ caX a0) + a3.toInt * nuN κ (zR κ caY a0) ∧ (nuN ρ (zR κ caY a0) : Int) = a5.toInt * nuN κ (zR κ caX a0) + a7.toInt * nuN κ (zR κ caY a0)) ∧ nuR ρ τ (zR κ caY a0)) → w_Ca_blend_228 C (zn κ) Q  l0 τ := by
    intro z0 τi Wi _ hinit
    unfold w_Ca_blend_228
    refine ⟨fun n l0 τ => n = ((zI τ nuLength (zR κ caY a0)).toInt).toNat ∧ (a0 = l0 ∧ ∃ ρ, (zF (nuFp (oo2 (zR κ caX a0) (zR κ caY a0))) κ ρ ∧ (nuI ρ (zR κ caX a0) c9 ∧ nuB ρ (zR κ caY a0) c9) ∧ (nuN ρ (zR κ caX a0) : Int) = a1.toInt * nuN κ (zR κ caX a0) + a3.toInt * nuN κ (zR κ caY a0) ∧ (nuN ρ (zR κ caY a0) : Int) = a5.toInt * nuN κ (zR κ caX a0) + a7.toInt * nuN κ (zR κ caY a0)) ∧ nuR ρ τ (zR κ caY a0)), ⟨_, rfl, hinit⟩, ?_⟩
    clear hinit
    rintro n228 _ κ228 W228 T228_0 ⟨hn228, rfl, i228⟩
    obtain ⟨ρ, ⟨Zρ, ⟨IXρ, BYρ⟩, VXρ, VYρ⟩, Rρ⟩ := i228
    have eY : zR κ228 caY a0 = (zR κ caY a0) := by rw [Rρ.1.2.1]; exact nuFp_r Zρ (by decide) (by decide)
    have lρ := BYρ.1
    have l2ρ := Rρ.2.1
    have yf : zF (nuFp (oo2 (zR κ caX a0) (zR κ caY a0))) κ κ228 := Zρ.tr (nuFp_m (Or.inr rfl) Rρ.1.1)
    refine ⟨fun c1 => ?_, fun c1 => ?_⟩
    · skip
      refine h _ ?_
      · rw [eY, lei, t0i] at c1
        have q := nuR_e Rρ BYρ (Or.inl c1)
        have o := nuT_o (c := c9) Rρ.1 nxy
        exact ⟨yf, o.1 IXρ, q.1, by rw [o.2.1]; exact VXρ, by rw [q.2.1]; exact VYρ⟩
    · skip
      rw [eY, lei, t0i] at c1
      have d := dec_i (x := zI κ228 nuLength (zR κ caY a0)) (by omega)
      refine ⟨?_, ?_⟩
      · rw [eY, Rρ.1.2.1, Rρ.1.2.2.2.1, inb_iff, d]; omega  -- b2
      refine ⟨fun c2 => ?_, fun c2 => ?_⟩
      · skip
        refine h _ ?_
        · rw [eY] at c2
          have q := nuR_e Rρ BYρ (Or.inr c2)
          have o := nuT_o (c := c9) Rρ.1 nxy
          exact ⟨yf, o.1 IXρ, q.1, by rw [o.2.1]; exact VXρ, by rw [q.2.1]; exact VYρ⟩
      · skip
        intro κ_3 hκ_3
        intro W4
        refine ⟨_, ?_, rfl, ?_⟩
        · rw [eY] at c2 hκ_3
          have s := nuR_s Rρ (by omega) c2 hκ_3
          rw [hn228]; omega
        · rw [eY] at c2 hκ_3
          exact ⟨rfl, ρ, ⟨Zρ, ⟨IXρ, BYρ⟩, VXρ, VYρ⟩, (nuR_s Rρ (by omega) c2 hκ_3).1⟩
  intro x5 hx5
  intro T6
  refine Nu_widen_c W T6  ?_ (fun κ_7 q8 => ?_)
  · rw [hx5]
    exact ⟨by omega, cy.1⟩
  obtain ⟨F7, I7, R7, L7, A7⟩ := q8
  rw [hx5] at L7
  have rX : zR κ_7 caX a0 = (zR κ caX a0) := R7 _ _ (fun z => absurd z.1 (by decide))
  have rY : zR κ_7 caY a0 = (zR κ caY a0) := R7 _ _ (fun z => absurd z.1 (by decide))
  have rxl : zR κ_7 nuLimbs (zR κ caX a0) = zR κ nuLimbs (zR κ caX a0) := R7 _ _ (fun z => nxy z.2)
  have ux := nu_z W Tx F7 (fun z => nxy z.1) (fun z => nxy z.1)
  have Tx7 : zT κ_7 (zR κ caX a0) = 8 := F7.t Tx (by decide)
  have Ty7 : zT κ_7 (zR κ caY a0) = 8 := F7.t Ty (by decide)
  intro W9
  intro M10
  intro T11
  refine Ar_fill4_c W9 T11  ?_ (fun κ_12 q13 => ?_)
  · rw [rY, I7, hx5]
    exact ⟨by rw [lei, t0i]; omega, by rw [lei]; omega, by
      have e : (zI κ nuLength (zR κ caX a0)).toNatClampNeg = nuK κ (zR κ caX a0) := rfl
      rw [e]; omega⟩
  rw [rY, I7, hx5] at q13
  have R12 : zR κ_12 = zR κ_7 := by rw [q13]; rfl
  have I12 : zI κ_12 = zI κ := by rw [q13]; exact I7
  have N12 : zN κ_12 = zN κ_7 := by rw [q13]; rfl
  have ow := W9.o (show zr nuLimbs = some 20 by decide +kernel) (by decide) Ty7
  have Z12 : zF (nuFp (oo2 (zR κ caX a0) (zR κ caY a0))) κ κ_12 := nuFp_m (Or.inr rfl) (F7.tr (by rw [q13]; exact zF_uf (by rw [ow]; exact ⟨rfl, Or.inl rfl⟩)))
  have nr := nu_ne W9 Tx7 Ty7 nxy
  rw [rxl] at nr
  have AX : zA κ_12 (zR κ nuLimbs (zR κ caX a0)) = zA κ (zR κ nuLimbs (zR κ caX a0)) := by
    rw [q13]
    exact (if_neg nr).trans ux.2.2.1
  have AY : ∀ j, j < nuK κ (zR κ caX a0) → zA κ_12 (zR κ_7 nuLimbs (zR κ caY a0)) j = uP κ (zR κ caY a0) j := fun j hj => by
    rw [q13]
    refine (congrFun (if_pos rfl) j).trans ?_
    show (if nuK κ (zR κ caY a0) ≤ j ∧ j < nuK κ (zR κ caX a0) then (0 : Int32) else _) = if j < nuK κ (zR κ caY a0) then _ else 0
    by_cases z : j < nuK κ (zR κ caY a0)
    · rw [if_neg (by omega), if_pos z]
      exact A7 j (by omega)
    · rw [if_pos (by omega), if_neg z]
  intro W14
  intro M15
  unfold w_Ca_blend_47
  refine ⟨fun n l0 l1 l3 l5 l7 l9 l10 l12 l14 τ => n = (l9.toInt - l14.toInt).toNat ∧ (a0 = l0 ∧ a1 = l1 ∧ a3 = l3 ∧ a5 = l5 ∧ a7 = l7 ∧ x5 = l9 ∧ nuEp (oo2 (zR κ caX a0) (zR κ caY a0)) κ_12 τ ∧ (0 ≤ l14.toInt ∧ l14.toInt ≤ nuK κ (zR κ caX a0)) ∧ blI (zA κ (zR κ nuLimbs (zR κ caX a0))) (uP κ (zR κ caY a0)) (zA τ (zR κ nuLimbs (zR κ caX a0))) a1.toInt a3.toInt l14.toNatClampNeg l10.toInt ∧ blI (zA κ (zR κ nuLimbs (zR κ caX a0))) (uP κ (zR κ caY a0)) (zA τ (zR κ_7 nuLimbs (zR κ caY a0))) a5.toInt a7.toInt l14.toNatClampNeg l12.toInt ∧ ∀ j, l14.toNatClampNeg ≤ j → j < nuK κ (zR κ caX a0) → zA τ (zR κ nuLimbs (zR κ caX a0)) j = zA κ (zR κ nuLimbs (zR κ caX a0)) j ∧ zA τ (zR κ_7 nuLimbs (zR κ caY a0)) j = uP κ (zR κ caY a0) j), ⟨_, rfl, ?_⟩, ?_⟩
  · refine ⟨rfl, rfl, rfl, rfl, rfl, rfl, nuEp.rf, ⟨by decide, by rw [t0i]; omega⟩, ⟨?_, ⟨by decide, by decide⟩, fun j hj => absurd hj (Nat.not_lt_zero _)⟩, ⟨?_, ⟨by decide, by decide⟩, fun j hj => absurd hj (Nat.not_lt_zero _)⟩, fun j _ hj => ⟨by rw [AX], AY j hj⟩⟩
    · show ((0 : Nat) : Int) + 0 * _ = _ * ((0 : Nat) : Int) + _ * ((0 : Nat) : Int)
      omega
    · show ((0 : Nat) : Int) + 0 * _ = _ * ((0 : Nat) : Int) + _ * ((0 : Nat) : Int)
      omega
  rintro n47 _ _ _ _ _ x47_9 x47_10 x47_12 x47_14 κ47 W47 T47_0 ⟨hn47, rfl, rfl, rfl, rfl, rfl, i47⟩
  obtain ⟨rfl, E47, k47, J1, J2, O47⟩ := i47
  have rs : zR κ47 = zR κ_7 := E47.2.1.trans R12
  have is : zI κ47 = zI κ := E47.2.2.1.trans I12
  have ns : zN κ47 = zN κ_7 := E47.2.2.2.trans N12
  have kn := cnk k47.1
  have Z47 := Z12.tr E47.1
  have Tx47 : zT κ47 (zR κ caX a0) = 8 := Z47.t Tx (by decide)
  have Ty47 : zT κ47 (zR κ caY a0) = 8 := Z47.t Ty (by decide)
  have fin : ∀ σ ρ : zS, x5 ≤ x47_14 → σ = ui κ47 nuLength (zR κ47 caX a0) x5 → ρ = ui σ nuLength (zR σ caY a0) x5 → zR ρ = zR κ_7 ∧ zF (nuFp (oo2 (zR κ caX a0) (zR κ caY a0))) κ ρ ∧ (nuB ρ (zR κ caX a0) c9 ∧ (nuN ρ (zR κ caX a0) : Int) = a1.toInt * nuN κ (zR κ caX a0) + a3.toInt * nuN κ (zR κ caY a0)) ∧ nuB ρ (zR κ caY a0) c9 ∧ (nuN ρ (zR κ caY a0) : Int) = a5.toInt * nuN κ (zR κ caX a0) + a7.toInt * nuN κ (zR κ caY a0) := fun σ ρ c16 e1 e2 => by
    rw [lei, hx5] at c16
    have kk : x47_14.toNatClampNeg = nuK κ (zR κ caX a0) := by omega
    rw [kk] at J1 J2
    have rσ : zR σ = zR κ_7 := by rw [e1]; exact rs
    rw [rs, rX] at e1
    rw [rσ, rY] at e2
    have rρ : zR ρ = zR κ_7 := by rw [e2]; exact rσ
    have nρ : zN ρ = zN κ_7 := by rw [e2, e1]; exact ns
    have aρ : zA ρ = zA κ47 := by rw [e2, e1]; rfl
    have iy : zI ρ nuLength (zR κ caY a0) = x5 := by rw [e2]; exact if_pos ⟨rfl, rfl⟩
    have ix : zI ρ nuLength (zR κ caX a0) = x5 := by
      rw [e2]
      refine (if_neg (fun z => nxy z.2)).trans ?_
      rw [e1]
      exact if_pos ⟨rfl, rfl⟩
    have Zσ : zF (nuFp (oo2 (zR κ caX a0) (zR κ caY a0))) κ47 σ := nuFp_m (Or.inl rfl) (by rw [e1]; exact zF_ui ⟨rfl, Or.inr rfl⟩)
    have Zρ : zF (nuFp (oo2 (zR κ caX a0) (zR κ caY a0))) σ ρ := nuFp_m (Or.inr rfl) (by rw [e2]; exact zF_ui ⟨rfl, Or.inr rfl⟩)
    obtain ⟨x', y', v1, v2, v3, v4, v5, v6⟩ := LV
    have lX : nuN κ (zR κ caX a0) < 2147483648 ^ nuK κ (zR κ caX a0) := nuN_lt
    have uX : uV (zA κ (zR κ nuLimbs (zR κ caX a0))) (nuK κ (zR κ caX a0)) = nuN κ (zR κ caX a0) := rfl
    have uY : uV (uP κ (zR κ caY a0)) (nuK κ (zR κ caX a0)) = nuN κ (zR κ caY a0) := uP_v kl
    have f1 := blI_e J1 (by rw [uX, uY]; exact v1) v5 lX
    have f2 := blI_e J2 (by rw [uX, uY]; exact v2) (Nat.le_trans v3 v5) lX
    have e5 : x5.toInt = nuK κ (zR κ caX a0) := by rw [hx5]; omega
    have e5n : x5.toNatClampNeg = nuK κ (zR κ caX a0) := by rw [hx5]; rfl
    refine ⟨rρ, (Z47.tr Zσ).tr Zρ, ⟨⟨?_, ?_, fun i hi => ?_⟩, ?_⟩, ⟨?_, ?_, fun i hi => ?_⟩, ?_⟩
    · rw [rρ, nρ, ix, rxl, ux.2.2.2]; omega
    · rw [rρ, nρ, rxl, ux.2.2.2]; exact cx
    · rw [ix] at hi
      rw [rρ, aρ, rxl]
      exact J1.2.2 i (by omega)
    · have : nuN ρ (zR κ caX a0) = x' := by
        unfold nuN
        rw [ix, rρ, aρ, rxl, e5n]
        exact f1
      rw [this]; exact v1
    · rw [rρ, nρ, iy]; omega
    · rw [rρ, nρ]; omega
    · rw [iy] at hi
      rw [rρ, aρ]
      exact J2.2.2 i (by omega)
    · have : nuN ρ (zR κ caY a0) = y' := by
        unfold nuN
        rw [iy, rρ, aρ, e5n]
        exact f2
      rw [this]; exact v2
  refine ⟨fun c16 => ?_, fun c16 => ?_⟩
  · skip
    intro κ_17 hκ_17
    intro W18
    intro κ_19 hκ_19
    intro W20
    unfold w_Ca_blend_182
    refine ⟨fun n l0 τ => n = ((zI τ nuLength (zR κ caX a0)).toInt).toNat ∧ (a0 = l0 ∧ nuR κ_19 τ (zR κ caX a0)), ⟨_, rfl, ?_⟩, ?_⟩
    · obtain ⟨R19, Z19, ⟨B19, V19⟩, By19, Vy19⟩ := fin _ _ c16 hκ_17 hκ_19
      exact ⟨rfl, nuT.rf, ⟨B19.1.1, Int.le_refl _⟩, rfl⟩
    rintro n182 _ κ182 W182 T182_0 ⟨hn182, rfl, i182⟩
    obtain ⟨R19, Z19, ⟨B19, V19⟩, By19, Vy19⟩ := fin _ _ c16 hκ_17 hκ_19
    have r19 : zR κ182 = zR κ_7 := i182.1.2.1.trans R19
    have eX : zR κ182 caX a0 = (zR κ caX a0) := by rw [r19]; exact rX
    have b19 := B19.1
    have l82 := i182.2.1
    have Z82 : zF (nuFp (oo2 (zR κ caX a0) (zR κ caY a0))) κ κ182 := Z19.tr (nuFp_m (Or.inl rfl) i182.1.1)
    have oy := nuT_o (c := c9) i182.1 nxy.symm
    refine ⟨fun c21 => ?_, fun c21 => ?_⟩
    · skip
      refine hh228 _ _ W182 (by assumption) ?_
      · rw [eX, lei, t0i] at c21
        have q := nuR_e i182 B19 (Or.inl c21)
        have By := oy.2.2 By19
        exact ⟨rfl, κ182, ⟨Z82, ⟨q.1, By⟩, by rw [q.2.1]; exact V19, by rw [oy.2.1]; exact Vy19⟩, nuT.rf, ⟨By.1.1, Int.le_refl _⟩, rfl⟩
    · skip
      rw [eX, lei, t0i] at c21
      have d := dec_i (x := zI κ182 nuLength (zR κ caX a0)) (by omega)
      refine ⟨?_, ?_⟩
      · rw [eX, i182.1.2.1, i182.1.2.2.2.1, inb_iff, d]; omega  -- b11
      refine ⟨fun c22 => ?_, fun c22 => ?_⟩
      · skip
        refine hh228 _ _ W182 (by assumption) ?_
        · rw [eX] at c22
          have q := nuR_e i182 B19 (Or.inr c22)
          have By := oy.2.2 By19
          exact ⟨rfl, κ182, ⟨Z82, ⟨q.1, By⟩, by rw [q.2.1]; exact V19, by rw [oy.2.1]; exact Vy19⟩, nuT.rf, ⟨By.1.1, Int.le_refl _⟩, rfl⟩
      · skip
        intro κ_23 hκ_23
        intro W24
        refine ⟨_, ?_, rfl, ?_⟩
        · rw [eX] at c22 hκ_23
          have s := nuR_s i182 (by omega) c22 hκ_23
          rw [hn182]; omega
        · rw [eX] at c22 hκ_23
          exact ⟨rfl, (nuR_s i182 (by omega) c22 hκ_23).1⟩
  · skip
    clear fin hh228
    rw [lei, hx5] at c16
    have o1 := O47 x47_14.toNatClampNeg (Nat.le_refl _) (by omega)
    have gl := IX.1.2.2 x47_14.toNatClampNeg (by omega)
    have gr := uP_0 (j := x47_14.toNatClampNeg) IY.1
    have hl := ihi (zA κ (zR κ nuLimbs (zR κ caX a0)) x47_14.toNatClampNeg)
    have hr := ihi (uP κ (zR κ caY a0) x47_14.toNatClampNeg)
    have b1 := lpP_b PP.1 (l := (zA κ (zR κ nuLimbs (zR κ caX a0)) x47_14.toNatClampNeg).toInt) (r := (uP κ (zR κ caY a0) x47_14.toNatClampNeg).toInt) ⟨gl, by omega⟩ ⟨gr, by omega⟩
    have b2 := lpP_b PP.2 (l := (zA κ (zR κ nuLimbs (zR κ caX a0)) x47_14.toNatClampNeg).toInt) (r := (uP κ (zR κ caY a0) x47_14.toNatClampNeg).toInt) ⟨gl, by omega⟩ ⟨gr, by omega⟩
    have j1 := J1.2.1
    have j2 := J2.2.1
    have e5 := cn1 (x := x47_14) k47.1 (by omega)
    have c1 : (zA κ (zR κ nuLimbs (zR κ caX a0)) x47_14.toNatClampNeg).toInt64.toInt = (zA κ (zR κ nuLimbs (zR κ caX a0)) x47_14.toNatClampNeg).toInt := Int32.toInt_toInt64 _
    have c2 : (uP κ (zR κ caY a0) x47_14.toNatClampNeg).toInt64.toInt = (uP κ (zR κ caY a0) x47_14.toNatClampNeg).toInt := Int32.toInt_toInt64 _
    refine ⟨?_, ?_⟩
    · rw [rs, rX, rxl, ns, ux.2.2.2, inb_iff]; omega  -- b15
    intro x25 hx25
    refine ⟨?_, ?_⟩
    · rw [rs, rY, ns, inb_iff]; omega  -- b16
    intro x26 hx26
    intro x27 hx27
    intro x28 hx28
    rw [rs, rX, rxl, o1.1] at hx25
    rw [rs, rY, o1.2] at hx26
    have d1 : x25.toInt = (zA κ (zR κ nuLimbs (zR κ caX a0)) x47_14.toNatClampNeg).toInt := by rw [hx25]; exact c1
    have d2 : x26.toInt = (uP κ (zR κ caY a0) x47_14.toNatClampNeg).toInt := by rw [hx26]; exact c2
    rw [← d1, ← d2] at b1 b2
    have m1 : (a1 * x25).toInt = a1.toInt * x25.toInt := jmul_i (by omega) (by omega)
    have m2 : (a3 * x26).toInt = a3.toInt * x26.toInt := jmul_i (by omega) (by omega)
    have m3 : (a5 * x25).toInt = a5.toInt * x25.toInt := jmul_i (by omega) (by omega)
    have m4 : (a7 * x26).toInt = a7.toInt * x26.toInt := jmul_i (by omega) (by omega)
    have s1 : (a1 * x25 + a3 * x26).toInt = a1.toInt * x25.toInt + a3.toInt * x26.toInt := by rw [jadd_i (by rw [m1, m2]; omega) (by rw [m1, m2]; omega), m1, m2]
    have s2 : (a5 * x25 + a7 * x26).toInt = a5.toInt * x25.toInt + a7.toInt * x26.toInt := by rw [jadd_i (by rw [m3, m4]; omega) (by rw [m3, m4]; omega), m3, m4]
    have e27 : x27.toInt = x47_10.toInt + (a1.toInt * x25.toInt + a3.toInt * x26.toInt) := by rw [hx27, jadd_i (by rw [s1]; omega) (by rw [s1]; omega), s1]
    have e28 : x28.toInt = x47_12.toInt + (a5.toInt * x25.toInt + a7.toInt * x26.toInt) := by rw [hx28, jadd_i (by rw [s2]; omega) (by rw [s2]; omega), s2]
    rw [d1, d2] at e27 e28
    refine ⟨?_, ?_⟩
    · rw [rs, rX, rxl, ns, ux.2.2.2, inb_iff]; omega  -- b17
    intro κ_29 hκ_29
    intro W30
    rw [rs, rX] at hκ_29
    rw [← rs] at hκ_29
    obtain ⟨v1, v2, v3⟩ := nu_u W47 Tx47 hκ_29
    rw [rs, rxl] at v2
    have r29 : zR κ_29 = zR κ_7 := v1.2.1.trans rs
    have n29 : zN κ_29 = zN κ_7 := v1.2.2.2.trans ns
    have Ty29 : zT κ_29 (zR κ caY a0) = 8 := v1.1.t Ty47 (by decide)
    have a29 : zA κ_29 (zR κ_7 nuLimbs (zR κ caY a0)) = zA κ47 (zR κ_7 nuLimbs (zR κ caY a0)) := by
      rw [hκ_29, rs, rxl]
      exact if_neg (fun z => nr z.symm)
    refine ⟨?_, ?_⟩
    · rw [r29, rY, n29, inb_iff]; omega  -- b18
    intro κ_31 hκ_31
    intro W32
    intro x33 hx33
    intro x34 hx34
    intro x35 hx35
    refine ⟨_, ?_, rfl, ?_⟩
    · rw [hn47, hx35, e5.2, hx5]; omega  -- d19
    · rw [r29, rY] at hκ_31
      rw [← r29] at hκ_31
      obtain ⟨w1, w2, w3⟩ := nu_u W30 Ty29 hκ_31
      rw [r29, a29] at w2
      have a31 : zA κ_31 (zR κ nuLimbs (zR κ caX a0)) = zA κ_29 (zR κ nuLimbs (zR κ caX a0)) := by
        rw [hκ_31, r29]
        exact if_neg nr
      have g1 := (j_and (x := x27)).2
      have g2 := (j_and (x := x28)).2
      have h1 := j_sar (x := x27)
      have h2 := j_sar (x := x28)
      rw [← hx33] at h1
      rw [← hx34] at h2
      have n1 := blI_s (x := (x27 &&& 2147483647).toInt32) J1 PP.1 gl gr e27 g1 v2
      have n2 := blI_s (x := (x28 &&& 2147483647).toInt32) J2 PP.2 gl gr e28 g2 w2
      rw [← h1] at n1
      rw [← h2] at n2
      rw [hx35]
      refine ⟨rfl, rfl, rfl, rfl, rfl, rfl, (E47.tr (v1.up (Or.inl rfl))).tr (w1.up (Or.inr rfl)), by rw [e5.2]; omega, by rw [e5.1, a31]; exact n1, by rw [e5.1]; exact n2, fun j hj hm => ?_⟩
      rw [e5.1] at hj
      rw [a31, v2, w2]
      have o := O47 j (by omega) hm
      exact ⟨(if_neg (by omega)).trans o.1, (if_neg (by omega)).trans o.2⟩

end
section
set_option maxHeartbeats 1600000
/-! the class: common divisors of short numbers -/
def gcNn (A B x y n : Nat) : Prop := Nat.gcd x y = Nat.gcd A B ∧ ((n = 0 ∧ x = A ∧ y = B) ∨ (1 ≤ n ∧ y < x ∧ x * y * 2 ^ (n - 1) ≤ A * B))
theorem eu_m {x y : Nat} (h : 0 < y) (l : y ≤ x) : Nat.gcd y (x % y) = Nat.gcd x y ∧ 2 * (y * (x % y)) ≤ x * y := by
  have d := Nat.div_add_mod x y
  have e := eu_s (x := x) (y := y) (r := x % y) (q := x / y) (by rw [Nat.mul_comm]; exact d.symm) (Nat.mod_lt _ h) (Nat.div_pos l h)
  exact ⟨e.1, e.2.1⟩
theorem gc_m {x y : Nat} : Nat.gcd y (x % y) = Nat.gcd x y := by rw [Nat.gcd_comm x y, Nat.gcd_rec y x, Nat.gcd_comm]
theorem gcNn_s {A B x y n : Nat} (h : gcNn A B x y n) (hy : 0 < y) : gcNn A B y (x % y) (n + 1) := by
  refine ⟨by rw [gc_m]; exact h.1, Or.inr ⟨by omega, Nat.mod_lt _ hy, ?_⟩⟩
  show y * (x % y) * 2 ^ n ≤ _
  rcases h.2 with ⟨z1, z2, z3⟩ | ⟨z1, z2, z3⟩
  · rw [z1, z2, z3, Nat.pow_zero, Nat.mul_one, Nat.mul_comm A B]
    exact Nat.mul_le_mul_left B (Nat.mod_le _ _)
  · have e := (eu_m hy (Nat.le_of_lt z2)).2
    have e2 := Nat.mul_le_mul_right (2 ^ (n - 1)) e
    have e3 : n = n - 1 + 1 := by omega
    have e4 : 2 ^ n = 2 ^ (n - 1) * 2 := by
      conv => lhs; rw [e3]
      rw [Nat.pow_succ]
    rw [e4, Nat.mul_comm (2 ^ (n - 1)) 2, ← Nat.mul_assoc, Nat.mul_comm (y * (x % y)) 2]
    omega
theorem gcNn_b {A B x y n k : Nat} (h : gcNn A B x y n) (hy : 0 < y) (hk : A * B < 2 ^ k) : n ≤ k := by
  rcases h.2 with ⟨z1, _, _⟩ | ⟨z1, z2, z3⟩
  · omega
  · have p : 1 ≤ x * y := Nat.mul_pos (by omega) hy
    have q := Nat.mul_le_mul_right (2 ^ (n - 1)) p
    rw [Nat.one_mul] at q
    have : 2 ^ (n - 1) < 2 ^ k := by omega
    have := (Nat.pow_lt_pow_iff_right (by decide : 1 < 2)).mp this
    omega
theorem Ch_commonLong_c {C : zC} {n0 : Nat} {a0 : Int64} {a2 : Int64} {κ : zS} {Q : Int64 → zS → Prop} (W : zW C n0 κ)   (hp : (0 ≤ a0.toInt ∧ a0.toInt < 4611686018427387904) ∧ 0 ≤ a2.toInt ∧ a2.toInt < 4611686018427387904) (h : ∀ (v : Int64), (v.toInt = ((Nat.gcd a0.toInt.toNat a2.toInt.toNat : Nat) : Int)) → Q v κ) : zRun C 0 mCh_commonLong [.long a0, .long a2] κ (oJ Q noX) := by
  refine Ch_commonLong_run W  ?_
  replace W := W.lo (Nat.le_trans W.1.2.1 W.1.2.2) (Nat.le_refl (zn κ))
  unfold w_Ch_commonLong_0
  have z64 : (0 : Int64).toInt = 0 := rfl
  have t200 : (200 : Int32).toInt = 200 := rfl
  have AB : a0.toInt.toNat * a2.toInt.toNat < 2 ^ 124 := by
    have := Nat.mul_le_mul (show a0.toInt.toNat ≤ 4611686018427387903 by omega) (show a2.toInt.toNat ≤ 4611686018427387903 by omega)
    omega
  have fin : ∀ (x y : Int64) (n : Nat), gcNn a0.toInt.toNat a2.toInt.toNat x.toInt.toNat y.toInt.toNat n → 0 ≤ x.toInt → y.toInt.toNat = 0 → x.toInt = ((Nat.gcd a0.toInt.toNat a2.toInt.toNat : Nat) : Int) := fun x y n h h0 z => by
    rw [← h.1, z, Nat.gcd_zero_right]
    omega
  unfold w_Ch_commonLong_9
  refine ⟨fun n l4 l6 l8 τ => n = (200 - l8.toInt).toNat ∧ (κ = τ ∧ (0 ≤ l8.toInt ∧ l8.toInt ≤ 200) ∧ (0 ≤ l4.toInt ∧ 0 ≤ l6.toInt) ∧ gcNn a0.toInt.toNat a2.toInt.toNat l4.toInt.toNat l6.toInt.toNat l8.toInt.toNat), ⟨_, rfl, ?_⟩, ?_⟩
  · exact ⟨rfl, ⟨by decide, by decide⟩, ⟨hp.1.1, hp.2.1⟩, rfl, Or.inl ⟨rfl, rfl, rfl⟩⟩  -- j1
  rintro n9 x9_4 x9_6 x9_8 _ W9  ⟨hn9, rfl, i9⟩
  obtain ⟨k9, c9, J9⟩ := i9
  refine ⟨fun c1 => ?_, fun c1 => ?_⟩
  · skip
    refine h _ ?_
    · rw [lei, t200] at c1
      refine fin _ _ _ J9 c9.1 (Nat.eq_zero_of_not_pos (fun z => ?_))
      have := gcNn_b J9 z AB
      omega
  · skip
    refine ⟨fun c2 => ?_, fun c2 => ?_⟩
    · skip
      refine h _ ?_
      · have e : x9_6.toInt = 0 := by rw [(lg_cmp_eq _ _).mp c2]; rfl
        exact fin _ _ _ J9 c9.1 (by omega)
    · skip
      have nz : x9_6.toInt ≠ 0 := fun y => c2 ((lg_cmp_eq _ _).mpr (Int64.toInt_inj.mp (y.trans z64.symm)))
      rw [lei, t200] at c1
      refine ⟨?_, ?_⟩
      · exact j_n0 (by omega)  -- b4
      intro x3 hx3
      intro x4 hx4
      refine ⟨_, ?_, rfl, ?_⟩
      · have e : x4.toInt = x9_8.toInt + 1 := by rw [hx4, add_i (by rw [t1i]; omega) (by rw [t1i]; omega), t1i]
        rw [hn9]; omega
      · have e : x4.toInt = x9_8.toInt + 1 := by rw [hx4, add_i (by rw [t1i]; omega) (by rw [t1i]; omega), t1i]
        have m := jmod_i (x := x9_4) (y := x9_6) c9.1 (by omega)
        rw [← hx3] at m
        have s := gcNn_s J9 (by omega)
        have e3 : x3.toInt = ((x9_4.toInt.toNat % x9_6.toInt.toNat : Nat) : Int) := by
          rw [m, Int.natCast_emod]
          congr 1 <;> omega
        have e4 : x3.toInt.toNat = x9_4.toInt.toNat % x9_6.toInt.toNat := by rw [e3]; exact Int.toNat_natCast _
        have e5 : x4.toInt.toNat = x9_8.toInt.toNat + 1 := by omega
        exact ⟨rfl, by omega, ⟨c9.2, by rw [e3]; exact Int.natCast_nonneg _⟩, by rw [e4, e5]; exact s⟩

theorem imod_i {x y : Int32} (h0 : 0 ≤ x.toInt) (hy : 0 < y.toInt) : (x - x / y * y).toInt = x.toInt % y.toInt := by
  have d := div_i h0 hy
  have m : x.toInt / y.toInt * y.toInt ≤ x.toInt := Int.ediv_mul_le _ (by omega)
  have p : 0 ≤ x.toInt / y.toInt * y.toInt := Int.mul_nonneg (Int.ediv_nonneg h0 (by omega)) (by omega)
  have l := ihi x
  have e : (x / y * y).toInt = x.toInt / y.toInt * y.toInt := by rw [mul_i (by rw [d]; omega) (by rw [d]; omega), d]
  rw [sub_i (by rw [e]; omega) (by rw [e]; omega), e, Int.emod_def, Int.mul_comm]
theorem Ch_commonInt_c {C : zC} {n0 : Nat} {a0 : Int32} {a1 : Int32} {κ : zS} {Q : Int32 → zS → Prop} (W : zW C n0 κ)   (hp : 0 ≤ a0.toInt ∧ 0 ≤ a1.toInt) (h : ∀ (v : Int32), (1 ≤ v.toInt ∧ (v.toInt.toNat = Nat.gcd a0.toInt.toNat a1.toInt.toNat ∨ (a0.toInt = 0 ∧ a1.toInt = 0 ∧ v.toInt = 1))) → Q v κ) : zRun C 1 mCh_commonInt [.int a0, .int a1] κ (oI Q noX) := by
  refine Ch_commonInt_run W  ?_
  replace W := W.lo (Nat.le_trans W.1.2.1 W.1.2.2) (Nat.le_refl (zn κ))
  unfold w_Ch_commonInt_0
  have t100 : (100 : Int32).toInt = 100 := rfl
  have AB : a0.toInt.toNat * a1.toInt.toNat < 2 ^ 62 := by
    have h1 := ihi a0
    have h2 := ihi a1
    have := Nat.mul_le_mul (show a0.toInt.toNat ≤ 2147483647 by omega) (show a1.toInt.toNat ≤ 2147483647 by omega)
    omega
  have fin : ∀ (x y : Int32) (n : Nat), gcNn a0.toInt.toNat a1.toInt.toNat x.toInt.toNat y.toInt.toNat n → 0 ≤ x.toInt → y.toInt.toNat = 0 → 1 ≤ (if x < (1 : Int32) then (1 : Int32) else x).toInt ∧ ((if x < (1 : Int32) then (1 : Int32) else x).toInt.toNat = Nat.gcd a0.toInt.toNat a1.toInt.toNat ∨ (a0.toInt = 0 ∧ a1.toInt = 0 ∧ (if x < (1 : Int32) then (1 : Int32) else x).toInt = 1)) := fun x y n h h0 z => by
    have g := h.1
    rw [z, Nat.gcd_zero_right] at g
    by_cases s : x < 1
    · rw [if_pos s]
      rw [lti, t1i] at s
      have xz : x.toInt.toNat = 0 := by omega
      rw [xz] at g
      have q := Nat.gcd_eq_zero_iff.mp g.symm
      exact ⟨by decide, Or.inr ⟨by omega, by omega, rfl⟩⟩
    · rw [if_neg s]
      rw [lti, t1i] at s
      exact ⟨by omega, Or.inl g⟩
  unfold w_Ch_commonInt_7
  refine ⟨fun n l2 l3 l4 τ => n = (100 - l4.toInt).toNat ∧ (κ = τ ∧ (0 ≤ l4.toInt ∧ l4.toInt ≤ 100) ∧ (0 ≤ l2.toInt ∧ 0 ≤ l3.toInt) ∧ gcNn a0.toInt.toNat a1.toInt.toNat l2.toInt.toNat l3.toInt.toNat l4.toInt.toNat), ⟨_, rfl, ?_⟩, ?_⟩
  · exact ⟨rfl, ⟨by decide, by decide⟩, ⟨hp.1, hp.2⟩, rfl, Or.inl ⟨rfl, rfl, rfl⟩⟩  -- j1
  rintro n7 x7_2 x7_3 x7_4 _ W7  ⟨hn7, rfl, i7⟩
  obtain ⟨k9, c9, J9⟩ := i7
  refine ⟨fun c1 => ?_, fun c1 => ?_⟩
  · skip
    refine h _ ?_
    · rw [lei, t100] at c1
      refine fin _ _ _ J9 c9.1 (Nat.eq_zero_of_not_pos (fun z => ?_))
      have := gcNn_b J9 z AB
      omega
  · skip
    refine ⟨fun c2 => ?_, fun c2 => ?_⟩
    · skip
      refine h _ ?_
      · have e : x7_3.toInt = 0 := by rw [c2]; rfl
        exact fin _ _ _ J9 c9.1 (by omega)
    · skip
      have nz : x7_3.toInt ≠ 0 := fun y => c2 (Int32.toInt_inj.mp (y.trans t0i.symm))
      rw [lei, t100] at c1
      refine ⟨?_, ?_⟩
      · exact c2  -- b4
      intro x3 hx3
      intro x4 hx4
      refine ⟨_, ?_, rfl, ?_⟩
      · have e : x4.toInt = x7_4.toInt + 1 := by rw [hx4, add_i (by rw [t1i]; omega) (by rw [t1i]; omega), t1i]
        rw [hn7]; omega
      · have e : x4.toInt = x7_4.toInt + 1 := by rw [hx4, add_i (by rw [t1i]; omega) (by rw [t1i]; omega), t1i]
        have m := imod_i (x := x7_2) (y := x7_3) c9.1 (by omega)
        rw [← hx3] at m
        have s := gcNn_s J9 (by omega)
        have e3 : x3.toInt = ((x7_2.toInt.toNat % x7_3.toInt.toNat : Nat) : Int) := by
          rw [m, Int.natCast_emod]
          congr 1 <;> omega
        have e4 : x3.toInt.toNat = x7_2.toInt.toNat % x7_3.toInt.toNat := by rw [e3]; exact Int.toNat_natCast _
        have e5 : x4.toInt.toNat = x7_4.toInt.toNat + 1 := by omega
        exact ⟨rfl, by omega, ⟨c9.2, by rw [e3]; exact Int.natCast_nonneg _⟩, by rw [e4, e5]; exact s⟩

end
section
set_option maxHeartbeats 1600000
/-! the class: Calc's common -/
/-- the numbers that a Calc works with -/
def caS (κ : zS) (a : Nat) : Nat → Prop := fun b => b = zR κ caQuotient a ∨ b = zR κ caRest a ∨ b = zR κ caDivisor a ∨ b = zR κ caX a ∨ b = zR κ caY a
def caF (P : Nat → Prop) (a : Nat) : Nat → Nat → Prop := fun f b => (P b ∧ (f = nuLimbs ∨ f = nuLength)) ∨ (b = a ∧ (f = caRest ∨ f = caX ∨ f = caY ∨ f = caFactors))
def caN (κ : zS) (a : Nat) : Prop := (zR κ caQuotient a ≠ zR κ caRest a ∧ zR κ caQuotient a ≠ zR κ caDivisor a ∧ zR κ caRest a ≠ zR κ caDivisor a) ∧ (zR κ caX a ≠ zR κ caQuotient a ∧ zR κ caX a ≠ zR κ caRest a ∧ zR κ caX a ≠ zR κ caDivisor a) ∧ (zR κ caY a ≠ zR κ caQuotient a ∧ zR κ caY a ≠ zR κ caRest a ∧ zR κ caY a ≠ zR κ caDivisor a) ∧ zR κ caX a ≠ zR κ caY a
def caK (κ : zS) (a c : Nat) : Prop := (nuC κ (zR κ caQuotient a) c ∧ nuC κ (zR κ caRest a) c ∧ nuC κ (zR κ caDivisor a) c ∧ nuC κ (zR κ caX a) c ∧ nuC κ (zR κ caY a) c) ∧ (zN κ (zR κ caFactors a)) = 4
def caI (κ : zS) (a c : Nat) : Prop := caN κ a ∧ caK κ a c
theorem ca_ref {P : Nat → Prop} {κ τ : zS} {a : Nat} (Z : zF (nuFp P) κ τ) : zR τ caQuotient a = zR κ caQuotient a ∧ zR τ caRest a = zR κ caRest a ∧ zR τ caDivisor a = zR κ caDivisor a ∧ zR τ caX a = zR κ caX a ∧ zR τ caY a = zR κ caY a ∧ zR τ caFactors a = zR κ caFactors a := ⟨nuFp_r Z (by decide) (by decide), nuFp_r Z (by decide) (by decide), nuFp_r Z (by decide) (by decide), nuFp_r Z (by decide) (by decide), nuFp_r Z (by decide) (by decide), nuFp_r Z (by decide) (by decide)⟩
theorem caF_n {P P' : Nat → Prop} {κ τ : zS} {a : Nat} (Z : zF (nuFp P) κ τ) (h : ∀ b, P b → P' b) : zF (caF P' a) κ τ := Z.mono (fun f b z => Or.inl ⟨h b z.1, z.2⟩)
theorem nu_same {κ τ : zS} {z c : Nat} (hR : zR τ nuLimbs z = zR κ nuLimbs z) (hI : zI τ = zI κ) (hA : zA τ = zA κ) (hN : zN τ = zN κ) : (nuI κ z c → nuI τ z c) ∧ nuN τ z = nuN κ z ∧ (nuC κ z c → nuC τ z c) := by
  refine ⟨fun h => ?_, ?_, fun h => ?_⟩
  · unfold nuI nuB nuZ
    rw [hR, hI, hA, hN]
    exact h
  · unfold nuN
    rw [hR, hI, hA]
  · unfold nuC
    rw [hR, hN]
    exact h
/-- x, y and the rest change places -/
theorem ca_sw {κ κ1 κ2 κ3 : zS} {a x : Nat} (hx : x = zR κ caX a) (e1 : κ1 = ur κ caX a (zR κ caY a)) (e2 : κ2 = ur κ1 caY a (zR κ1 caRest a)) (e3 : κ3 = ur κ2 caRest a x) : (zR κ3 caX a = zR κ caY a ∧ zR κ3 caY a = zR κ caRest a ∧ zR κ3 caRest a = zR κ caX a) ∧ (∀ f b, f ≠ caX → f ≠ caY → f ≠ caRest → zR κ3 f b = zR κ f b) ∧ (zI κ3 = zI κ ∧ zA κ3 = zA κ ∧ zN κ3 = zN κ) ∧ ∀ P : Nat → Prop, zF (caF P a) κ κ3 := by
  have r1 : ∀ f b, zR κ1 f b = if f = caX ∧ b = a then zR κ caY a else zR κ f b := fun f b => by rw [e1]; rfl
  have r2 : ∀ f b, zR κ2 f b = if f = caY ∧ b = a then zR κ1 caRest a else zR κ1 f b := fun f b => by rw [e2]; rfl
  have r3 : ∀ f b, zR κ3 f b = if f = caRest ∧ b = a then x else zR κ2 f b := fun f b => by rw [e3]; rfl
  refine ⟨⟨?_, ?_, ?_⟩, fun f b h1 h2 h3 => ?_, ⟨by rw [e3, e2, e1]; rfl, by rw [e3, e2, e1]; rfl, by rw [e3, e2, e1]; rfl⟩, fun P => ?_⟩
  · rw [r3, if_neg (fun z => absurd z.1 (by decide)), r2, if_neg (fun z => absurd z.1 (by decide)), r1, if_pos ⟨rfl, rfl⟩]
  · rw [r3, if_neg (fun z => absurd z.1 (by decide)), r2, if_pos ⟨rfl, rfl⟩, r1, if_neg (fun z => absurd z.1 (by decide))]
  · rw [r3, if_pos ⟨rfl, rfl⟩, hx]
  · rw [r3, if_neg (fun z => h3 z.1), r2, if_neg (fun z => h2 z.1), r1, if_neg (fun z => h1 z.1)]
  · have z1 : zF (caF P a) κ κ1 := by rw [e1]; exact zF_ur (Or.inr ⟨rfl, Or.inr (Or.inl rfl)⟩) (show zr caX = some 8 by decide +kernel) (by decide)
    have z2 : zF (caF P a) κ1 κ2 := by rw [e2]; exact zF_ur (Or.inr ⟨rfl, Or.inr (Or.inr (Or.inl rfl))⟩) (show zr caY = some 8 by decide +kernel) (by decide)
    have z3 : zF (caF P a) κ2 κ3 := by rw [e3]; exact zF_ur (Or.inr ⟨rfl, Or.inl rfl⟩) (show zr caRest = some 8 by decide +kernel) (by decide)
    exact (z1.tr z2).tr z3
/-- a search for a common divisor on its way -/
def cmI (κ τ : zS) (a c m A B n : Nat) : Prop := (zF (caF (caS κ a) a) κ τ ∧ caI τ a c ∧ ∀ b, caS τ a b → caS κ a b) ∧ (nuI τ (zR τ caX a) c ∧ nuI τ (zR τ caY a) c) ∧ (nuN τ (zR τ caY a) ≤ nuN τ (zR τ caX a) ∧ nuN τ (zR τ caX a) < 2147483648 ^ m) ∧ Nat.gcd (nuN τ (zR τ caX a)) (nuN τ (zR τ caY a)) = Nat.gcd A B ∧ nuN τ (zR τ caX a) * nuN τ (zR τ caY a) * 2 ^ n ≤ A * B
theorem cm_n {x y x' y' n M : Nat} (h : x * y * 2 ^ n ≤ M) (g : 2 * (x' * y') ≤ x * y) : x' * y' * 2 ^ (n + 1) ≤ M := by
  have m := Nat.mul_le_mul_right (2 ^ n) g
  rw [Nat.pow_succ, Nat.mul_comm (2 ^ n) 2, ← Nat.mul_assoc, Nat.mul_comm (x' * y') 2]
  omega
theorem cm_div {C : zC} {n0 a c m A B n x : Nat} {κ τ σ κ1 κ2 ρ : zS} (W : zW C n0 τ) (Ta : zT τ a = 4) (h : cmI κ τ a c m A B n) (hy : 0 < nuN τ (zR τ caY a)) (D : dvO τ σ (zR τ caQuotient a) (zR τ caRest a) (zR τ caDivisor a) (nuN τ (zR τ caX a)) (nuN τ (zR τ caY a)) c) (hx : x = zR σ caX a) (e1 : κ1 = ur σ caX a (zR σ caY a)) (e2 : κ2 = ur κ1 caY a (zR κ1 caRest a)) (e3 : ρ = ur κ2 caRest a x) : cmI κ ρ a c m A B (n + 1) := by
  obtain ⟨⟨Z, ⟨⟨⟨n1, n2, n3⟩, ⟨n4, n5, n6⟩, ⟨n7, n8, n9⟩, na⟩, ⟨⟨k1, k2, k3, k4, k5⟩, k6⟩⟩, S⟩, ⟨IX, IY⟩, ⟨o1, o2⟩, G, P⟩ := h
  obtain ⟨DZ, ⟨DQ, DV⟩, ⟨DR, DW⟩, DC⟩ := D
  obtain ⟨rq, rr, rd, rx, ry, rf⟩ := ca_ref (a := a) DZ
  obtain ⟨⟨s1, s2, s3⟩, s4, ⟨sI, sA, sN⟩, s6⟩ := ca_sw hx e1 e2 e3
  have Tx := ty_caX W Ta
  have Ty := ty_caY W Ta
  have bx := nuFp_B (c := c) W Tx DZ (oo3_n n4 n5 n6)
  have cx := nuFp_C W Tx DZ (oo3_n n4 n5 n6) k4
  have by' := nuFp_B (c := c) W Ty DZ (oo3_n n7 n8 n9)
  have cy := nuFp_C W Ty DZ (oo3_n n7 n8 n9) k5
  have lim : ∀ z, zR ρ nuLimbs z = zR σ nuLimbs z := fun z => s4 _ _ (by decide) (by decide) (by decide)
  have sm : ∀ z, (nuI σ z c → nuI ρ z c) ∧ nuN ρ z = nuN σ z ∧ (nuC σ z c → nuC ρ z c) := fun z => nu_same (lim z) sI sA sN
  have eq : zR ρ caQuotient a = zR τ caQuotient a := (s4 _ _ (by decide) (by decide) (by decide)).trans rq
  have ed : zR ρ caDivisor a = zR τ caDivisor a := (s4 _ _ (by decide) (by decide) (by decide)).trans rd
  have ef : zR ρ caFactors a = zR τ caFactors a := (s4 _ _ (by decide) (by decide) (by decide)).trans rf
  rw [ry] at s1
  rw [rr] at s2
  rw [rx] at s3
  have eN : zN ρ (zR τ caFactors a) = zN τ (zR τ caFactors a) := by rw [sN]; exact DZ.l (ty_caFactors W Ta)
  have eu := eu_m hy o1
  have sub : ∀ b, caS ρ a b → caS τ a b := fun b z => by
    unfold caS at z ⊢
    rw [eq, ed, s1, s2, s3] at z
    rcases z with z | z | z | z | z
    · exact Or.inl z
    · exact Or.inr (Or.inr (Or.inr (Or.inl z)))
    · exact Or.inr (Or.inr (Or.inl z))
    · exact Or.inr (Or.inr (Or.inr (Or.inr z)))
    · exact Or.inr (Or.inl z)
  have mem : ∀ b, oo3 (zR τ caQuotient a) (zR τ caRest a) (zR τ caDivisor a) b → caS κ a b := fun b z => S b ((show b = _ ∨ b = _ ∨ b = _ from z).elim Or.inl (fun z => z.elim (fun y => Or.inr (Or.inl y)) (fun y => Or.inr (Or.inr (Or.inl y)))))
  refine ⟨⟨(Z.tr (caF_n DZ mem)).tr (s6 _), ⟨?_, ?_⟩, fun b z => S b (sub b z)⟩, ?_, ?_, ?_, ?_⟩
  · unfold caN
    rw [eq, ed, s1, s2, s3]
    exact ⟨⟨n4.symm, n2, n6⟩, ⟨n7, na.symm, n9⟩, ⟨n1.symm, n5.symm, n3⟩, n8⟩
  · unfold caK
    rw [eq, ed, s1, s2, s3, ef, eN]
    exact ⟨⟨(sm _).2.2 DQ.1.2.1, (sm _).2.2 cx, (sm _).2.2 DC, (sm _).2.2 cy, (sm _).2.2 DR.1.2.1⟩, k6⟩
  · rw [s1, s2]
    exact ⟨(sm _).1 (by'.2.1 IY), (sm _).1 DR⟩
  · rw [s1, s2, (sm _).2.1, (sm _).2.1, DW, by'.2.2.1]
    exact ⟨Nat.le_of_lt (Nat.mod_lt _ hy), Nat.lt_of_le_of_lt o1 o2⟩
  · rw [s1, s2, (sm _).2.1, (sm _).2.1, DW, by'.2.2.1, eu.1]
    exact G
  · rw [s1, s2, (sm _).2.1, (sm _).2.1, DW, by'.2.2.1]
    exact cm_n P eu.2
theorem cm_lp {κ τ σ : zS} {a c m A B n : Nat} (h : cmI κ τ a c m A B n) (Z1 : zF (oneF caFactors a) τ σ) (hR : zR σ = zR τ) (hI : zI σ = zI τ) (hN : zN σ = zN τ) (hA : zA σ = zA τ) : cmI κ σ a c m A B n := by
  obtain ⟨⟨Z, ⟨N, K⟩, S⟩, I, o, G, P⟩ := h
  have sm : ∀ z, (nuI τ z c → nuI σ z c) ∧ nuN σ z = nuN τ z ∧ (nuC τ z c → nuC σ z c) := fun z => nu_same (by rw [hR]) hI hA hN
  refine ⟨⟨Z.tr (Z1.mono (fun f b z => Or.inr ⟨z.2, Or.inr (Or.inr (Or.inr z.1))⟩)), ⟨?_, ?_⟩, ?_⟩, ?_, ?_, ?_, ?_⟩
  · unfold caN
    rw [hR]
    exact N
  · unfold caK nuC
    rw [hR, hN]
    exact K
  · unfold caS
    rw [hR]
    exact S
  · rw [hR]
    exact ⟨(sm _).1 I.1, (sm _).1 I.2⟩
  · rw [hR, (sm _).2.1, (sm _).2.1]
    exact o
  · rw [hR, (sm _).2.1, (sm _).2.1]
    exact G
  · rw [hR, (sm _).2.1, (sm _).2.1]
    exact P
theorem cm_bl {C : zC} {n0 a c m A B n : Nat} {κ τ ρ : zS} {a1 b1 c1 d1 : Int} (W : zW C n0 τ) (Ta : zT τ a = 4) (h : cmI κ τ a c m A B n) (V : lpV (nuN τ (zR τ caX a)) (nuN τ (zR τ caY a)) a1 b1 c1 d1) (hb : b1 ≠ 0) (Z1 : zF (nuFp (oo2 (zR τ caX a) (zR τ caY a))) τ ρ) (J1 : nuI ρ (zR τ caX a) c) (J2 : nuI ρ (zR τ caY a) c) (v1 : (nuN ρ (zR τ caX a) : Int) = a1 * nuN τ (zR τ caX a) + b1 * nuN τ (zR τ caY a)) (v2 : (nuN ρ (zR τ caY a) : Int) = c1 * nuN τ (zR τ caX a) + d1 * nuN τ (zR τ caY a)) : cmI κ ρ a c m A B (n + 1) := by
  obtain ⟨⟨Z, ⟨⟨⟨n1, n2, n3⟩, ⟨n4, n5, n6⟩, ⟨n7, n8, n9⟩, na⟩, ⟨⟨k1, k2, k3, k4, k5⟩, k6⟩⟩, S⟩, ⟨IX, IY⟩, ⟨o1, o2⟩, G, P⟩ := h
  obtain ⟨rq, rr, rd, rx, ry, rf⟩ := ca_ref (a := a) Z1
  have Tq := ty_caQuotient W Ta
  have Tr := ty_caRest W Ta
  have Td := ty_caDivisor W Ta
  have cq := nuFp_C W Tq Z1 (oo2_n n4.symm n7.symm) k1
  have cr := nuFp_C W Tr Z1 (oo2_n n5.symm n8.symm) k2
  have cd := nuFp_C W Td Z1 (oo2_n n6.symm n9.symm) k3
  obtain ⟨x, y, hx, hy, w1, w2, w3, w4⟩ := V
  have ex : nuN ρ (zR τ caX a) = x := Int.ofNat.inj (v1.trans hx.symm)
  have ey : nuN ρ (zR τ caY a) = y := Int.ofNat.inj (v2.trans hy.symm)
  have w5 : 2 * (x * y) ≤ nuN τ (zR τ caX a) * nuN τ (zR τ caY a) := by
    rcases w4 with w | w
    · exact absurd w.1 hb
    · exact w
  have eN : zN ρ (zR τ caFactors a) = zN τ (zR τ caFactors a) := Z1.l (ty_caFactors W Ta)
  have mem : ∀ b, oo2 (zR τ caX a) (zR τ caY a) b → caS κ a b := fun b z => S b ((show b = _ ∨ b = _ from z).elim (fun y => Or.inr (Or.inr (Or.inr (Or.inl y)))) (fun y => Or.inr (Or.inr (Or.inr (Or.inr y)))))
  refine ⟨⟨Z.tr (caF_n Z1 mem), ⟨?_, ?_⟩, ?_⟩, ?_, ?_, ?_, ?_⟩
  · unfold caN
    rw [rq, rr, rd, rx, ry]
    exact ⟨⟨n1, n2, n3⟩, ⟨n4, n5, n6⟩, ⟨n7, n8, n9⟩, na⟩
  · unfold caK
    rw [rq, rr, rd, rx, ry, rf, eN]
    exact ⟨⟨cq, cr, cd, J1.1.2.1, J2.1.2.1⟩, k6⟩
  · unfold caS
    rw [rq, rr, rd, rx, ry]
    exact S
  · rw [rx, ry]
    exact ⟨J1, J2⟩
  · rw [rx, ry, ex, ey]
    exact ⟨w1, Nat.lt_of_le_of_lt w3 o2⟩
  · rw [rx, ry, ex, ey, w2]
    exact G
  · rw [rx, ry, ex, ey]
    exact cm_n P w5
theorem cm_end {κ τ : zS} {a c m A B n : Nat} (h : cmI κ τ a c m A B n) (hA : A < 2147483648 ^ m) (hB : B < 2147483648 ^ m) (hm : m ≤ 16000) (hn : 1000000 ≤ n) : nuN τ (zR τ caY a) = 0 := by
  obtain ⟨_, _, ⟨o1, o2⟩, _, P⟩ := h
  refine Nat.eq_zero_of_not_pos (fun z => ?_)
  have p : 1 ≤ nuN τ (zR τ caX a) * nuN τ (zR τ caY a) := Nat.mul_pos (Nat.lt_of_lt_of_le z o1) z
  have q := Nat.mul_le_mul_right (2 ^ n) p
  rw [Nat.one_mul] at q
  have r := Nat.mul_le_mul (Nat.le_of_lt hA) (Nat.le_of_lt hB)
  rw [p31_2, ← Nat.pow_add] at r
  have s : 2 ^ n ≤ 2 ^ (31 * m + 31 * m) := Nat.le_trans q (Nat.le_trans P r)
  have := (Nat.pow_le_pow_iff_right (by decide : 1 < 2)).mp s
  omega

end
section
set_option maxHeartbeats 1600000
/-! the class: Calc's common, its contract -/
theorem cm_p {κ τ : zS} {a c m A B n : Nat} (h : cmI κ τ a c m A B n) (hc : m + 1 + (m + 1) / 2 + 2 ≤ c) (hl : c ≤ 30000000) : ((nuC τ (zR τ caQuotient a) c ∧ nuC τ (zR τ caRest a) c ∧ nuC τ (zR τ caDivisor a) c) ∧ (nuI τ (zR τ caX a) 30000000 ∧ nuI τ (zR τ caY a) 30000000) ∧ (zR τ caQuotient a ≠ zR τ caRest a ∧ zR τ caQuotient a ≠ zR τ caDivisor a ∧ zR τ caRest a ≠ zR τ caDivisor a) ∧ (zR τ caX a ≠ zR τ caQuotient a ∧ zR τ caX a ≠ zR τ caRest a ∧ zR τ caX a ≠ zR τ caDivisor a) ∧ (zR τ caY a ≠ zR τ caQuotient a ∧ zR τ caY a ≠ zR τ caRest a ∧ zR τ caY a ≠ zR τ caDivisor a) ∧ nuK τ (zR τ caX a) + 1 + (nuK τ (zR τ caX a) + 1) / 2 + 2 ≤ c ∧ c ≤ 30000000) ∧ nuK τ (zR τ caX a) ≤ m := by
  obtain ⟨⟨Z, ⟨N, K⟩, S⟩, ⟨I1, I2⟩, ⟨o1, o2⟩, G, P⟩ := h
  have k := nuK_lt I1 o2
  exact ⟨⟨⟨K.1.1, K.1.2.1, K.1.2.2.1⟩, ⟨nuI_mono hl I1, nuI_mono hl I2⟩, N.1, N.2.1, N.2.2.1, by omega, hl⟩, k⟩
theorem Ca_common_c {C : zC} {n0 : Nat} {a0 : Nat} {a1 : Nat} {a2 : Nat} {κ : zS} {Q : zS → Prop} (W : zW C n0 κ) (Ta0 : zT κ a0 = 4) (Ta1 : zT κ a1 = 8) (Ta2 : zT κ a2 = 8) (c9 m9 : Nat) (hp : (nuI κ a1 30000000 ∧ nuI κ a2 30000000) ∧ caI κ a0 c9 ∧ (a1 ≠ (zR κ caX a0) ∧ a1 ≠ (zR κ caY a0) ∧ a2 ≠ (zR κ caX a0) ∧ a2 ≠ (zR κ caY a0)) ∧ (nuN κ a1 < 2147483648 ^ m9 ∧ nuN κ a2 < 2147483648 ^ m9) ∧ m9 + 1 + (m9 + 1) / 2 + 2 ≤ c9 ∧ c9 ≤ 30000000 ∧ m9 ≤ 16000) (h : ∀ (κ' : zS), (zF (caF (caS κ a0) a0) κ κ' ∧ caI κ' a0 c9 ∧ (∀ b, caS κ' a0 b → caS κ a0 b) ∧ nuI κ' (zR κ' caX a0) c9 ∧ nuN κ' (zR κ' caX a0) = Nat.gcd (nuN κ a1) (nuN κ a2)) → Q κ') : zRun C 4 mCa_common [.ref a0, .ref a1, .ref a2] κ (oV Q noX) := by
  refine Ca_common_run W Ta0 Ta1 Ta2 ?_
  replace W := W.lo (Nat.le_trans W.1.2.1 W.1.2.2) (Nat.le_refl (zn κ))
  unfold w_Ca_common_0
  obtain ⟨⟨I1, I2⟩, CI, ⟨n1x, n1y, n2x, n2y⟩, ⟨h1, h2⟩, p1, p2, p3⟩ := hp
  have Tx := ty_caX W Ta0
  have Ty := ty_caY W Ta0
  have t2 : (2 : Int32).toInt = 2 := rfl
  have tM : (1000000 : Int32).toInt = 1000000 := rfl
  have nxy : (zR κ caX a0) ≠ (zR κ caY a0) := CI.1.2.2.2
  have hj172 : ∀ (l0 : Nat) (τ : zS), zW C (zn κ) τ → zT τ l0 = 4 → (a0 = l0 ∧ ∃ n, cmI κ τ a0 c9 m9 (nuN κ a1) (nuN κ a2) n ∧ (nuN τ (zR τ caY a0) = 0 ∨ nuK τ (zR τ caX a0) ≤ 2)) → w_Ca_common_172 C (zn κ) Q  l0 τ := by
    rintro _ τ172 W172 T172_0 ⟨rfl, j172⟩
    unfold w_Ca_common_172
    refine ⟨fun c1 => ?_, fun c1 => ?_⟩
    · skip
      refine h _ ?_
      · obtain ⟨n, J, z⟩ := j172
        have kx := nuK_i J.2.1.1.1
        rw [lti, t2] at c1
        have yz : nuN τ172 (zR τ172 caY a0) = 0 := by
          rcases z with z | z
          · exact z
          · omega
        refine ⟨J.1.1, J.1.2.1, J.1.2.2, J.2.1.1, ?_⟩
        have g := J.2.2.2.1
        rw [yz, Nat.gcd_zero_right] at g
        exact g
    · skip
      intro T2
      skip
      refine Nu_small_c W172 T2 30000000 ?_ (fun r3 q5 => ?_)
      · obtain ⟨n, J, z⟩ := j172
        exact nuB_mono p2 J.2.1.1.1
      intro W6
      intro M7
      intro T8
      refine Nu_small_c W6 T8 30000000 ?_ (fun r9 q11 => ?_)
      · obtain ⟨n, J, z⟩ := j172
        exact nuB_mono p2 J.2.1.2.1
      intro W12
      intro M13
      obtain ⟨n, J, z⟩ := j172
      have kx := nuK_i J.2.1.1.1
      rw [lti, t2] at c1
      have k2x : nuK τ172 (zR τ172 caX a0) ≤ 2 := by omega
      have k2y : nuK τ172 (zR τ172 caY a0) ≤ 2 := Nat.le_trans (nuK_le (d := 0) J.2.1.2 J.2.2.1.1) k2x
      have vx := q5.2 k2x
      have vy := q11.2 k2y
      have cpx := J.1.2.1.2.1.2.2.2.1
      refine Ch_commonLong_c W12   ?_ (fun r14 q16 => ?_)
      · exact ⟨q5.1, q11.1⟩  -- p4
      intro W17
      intro M18
      intro T19
      have gx : Nat.gcd r3.toInt.toNat r9.toInt.toNat = Nat.gcd (nuN κ a1) (nuN κ a2) := by
        rw [vx, vy, Int.toNat_natCast, Int.toNat_natCast]
        exact J.2.2.2.1
      rw [gx] at q16
      have gl : Nat.gcd (nuN κ a1) (nuN κ a2) < 4611686018427387904 := by
        have g1 := J.2.2.2.1
        by_cases z9 : nuN τ172 (zR τ172 caX a0) = 0
        · have z8 : nuN τ172 (zR τ172 caY a0) = 0 := by
            have := J.2.2.1.1
            omega
          rw [z9, z8] at g1
          rw [← g1]
          decide
        · have l1 := Nat.le_of_dvd (Nat.pos_of_ne_zero z9) (Nat.gcd_dvd_left (nuN τ172 (zR τ172 caX a0)) (nuN τ172 (zR τ172 caY a0)))
          rw [g1] at l1
          have := q5.1.2
          omega
      refine Nu_put_c W17 T19 c9 ?_ (fun κ_20 q21 => ?_)
      · refine ⟨⟨?_, ?_⟩, cpx⟩
        · rw [q16]; exact Int.natCast_nonneg _
        · rw [q16]; omega
      intro W22
      intro M23
      refine h _ ?_
      · obtain ⟨F, ⟨R, N⟩, IX, VX⟩ := q21
        obtain ⟨⟨Z, ⟨NN, KK⟩, S⟩, I, o, G, P⟩ := J
        have rx : zR κ_20 caX a0 = zR τ172 caX a0 := by rw [R]
        refine ⟨Z.tr (caF_n (nuFp_m (P := fun b => b = zR τ172 caX a0) rfl F) (fun b z => S b (Or.inr (Or.inr (Or.inr (Or.inl z)))))), ⟨?_, ?_⟩, ?_, ?_, ?_⟩
        · unfold caN
          rw [R]
          exact NN
        · unfold caK nuC
          rw [R, N]
          exact KK
        · unfold caS
          rw [R]
          exact S
        · rw [rx]
          exact IX
        · rw [rx, VX, q16]
          exact Int.toNat_natCast _
  have hj43 : ∀ (l0 : Nat) (s0 : Nat) (s1 : Nat) (τ : zS), zW C (zn κ) τ → zT τ l0 = 4 → zT τ s0 = 8 → zT τ s1 = 8 → (a0 = l0 ∧ zF (nuF (zR κ caX a0)) κ τ ∧ nuI τ (zR κ caX a0) c9 ∧ s0 = (zR κ caY a0) ∧ (s1 = a1 ∧ nuN τ (zR κ caX a0) = nuN κ a2 ∧ nuN κ a1 ≤ nuN κ a2 ∨ s1 = a2 ∧ nuN τ (zR κ caX a0) = nuN κ a1 ∧ nuN κ a2 ≤ nuN κ a1)) → w_Ca_common_43 C (zn κ) Q  l0 s0 s1 τ := by
    rintro _ y43_s0 y43_s1 τ43 W43 T43_0 T43_1 T43_2 ⟨rfl, j43⟩
    unfold w_Ca_common_43
    intro T24
    intro T25
    obtain ⟨Z43, I43, rfl, s43⟩ := j43
    have uy := nu_z W Ty Z43 (fun z => nxy z.1.symm) (fun z => nxy z.1.symm)
    have cy := CI.2.1.2.2.2.2
    have gen : ∃ A9, (y43_s1 = A9) ∧ (A9 ≠ (zR κ caX a0) ∧ A9 ≠ (zR κ caY a0)) ∧ nuI κ A9 30000000 ∧ zT κ A9 = 8 ∧ nuN κ A9 ≤ nuN τ43 (zR κ caX a0) ∧ nuN τ43 (zR κ caX a0) < 2147483648 ^ m9 ∧ Nat.gcd (nuN τ43 (zR κ caX a0)) (nuN κ A9) = Nat.gcd (nuN κ a1) (nuN κ a2) ∧ nuN τ43 (zR κ caX a0) * nuN κ A9 = nuN κ a1 * nuN κ a2 := by
      rcases s43 with ⟨z1, z2, z3⟩ | ⟨z1, z2, z3⟩
      · exact ⟨a1, z1, ⟨n1x, n1y⟩, I1, Ta1, by rw [z2]; exact z3, by rw [z2]; exact h2, by rw [z2, Nat.gcd_comm], by rw [z2, Nat.mul_comm]⟩
      · exact ⟨a2, z1, ⟨n2x, n2y⟩, I2, Ta2, by rw [z2]; exact z3, by rw [z2]; exact h1, by rw [z2], by rw [z2]⟩
    clear s43
    obtain ⟨A9, rfl, ⟨nAx, nAy⟩, IA, TA, A1, A2, A3, A4⟩ := gen
    have bA := nuB_z (c := 30000000) W TA Z43 (fun z => nAx z.1) (fun z => nAx z.1)
    have kA : nuK κ y43_s1 ≤ m9 := nuK_lt IA (Nat.lt_of_le_of_lt A1 A2)
    refine Nu_copy_c W43 T24 T25 c9 30000000 ?_ (fun κ_26 q27 => ?_)
    · rw [uy.2.1, uy.2.2.2, bA.2.2.2]
      exact ⟨cy, (bA.2.1 IA).1, nAy.symm, by omega, p2⟩
    obtain ⟨F26, B26, V26, K26, Z26⟩ := q27
    have IAy := Z26 (bA.2.1 IA).2
    intro W28
    intro M29
    unfold w_Ca_common_49
    refine ⟨fun n l0 l4 τ => n = (1000000 - l4.toInt).toNat ∧ (a0 = l0 ∧ (0 ≤ l4.toInt ∧ l4.toInt ≤ 1000000) ∧ cmI κ τ a0 c9 m9 (nuN κ a1) (nuN κ a2) l4.toInt.toNat), ⟨_, rfl, ?_⟩, ?_⟩
    · have Zp : zF (nuFp (oo2 (zR κ caX a0) (zR κ caY a0))) κ κ_26 := (nuFp_m (Or.inl rfl) Z43).tr (nuFp_m (Or.inr rfl) F26)
      obtain ⟨rq, rr, rd, rx, ry, rf⟩ := ca_ref (a := a0) Zp
      obtain ⟨⟨⟨m1, m2, m3⟩, ⟨m4, m5, m6⟩, ⟨m7, m8, m9'⟩, ma⟩, ⟨⟨k1, k2, k3, k4, k5⟩, k6⟩⟩ := CI
      have Tq := ty_caQuotient W Ta0
      have Tr := ty_caRest W Ta0
      have Td := ty_caDivisor W Ta0
      have cq := nuFp_C W Tq Zp (oo2_n m4.symm m7.symm) k1
      have cr := nuFp_C W Tr Zp (oo2_n m5.symm m8.symm) k2
      have cd := nuFp_C W Td Zp (oo2_n m6.symm m9'.symm) k3
      have Tx43 : zT τ43 (zR κ caX a0) = 8 := Z43.t Tx (by decide)
      have bx := nuB_z (c := c9) W43 Tx43 F26 (fun z => nxy z.1) (fun z => nxy z.1)
      have eN : zN κ_26 (zR κ caFactors a0) = zN κ (zR κ caFactors a0) := Zp.l (ty_caFactors W Ta0)
      have mem : ∀ b, oo2 (zR κ caX a0) (zR κ caY a0) b → caS κ a0 b := fun b z => (show b = _ ∨ b = _ from z).elim (fun y => Or.inr (Or.inr (Or.inr (Or.inl y)))) (fun y => Or.inr (Or.inr (Or.inr (Or.inr y))))
      have vY : nuN κ_26 (zR κ caY a0) = nuN κ y43_s1 := by rw [V26, bA.2.2.1]
      refine ⟨rfl, ⟨by decide, by decide⟩, ⟨caF_n Zp mem, ⟨?_, ?_⟩, ?_⟩, ?_, ?_, ?_, ?_⟩
      · unfold caN
        rw [rq, rr, rd, rx, ry]
        exact ⟨⟨m1, m2, m3⟩, ⟨m4, m5, m6⟩, ⟨m7, m8, m9'⟩, ma⟩
      · unfold caK
        rw [rq, rr, rd, rx, ry, rf, eN]
        exact ⟨⟨cq, cr, cd, (bx.2.1 I43).1.2.1, B26.2.1⟩, k6⟩
      · unfold caS
        rw [rq, rr, rd, rx, ry]
        exact fun b z => z
      · rw [rx, ry]
        exact ⟨bx.2.1 I43, B26, IAy⟩
      · rw [rx, ry, vY, bx.2.2.1]
        exact ⟨A1, A2⟩
      · rw [rx, ry, vY, bx.2.2.1]
        exact A3
      · rw [rx, ry, vY, bx.2.2.1, A4]
        show _ * 2 ^ 0 ≤ _
        rw [Nat.pow_zero, Nat.mul_one]
        exact Nat.le_refl _
    rintro n49 _ x49_4 κ49 W49 T49_0 ⟨hn49, rfl, i49⟩
    obtain ⟨k49, J49⟩ := i49
    have kx49 := nuK_i J49.2.1.1.1
    have ky49 := nuK_i J49.2.1.2.1
    have ly49 := J49.2.1.2.1.1
    have zy49 := nuK_z J49.2.1.2
    have hj126 : ∀ (l0 : Nat) (l4 : Int32) (τ : zS), zW C (zn κ) τ → zT τ l0 = 4 → (a0 = l0 ∧ x49_4 = l4 ∧ cmI κ τ a0 c9 m9 (nuN κ a1) (nuN κ a2) x49_4.toInt.toNat ∧ 0 < nuN τ (zR τ caY a0) ∧ x49_4.toInt < 1000000) → w_Ca_common_126 C (zn κ) Q (fun (l0' : Nat) (l4' : Int32) (τ : zS) => ∃ k < n49, (fun (n : Nat) (l0 : Nat) (l4 : Int32) (τ : zS) => n = (1000000 - l4.toInt).toNat ∧ (a0 = l0 ∧ (0 ≤ l4.toInt ∧ l4.toInt ≤ 1000000) ∧ cmI κ τ a0 c9 m9 (nuN κ a1) (nuN κ a2) l4.toInt.toNat)) k l0' l4' τ) l0 l4 τ := by
      rintro _ y126_4 τ126 W126 T126_0 ⟨rfl, j126⟩
      unfold w_Ca_common_126
      intro T30
      intro T31
      intro T32
      obtain ⟨rfl, J126, y126, l126⟩ := j126
      refine Ca_divide_c W126 T30 T31 T32 c9 ?_ (fun κ_33 q34 => ?_)
      · exact (cm_p J126 p1 p2).1  -- p9
      intro W35
      intro M36
      intro x37 hx37
      intro κ_38 hκ_38
      intro W39
      intro κ_40 hκ_40
      intro W41
      intro κ_42 hκ_42
      intro W43
      intro x44 hx44
      refine ⟨_, ?_, rfl, ?_⟩
      · have e : x44.toInt = x49_4.toInt + 1 := by rw [hx44, add_i (by rw [t1i]; omega) (by rw [t1i]; omega), t1i]
        rw [hn49]; omega
      · have e : x44.toInt = x49_4.toInt + 1 := by rw [hx44, add_i (by rw [t1i]; omega) (by rw [t1i]; omega), t1i]
        have s := cm_div W126 T126_0 J126 y126 q34 hx37 hκ_38 hκ_40 hκ_42
        have e2 : x44.toInt.toNat = x49_4.toInt.toNat + 1 := by omega
        exact ⟨rfl, by omega, by rw [e2]; exact s⟩
    refine ⟨fun c45 => ?_, fun c45 => ?_⟩
    · skip
      refine hj172 _ _ W49 ?_ ?_
      · exact T49_0  -- t12
      · rw [lei, tM] at c45
        exact ⟨rfl, _, J49, Or.inl (cm_end J49 h1 h2 p3 (by omega))⟩
    · skip
      refine ⟨fun c46 => ?_, fun c46 => ?_⟩
      · skip
        refine hj172 _ _ W49 ?_ ?_
        · exact T49_0  -- t14
        · rw [lei, t0i] at c46
          exact ⟨rfl, _, J49, Or.inl (zy49.mp (by omega))⟩
      · skip
        refine ⟨fun c47 => ?_, fun c47 => ?_⟩
        · skip
          refine hj172 _ _ W49 ?_ ?_
          · exact T49_0  -- t16
          · rw [lei, t2] at c47
            exact ⟨rfl, _, J49, Or.inr (by omega)⟩
        · skip
          refine ⟨fun c48 => ?_, fun c48 => ?_⟩
          · skip
            refine hj126 _ _ _ W49 ?_ ?_
            · exact T49_0  -- t18
            · rw [lei, tM] at c45
              rw [lei, t0i] at c46
              exact ⟨rfl, rfl, J49, Nat.pos_of_ne_zero (fun z => by
                have := zy49.mpr z
                omega), by omega⟩
          · skip
            intro T49
            rw [lei, tM] at c45
            rw [lei, t0i] at c46
            have yp : 0 < nuN κ49 (zR κ49 caY a0) := Nat.pos_of_ne_zero (fun z => by
              have := zy49.mpr z
              omega)
            refine Ca_leap_c W49 T49  ?_ (fun r50 κ_51 q52 => ?_)
            · exact ⟨(cm_p J49 p1 p2).1.2.1, J49.2.2.1.1, Nat.le_of_eq J49.1.2.1.2.2.symm⟩  -- p20
            obtain ⟨Z51, ⟨R51, I51, N51, A51⟩, L51⟩ := q52
            have J51 := cm_lp J49 Z51 R51 I51 N51 A51
            have T51 : zT κ_51 a0 = 4 := Z51.t T49_0 (by decide)
            have nx51 : ∀ z, nuN κ_51 z = nuN κ49 z := fun z => (nu_same (c := c9) (by rw [R51]) I51 A51 N51).2.1
            have yp51 : 0 < nuN κ_51 (zR κ_51 caY a0) := by rw [nx51, R51]; exact yp
            have f51 := J51.1.2.1.2.2
            intro W53
            intro M54
            refine ⟨fun c55 => ?_, fun c55 => ?_⟩
            · skip
              refine hj126 _ _ _ W53 ?_ ?_
              · exact T51  -- t21
              · exact ⟨rfl, rfl, J51, yp51, by omega⟩  -- k22
            · skip
              refine ⟨?_, ?_⟩
              · rw [inb_iff, t0i]; omega  -- b23
              refine ⟨?_, ?_⟩
              · rw [inb_iff, t1i]; omega  -- b24
              refine ⟨?_, ?_⟩
              · rw [inb_iff, t2]; omega  -- b25
              refine ⟨?_, ?_⟩
              · have t3 : (3 : Int32).toInt = 3 := rfl
                rw [inb_iff, t3]; omega
              intro T56
              have lp := L51 c55
              rw [← R51] at lp
              have eX : nuN κ49 (zR κ_51 caX a0) = nuN κ_51 (zR κ_51 caX a0) := (nx51 _).symm
              have eY : nuN κ49 (zR κ_51 caY a0) = nuN κ_51 (zR κ_51 caY a0) := (nx51 _).symm
              rw [eX, eY] at lp
              refine Ca_blend_c W53 T56 c9 ?_ (fun κ_57 q58 => ?_)
              · have k := (cm_p J51 p1 p2).2
                exact ⟨J51.2.1, J51.1.2.1.1.2.2.2, J51.2.2.1.1, ⟨lp.1, lp.2.1, lp.2.2.1⟩, by omega, p2⟩
              intro W59
              intro M60
              intro x61 hx61
              refine ⟨_, ?_, rfl, ?_⟩
              · have e : x61.toInt = x49_4.toInt + 1 := by rw [hx61, add_i (by rw [t1i]; omega) (by rw [t1i]; omega), t1i]
                rw [hn49]; omega
              · have e : x61.toInt = x49_4.toInt + 1 := by rw [hx61, add_i (by rw [t1i]; omega) (by rw [t1i]; omega), t1i]
                obtain ⟨B1, B2, B3, B4, B5⟩ := q58
                have s := cm_bl W53 T51 J51 lp.2.2.1 lp.2.2.2 B1 B2 B3 B4 B5
                have e2 : x61.toInt.toNat = x49_4.toInt.toNat + 1 := by omega
                exact ⟨rfl, by omega, by rw [e2]; exact s⟩
  have hj27 : ∀ (l0 : Nat) (l1 : Nat) (l2 : Nat) (l3 : Int32) (s0 : Nat) (s1 : Nat) (τ : zS), zW C (zn κ) τ → zT τ l0 = 4 → zT τ l1 = 8 → zT τ l2 = 8 → zT τ s0 = 8 → zT τ s1 = 8 → (κ = τ ∧ a0 = l0 ∧ a1 = l1 ∧ a2 = l2 ∧ s0 = (zR κ caX a0) ∧ (l3 = 0 ∧ s1 = a2 ∧ nuN κ a1 ≤ nuN κ a2 ∨ l3 ≠ 0 ∧ s1 = a1 ∧ nuN κ a2 ≤ nuN κ a1)) → w_Ca_common_27 C (zn κ) Q  l0 l1 l2 l3 s0 s1 τ := by
    rintro _ _ _ y27_3 y27_s0 y27_s1 _ W27 T27_0 T27_1 T27_2 T27_3 T27_4 ⟨rfl, rfl, rfl, rfl, j27⟩
    unfold w_Ca_common_27
    intro T62
    intro T63
    obtain ⟨rfl, s27⟩ := j27
    have cx := CI.2.1.2.2.2.1
    refine Nu_copy_c W27 T62 T63 c9 30000000 ?_ (fun κ_64 q65 => ?_)
    · rcases s27 with ⟨z1, rfl, z3⟩ | ⟨z1, rfl, z3⟩
      · have k := nuK_lt I2 h2
        exact ⟨cx, I2.1, n2x.symm, by omega, p2⟩
      · have k := nuK_lt I1 h1
        exact ⟨cx, I1.1, n1x.symm, by omega, p2⟩
    obtain ⟨F64, B64, V64, K64, Z64⟩ := q65
    have rY64 : zR κ_64 caY a0 = (zR κ caY a0) := nuF_r F64 (by decide) (by decide)
    have T64 : zT κ_64 a0 = 4 := F64.t Ta0 (by decide)
    intro W66
    intro M67
    refine ⟨fun c68 => ?_, fun c68 => ?_⟩
    · skip
      refine hj43 _ _ _ _ W66 ?_ ?_ ?_ ?_
      · exact T64  -- t31
      · rw [rY64]; exact F64.t Ty (by decide)  -- t32
      · exact F64.t Ta1 (by decide)  -- t33
      · rcases s27 with ⟨z1, rfl, z3⟩ | ⟨z1, rfl, z3⟩
        · exact ⟨rfl, F64, ⟨B64, Z64 I2.2⟩, rY64, Or.inl ⟨rfl, V64, z3⟩⟩
        · exact absurd c68 z1
    · skip
      refine hj43 _ _ _ _ W66 ?_ ?_ ?_ ?_
      · exact T64  -- t35
      · rw [rY64]; exact F64.t Ty (by decide)  -- t36
      · exact F64.t Ta2 (by decide)  -- t37
      · rcases s27 with ⟨z1, rfl, z3⟩ | ⟨z1, rfl, z3⟩
        · exact absurd z1 c68
        · exact ⟨rfl, F64, ⟨B64, Z64 I1.2⟩, rY64, Or.inr ⟨rfl, V64, z3⟩⟩
  have hj13 : ∀ (l0 : Nat) (l1 : Nat) (l2 : Nat) (s0 : Int32) (τ : zS), zW C (zn κ) τ → zT τ l0 = 4 → zT τ l1 = 8 → zT τ l2 = 8 → (κ = τ ∧ a0 = l0 ∧ a1 = l1 ∧ a2 = l2 ∧ (s0 = 0 ∧ nuN κ a1 ≤ nuN κ a2 ∨ s0 ≠ 0 ∧ nuN κ a2 ≤ nuN κ a1)) → w_Ca_common_13 C (zn κ) Q  l0 l1 l2 s0 τ := by
    rintro _ _ _ y13_s0 _ W13 T13_0 T13_1 T13_2 ⟨rfl, rfl, rfl, rfl, j13⟩
    unfold w_Ca_common_13
    refine ⟨fun c69 => ?_, fun c69 => ?_⟩
    · skip
      refine hj27 _ _ _ _ _ _ _ W13 ?_ ?_ ?_ ?_ ?_ ?_
      · exact Ta0  -- t39
      · exact Ta1  -- t40
      · exact Ta2  -- t41
      · exact Tx  -- t42
      · exact Ta2  -- t43
      · rcases j13 with ⟨z1, z3⟩ | ⟨z1, z3⟩
        · exact ⟨rfl, rfl, rfl, rfl, rfl, Or.inl ⟨c69, rfl, z3⟩⟩
        · exact absurd c69 z1
    · skip
      refine hj27 _ _ _ _ _ _ _ W13 ?_ ?_ ?_ ?_ ?_ ?_
      · exact Ta0  -- t45
      · exact Ta1  -- t46
      · exact Ta2  -- t47
      · exact Tx  -- t48
      · exact Ta1  -- t49
      · rcases j13 with ⟨z1, z3⟩ | ⟨z1, z3⟩
        · exact absurd z1 c69
        · exact ⟨rfl, rfl, rfl, rfl, rfl, Or.inr ⟨c69, rfl, z3⟩⟩
  intro T70
  intro T71
  refine Nu_compare_c W T70 T71 30000000 30000000 ?_ (fun r72 q74 => ?_)
  · exact ⟨I1, I2⟩  -- p51
  intro W75
  intro M76
  refine ⟨fun c77 => ?_, fun c77 => ?_⟩
  · skip
    refine hj13 _ _ _ _ _ W75 ?_ ?_ ?_ ?_
    · exact Ta0  -- t52
    · exact Ta1  -- t53
    · exact Ta2  -- t54
    · rw [lti, t0i] at c77
      exact ⟨rfl, rfl, rfl, rfl, Or.inl ⟨rfl, by omega⟩⟩
  · skip
    refine hj13 _ _ _ _ _ W75 ?_ ?_ ?_ ?_
    · exact Ta0  -- t56
    · exact Ta1  -- t57
    · exact Ta2  -- t58
    · rw [lti, t0i] at c77
      exact ⟨rfl, rfl, rfl, rfl, Or.inr ⟨by decide, by omega⟩⟩

end
section
set_option maxHeartbeats 1600000
/-! the class: Calc's reduce, join -/
theorem caF_m {P P' : Nat → Prop} {κ τ : zS} {a : Nat} (h : ∀ b, P b → P' b) (Z : zF (caF P a) κ τ) : zF (caF P' a) κ τ := Z.mono (fun f b z => (show (P b ∧ (f = nuLimbs ∨ f = nuLength)) ∨ (b = a ∧ (f = caRest ∨ f = caX ∨ f = caY ∨ f = caFactors)) from z).elim (fun y => Or.inl ⟨h b y.1, y.2⟩) Or.inr)
theorem caF_x {P : Nat → Prop} {a w : Nat} (h : ¬ P w) : ¬ caF P a nuLimbs w ∧ ¬ caF P a nuLength w := by
  refine ⟨fun z => ?_, fun z => ?_⟩
  · rcases z with z | ⟨_, z | z | z | z⟩
    · exact h z.1
    · exact absurd z (by decide)
    · exact absurd z (by decide)
    · exact absurd z (by decide)
    · exact absurd z (by decide)
  · rcases z with z | ⟨_, z | z | z | z⟩
    · exact h z.1
    · exact absurd z (by decide)
    · exact absurd z (by decide)
    · exact absurd z (by decide)
    · exact absurd z (by decide)
theorem caF_B {C : zC} {n0 w c a : Nat} {P : Nat → Prop} {κ τ : zS} (W : zW C n0 κ) (T : zT κ w = 8) (Z : zF (caF P a) κ τ) (h : ¬ P w) : (nuI κ w c → nuI τ w c) ∧ nuN τ w = nuN κ w ∧ nuK τ w = nuK κ w ∧ (nuC κ w c → nuC τ w c) := by
  have x := caF_x (a := a) h
  have b := nuB_z (c := c) W T Z x.1 x.2
  have u := nu_z W T Z x.1 x.2
  refine ⟨b.2.1, b.2.2.1, b.2.2.2, fun y => ?_⟩
  unfold nuC
  rw [u.2.1, u.2.2.2]
  exact y
/-- refs of a Calc that stay -/
theorem caF_r {P : Nat → Prop} {κ τ : zS} {a f b : Nat} (Z : zF (caF P a) κ τ) (h : f ≠ nuLimbs ∧ f ≠ nuLength ∧ f ≠ caRest ∧ f ≠ caX ∧ f ≠ caY ∧ f ≠ caFactors) : zR τ f b = zR κ f b := Z.r (fun z => by
  rcases z with ⟨_, z | z⟩ | ⟨_, z | z | z | z⟩
  · exact h.1 z
  · exact h.2.1 z
  · exact h.2.2.1 z
  · exact h.2.2.2.1 z
  · exact h.2.2.2.2.1 z
  · exact h.2.2.2.2.2 z)
theorem ca_dv {C : zC} {n0 a c A B : Nat} {σ τ : zS} (W : zW C n0 σ) (Ta : zT σ a = 4) (h : caI σ a c) (D : dvO σ τ (zR σ caQuotient a) (zR σ caRest a) (zR σ caDivisor a) A B c) : caI τ a c ∧ (∀ b, caS τ a b → caS σ a b) ∧ zF (caF (caS σ a) a) σ τ ∧ (zR τ caQuotient a = zR σ caQuotient a ∧ zR τ caRest a = zR σ caRest a ∧ zR τ caX a = zR σ caX a) ∧ (nuI σ (zR σ caX a) c → nuI τ (zR σ caX a) c) ∧ nuN τ (zR σ caX a) = nuN σ (zR σ caX a) := by
  obtain ⟨⟨⟨n1, n2, n3⟩, ⟨n4, n5, n6⟩, ⟨n7, n8, n9⟩, na⟩, ⟨⟨k1, k2, k3, k4, k5⟩, k6⟩⟩ := h
  obtain ⟨DZ, ⟨DQ, DV⟩, ⟨DR, DW⟩, DC⟩ := D
  obtain ⟨rq, rr, rd, rx, ry, rf⟩ := ca_ref (a := a) DZ
  have Tx := ty_caX W Ta
  have Ty := ty_caY W Ta
  have bx := nuFp_B (c := c) W Tx DZ (oo3_n n4 n5 n6)
  have cx := nuFp_C W Tx DZ (oo3_n n4 n5 n6) k4
  have cy := nuFp_C W Ty DZ (oo3_n n7 n8 n9) k5
  have eN : zN τ (zR σ caFactors a) = zN σ (zR σ caFactors a) := DZ.l (ty_caFactors W Ta)
  refine ⟨⟨?_, ?_⟩, ?_, caF_n DZ (fun b z => (show b = _ ∨ b = _ ∨ b = _ from z).elim Or.inl (fun z => z.elim (fun y => Or.inr (Or.inl y)) (fun y => Or.inr (Or.inr (Or.inl y))))), ⟨rq, rr, rx⟩, bx.2.1, bx.2.2.1⟩
  · unfold caN
    rw [rq, rr, rd, rx, ry]
    exact ⟨⟨n1, n2, n3⟩, ⟨n4, n5, n6⟩, ⟨n7, n8, n9⟩, na⟩
  · unfold caK
    rw [rq, rr, rd, rx, ry, rf, eN]
    exact ⟨⟨DQ.1.2.1, DR.1.2.1, DC, cx, cy⟩, k6⟩
  · unfold caS
    rw [rq, rr, rd, rx, ry]
    exact fun b z => z
theorem ca_o {C : zC} {n0 a c w : Nat} {σ τ : zS} (W : zW C n0 σ) (Ta : zT σ a = 4) (h : caI σ a c) (Z : zF (nuF w) σ τ) (hw : ¬ caS σ a w) : caI τ a c ∧ (∀ b, caS τ a b → caS σ a b) ∧ zF (caF (fun b => b = w) a) σ τ ∧ (zR τ caQuotient a = zR σ caQuotient a ∧ zR τ caX a = zR σ caX a) ∧ (nuI σ (zR σ caX a) c → nuI τ (zR σ caX a) c) ∧ nuN τ (zR σ caX a) = nuN σ (zR σ caX a) := by
  obtain ⟨⟨⟨n1, n2, n3⟩, ⟨n4, n5, n6⟩, ⟨n7, n8, n9⟩, na⟩, ⟨⟨k1, k2, k3, k4, k5⟩, k6⟩⟩ := h
  have Zp : zF (nuFp (fun b => b = w)) σ τ := nuFp_m rfl Z
  obtain ⟨rq, rr, rd, rx, ry, rf⟩ := ca_ref (a := a) Zp
  have cq := nuFp_C W (ty_caQuotient W Ta) Zp (fun e => hw (Or.inl e.symm)) k1
  have cr := nuFp_C W (ty_caRest W Ta) Zp (fun e => hw (Or.inr (Or.inl e.symm))) k2
  have cd := nuFp_C W (ty_caDivisor W Ta) Zp (fun e => hw (Or.inr (Or.inr (Or.inl e.symm)))) k3
  have cx := nuFp_C W (ty_caX W Ta) Zp (fun e => hw (Or.inr (Or.inr (Or.inr (Or.inl e.symm))))) k4
  have cy := nuFp_C W (ty_caY W Ta) Zp (fun e => hw (Or.inr (Or.inr (Or.inr (Or.inr e.symm))))) k5
  have bx := nuFp_B (c := c) W (ty_caX W Ta) Zp (fun e => hw (Or.inr (Or.inr (Or.inr (Or.inl e.symm)))))
  have eN : zN τ (zR σ caFactors a) = zN σ (zR σ caFactors a) := Zp.l (ty_caFactors W Ta)
  refine ⟨⟨?_, ?_⟩, ?_, caF_n Zp (fun b z => z), ⟨rq, rx⟩, bx.2.1, bx.2.2.1⟩
  · unfold caN
    rw [rq, rr, rd, rx, ry]
    exact ⟨⟨n1, n2, n3⟩, ⟨n4, n5, n6⟩, ⟨n7, n8, n9⟩, na⟩
  · unfold caK
    rw [rq, rr, rd, rx, ry, rf, eN]
    exact ⟨⟨cq, cr, cd, cx, cy⟩, k6⟩
  · unfold caS
    rw [rq, rr, rd, rx, ry]
    exact fun b z => z
theorem caS_n {κ : zS} {a w : Nat} (h : ¬ caS κ a w) : (w ≠ zR κ caQuotient a ∧ w ≠ zR κ caRest a ∧ w ≠ zR κ caDivisor a) ∧ w ≠ zR κ caX a ∧ w ≠ zR κ caY a := ⟨⟨fun e => h (Or.inl e), fun e => h (Or.inr (Or.inl e)), fun e => h (Or.inr (Or.inr (Or.inl e)))⟩, fun e => h (Or.inr (Or.inr (Or.inr (Or.inl e)))), fun e => h (Or.inr (Or.inr (Or.inr (Or.inr e))))⟩
/-- a Calc may divide a number of someone else's by its x -/
theorem ca_pd {κ : zS} {a c w m : Nat} (h : caI κ a c) (IX : nuI κ (zR κ caX a) c) (IW : nuI κ w 30000000) (hw : ¬ caS κ a w) (k : nuK κ w ≤ m) (hc : m + 1 + (m + 1) / 2 + 2 ≤ c) (hl : c ≤ 30000000) : (nuC κ (zR κ caQuotient a) c ∧ nuC κ (zR κ caRest a) c ∧ nuC κ (zR κ caDivisor a) c) ∧ (nuI κ w 30000000 ∧ nuI κ (zR κ caX a) 30000000) ∧ (zR κ caQuotient a ≠ zR κ caRest a ∧ zR κ caQuotient a ≠ zR κ caDivisor a ∧ zR κ caRest a ≠ zR κ caDivisor a) ∧ (w ≠ zR κ caQuotient a ∧ w ≠ zR κ caRest a ∧ w ≠ zR κ caDivisor a) ∧ (zR κ caX a ≠ zR κ caQuotient a ∧ zR κ caX a ≠ zR κ caRest a ∧ zR κ caX a ≠ zR κ caDivisor a) ∧ nuK κ w + 1 + (nuK κ w + 1) / 2 + 2 ≤ c ∧ c ≤ 30000000 := ⟨⟨h.2.1.1, h.2.1.2.1, h.2.1.2.2.1⟩, ⟨IW, nuI_mono hl IX⟩, h.1.1, (caS_n hw).1, h.1.2.1, by omega, hl⟩
theorem Ca_reduce_c {C : zC} {n0 : Nat} {a0 : Nat} {a1 : Nat} {a2 : Nat} {κ : zS} {Q : zS → Prop} (W : zW C n0 κ) (Ta0 : zT κ a0 = 4) (Ta1 : zT κ a1 = 8) (Ta2 : zT κ a2 = 8) (c9 m9 t9 : Nat) (hp : (nuI κ a1 t9 ∧ nuI κ a2 t9) ∧ caI κ a0 c9 ∧ (¬ caS κ a0 a1 ∧ ¬ caS κ a0 a2 ∧ a1 ≠ a2) ∧ (nuN κ a1 < 2147483648 ^ m9 ∧ nuN κ a2 < 2147483648 ^ m9) ∧ (m9 + 1 + (m9 + 1) / 2 + 2 ≤ c9 ∧ m9 + m9 / 2 + 1 ≤ t9 ∧ t9 ≤ 30000000) ∧ c9 ≤ 30000000 ∧ m9 ≤ 16000) (h : ∀ (κ' : zS), ((zF (caF (fun b => caS κ a0 b ∨ b = a1 ∨ b = a2) a0) κ κ' ∧ caI κ' a0 c9 ∧ ∀ b, caS κ' a0 b → caS κ a0 b) ∧ (nuI κ' a1 t9 ∧ nuN κ' a1 = nuN κ a1 / Nat.gcd (nuN κ a1) (nuN κ a2)) ∧ nuI κ' a2 t9 ∧ nuN κ' a2 = nuN κ a2 / Nat.gcd (nuN κ a1) (nuN κ a2)) → Q κ') : zRun C 5 mCa_reduce [.ref a0, .ref a1, .ref a2] κ (oV Q noX) := by
  refine Ca_reduce_run W Ta0 Ta1 Ta2 ?_
  replace W := W.lo (Nat.le_trans W.1.2.1 W.1.2.2) (Nat.le_refl (zn κ))
  unfold w_Ca_reduce_0
  obtain ⟨⟨I1, I2⟩, CI, ⟨n1, n2, n12⟩, ⟨h1, h2⟩, ⟨p1, p2, p3⟩, p4, p5⟩ := hp
  have k1 := nuK_lt I1 h1
  have k2 := nuK_lt I2 h2
  intro T1
  intro T2
  intro T3
  refine Ca_common_c W T1 T2 T3 c9 m9 ?_ (fun κ_4 q5 => ?_)
  · exact ⟨⟨nuI_mono p3 I1, nuI_mono p3 I2⟩, CI, ⟨(caS_n n1).2.1, (caS_n n1).2.2, (caS_n n2).2.1, (caS_n n2).2.2⟩, ⟨h1, h2⟩, p1, p4, p5⟩  -- p1
  obtain ⟨Z4, C4, S4, I4, V4⟩ := q5
  have b1 := caF_B (c := t9) W Ta1 Z4 n1
  have b2 := caF_B (c := t9) W Ta2 Z4 n2
  have Z4' : zF (caF (fun b => caS κ a0 b ∨ b = a1 ∨ b = a2) a0) κ κ_4 := caF_m (fun b z => Or.inl z) Z4
  have T4 : zT κ_4 a0 = 4 := Z4.t Ta0 (by decide)
  have T14 : zT κ_4 a1 = 8 := Z4.t Ta1 (by decide)
  have T24 : zT κ_4 a2 = 8 := Z4.t Ta2 (by decide)
  have m1 : ¬ caS κ_4 a0 a1 := fun z => n1 (S4 _ z)
  have m2 : ¬ caS κ_4 a0 a2 := fun z => n2 (S4 _ z)
  intro W6
  intro M7
  intro T8
  refine Nu_isOne_c W6 T8 30000000 ?_ (fun r9 q11 => ?_)
  · exact nuI_mono p4 I4  -- p2
  intro W12
  intro M13
  refine ⟨fun c14 => ?_, fun c14 => ?_⟩
  · skip
    refine h _ ?_
    · have g1 : Nat.gcd (nuN κ a1) (nuN κ a2) = 1 := V4.symm.trans (q11.2.mp c14)
      rw [g1, Nat.div_one, Nat.div_one]
      exact ⟨⟨Z4', C4, S4⟩, ⟨b1.1 I1, b1.2.1⟩, b2.1 I2, b2.2.1⟩
  · skip
    refine ⟨fun c15 => ?_, fun c15 => ?_⟩
    · skip
      refine h _ ?_
      · rw [lei, t0i] at c15
        have kx := nuK_i I4.1
        have xz := (nuK_z I4).mp (by omega)
        rw [V4] at xz
        have zz := Nat.gcd_eq_zero_iff.mp xz
        rw [xz, Nat.div_zero, Nat.div_zero]
        exact ⟨⟨Z4', C4, S4⟩, ⟨b1.1 I1, by rw [b1.2.1]; exact zz.1⟩, b2.1 I2, by rw [b2.2.1]; exact zz.2⟩
    · skip
      intro T16
      intro T17
      intro T18
      refine Ca_divide_c W12 T16 T17 T18 c9 ?_ (fun κ_19 q20 => ?_)
      · exact ca_pd (m := m9) C4 I4 (nuI_mono p3 (b1.1 I1)) m1 (by rw [b1.2.2.1]; exact k1) p1 p4  -- p5
      obtain ⟨C19, S19, Z19, ⟨rq19, rr19, rx19⟩, x19, v19⟩ := ca_dv W12 T4 C4 q20
      have T19 : zT κ_19 a0 = 4 := Z19.t T4 (by decide)
      have DQ := q20.2.1
      rw [b1.2.1, V4] at DQ
      have c1 := caF_B (c := t9) W12 T14 Z19 m1
      have c2 := caF_B (c := t9) W12 T24 Z19 m2
      have T119 : zT κ_19 a1 = 8 := Z19.t T14 (by decide)
      have T219 : zT κ_19 a2 = 8 := Z19.t T24 (by decide)
      have kq : nuK κ_19 (zR κ_4 caQuotient a0) ≤ m9 := nuK_lt DQ.1 (by rw [DQ.2]; exact Nat.lt_of_le_of_lt (Nat.div_le_self _ _) h1)
      have m119 : ¬ caS κ_19 a0 a1 := fun z => m1 (S19 _ z)
      have m219 : ¬ caS κ_19 a0 a2 := fun z => m2 (S19 _ z)
      intro W21
      intro M22
      intro T23
      intro T24
      refine Nu_copy_c W21 T23 T24 t9 30000000 ?_ (fun κ_25 q26 => ?_)
      · rw [rq19]
        exact ⟨(c1.1 (b1.1 I1)).1.2.1, nuB_mono p4 DQ.1.1, (caS_n m1).1.1, by omega, p3⟩
      rw [rq19] at q26
      obtain ⟨F25, B25, V25, K25, Y25⟩ := q26
      obtain ⟨C25, S25, Z25, ⟨rq25, rx25⟩, x25, v25⟩ := ca_o W21 T19 C19 F25 m119
      have T25 : zT κ_25 a0 = 4 := F25.t T19 (by decide)
      have T225 : zT κ_25 a2 = 8 := F25.t T219 (by decide)
      have T125 : zT κ_25 a1 = 8 := F25.t T119 (by decide)
      have d2 := nuB_z (c := t9) W21 T219 F25 (fun z => n12 z.1.symm) (fun z => n12 z.1.symm)
      have m225 : ¬ caS κ_25 a0 a2 := fun z => m219 (S25 _ z)
      have m125 : ¬ caS κ_25 a0 a1 := fun z => m119 (S25 _ z)
      have IX25 : nuI κ_25 (zR κ_25 caX a0) c9 := by
        rw [rx25]
        refine x25 ?_
        rw [rx19]
        exact x19 I4
      have VX25 : nuN κ_25 (zR κ_25 caX a0) = Nat.gcd (nuN κ a1) (nuN κ a2) := by
        rw [rx25, v25, rx19, v19]
        exact V4
      have I225 : nuI κ_25 a2 t9 := d2.2.1 (c2.1 (b2.1 I2))
      have V225 : nuN κ_25 a2 = nuN κ a2 := by rw [d2.2.2.1, c2.2.1, b2.2.1]
      have K225 : nuK κ_25 a2 ≤ m9 := by rw [d2.2.2.2, c2.2.2.1, b2.2.2.1]; exact k2
      have I125 : nuI κ_25 a1 t9 := ⟨B25, Y25 DQ.1.2⟩
      have V125 : nuN κ_25 a1 = nuN κ a1 / Nat.gcd (nuN κ a1) (nuN κ a2) := by rw [V25]; exact DQ.2
      intro W27
      intro M28
      intro T29
      intro T30
      intro T31
      refine Ca_divide_c W27 T29 T30 T31 c9 ?_ (fun κ_32 q33 => ?_)
      · exact ca_pd (m := m9) C25 IX25 (nuI_mono p3 I225) m225 K225 p1 p4  -- p7
      obtain ⟨C32, S32, Z32, ⟨rq32, rr32, rx32⟩, x32, v32⟩ := ca_dv W27 T25 C25 q33
      have T32 : zT κ_32 a0 = 4 := Z32.t T25 (by decide)
      have DQ2 := q33.2.1
      rw [V225, VX25] at DQ2
      have e1 := caF_B (c := t9) W27 T125 Z32 m125
      have e2 := caF_B (c := t9) W27 T225 Z32 m225
      have T132 : zT κ_32 a1 = 8 := Z32.t T125 (by decide)
      have kq2 : nuK κ_32 (zR κ_25 caQuotient a0) ≤ m9 := nuK_lt DQ2.1 (by rw [DQ2.2]; exact Nat.lt_of_le_of_lt (Nat.div_le_self _ _) h2)
      have m232 : ¬ caS κ_32 a0 a2 := fun z => m225 (S32 _ z)
      intro W34
      intro M35
      intro T36
      intro T37
      refine Nu_copy_c W34 T36 T37 t9 30000000 ?_ (fun κ_38 q39 => ?_)
      · rw [rq32]
        exact ⟨(e2.1 I225).1.2.1, nuB_mono p4 DQ2.1.1, (caS_n m225).1.1, by omega, p3⟩
      intro W40
      intro M41
      refine h _ ?_
      · rw [rq32] at q39
        obtain ⟨F38, B38, V38, K38, Y38⟩ := q39
        obtain ⟨C38, S38, Z38, ⟨rq38, rx38⟩, x38, v38⟩ := ca_o W34 T32 C32 F38 m232
        have f1 := nuB_z (c := t9) W34 T132 F38 (fun z => n12 z.1) (fun z => n12 z.1)
        have sub4 : ∀ b, caS κ_4 a0 b → caS κ a0 b ∨ b = a1 ∨ b = a2 := fun b z => Or.inl (S4 b z)
        have sub25 : ∀ b, caS κ_25 a0 b → caS κ a0 b ∨ b = a1 ∨ b = a2 := fun b z => sub4 b (S19 b (S25 b z))
        have Zf := (((Z4'.tr (caF_m sub4 Z19)).tr (caF_m (fun b z => Or.inr (Or.inl z)) Z25)).tr (caF_m sub25 Z32)).tr (caF_m (fun b z => Or.inr (Or.inr z)) Z38)
        exact ⟨⟨Zf, C38, fun b z => S4 b (S19 b (S25 b (S32 b (S38 b z))))⟩, ⟨f1.2.1 (e1.1 I125), by rw [f1.2.2.1, e1.2.1]; exact V125⟩, ⟨B38, Y38 DQ2.1.2⟩, by rw [V38]; exact DQ2.2⟩

theorem lcm_r {M O : Nat} : M * (O / Nat.gcd O (M % O)) = Nat.lcm M O := by
  have g : Nat.gcd O (M % O) = Nat.gcd M O := gc_m
  rw [g]
  unfold Nat.lcm
  exact (Nat.mul_div_assoc M (Nat.gcd_dvd_right M O)).symm
theorem lcm_z {M O : Nat} (h : M % O = 0) : Nat.lcm M O = M := by
  rw [← lcm_r, h, Nat.gcd_zero_right]
  by_cases z : O = 0
  · rw [z] at h
    rw [Nat.mod_zero] at h
    rw [h, Nat.zero_mul]
  · rw [Nat.div_self (Nat.pos_of_ne_zero z), Nat.mul_one]
theorem Ca_join_c {C : zC} {n0 : Nat} {a0 : Nat} {a1 : Nat} {a2 : Nat} {κ : zS} {Q : zS → Prop} (W : zW C n0 κ) (Ta0 : zT κ a0 = 4) (Ta1 : zT κ a1 = 8) (Ta2 : zT κ a2 = 8) (c9 m9 t9 s9 : Nat) (hp : (nuI κ a1 t9 ∧ nuI κ a2 30000000 ∧ nuI κ (zR κ caSpare a0) s9) ∧ caI κ a0 c9 ∧ (¬ caS κ a0 a1 ∧ ¬ caS κ a0 a2 ∧ ¬ caS κ a0 (zR κ caSpare a0)) ∧ (a1 ≠ a2 ∧ a1 ≠ (zR κ caSpare a0) ∧ a2 ≠ (zR κ caSpare a0)) ∧ (nuN κ a1 < 2147483648 ^ m9 ∧ nuN κ a2 < 2147483648 ^ m9) ∧ (m9 + 1 + (m9 + 1) / 2 + 2 ≤ c9 ∧ nuK κ a1 + nuK κ a2 + (nuK κ a1 + nuK κ a2) / 2 + 1 ≤ t9 ∧ t9 ≤ 30000000) ∧ (nuK κ a1 + nuK κ a2 + (nuK κ a1 + nuK κ a2) / 2 + 1 ≤ s9 ∧ s9 ≤ 30000000) ∧ c9 ≤ 30000000 ∧ m9 ≤ 16000) (h : ∀ (κ' : zS), ((zF (caF (fun b => caS κ a0 b ∨ b = a1 ∨ b = (zR κ caSpare a0)) a0) κ κ' ∧ caI κ' a0 c9 ∧ ∀ b, caS κ' a0 b → caS κ a0 b) ∧ nuI κ' (zR κ caSpare a0) s9 ∧ nuI κ' a1 t9 ∧ nuN κ' a1 = Nat.lcm (nuN κ a1) (nuN κ a2)) → Q κ') : zRun C 5 mCa_join [.ref a0, .ref a1, .ref a2] κ (oV Q noX) := by
  refine Ca_join_run W Ta0 Ta1 Ta2 ?_
  replace W := W.lo (Nat.le_trans W.1.2.1 W.1.2.2) (Nat.le_refl (zn κ))
  unfold w_Ca_join_0
  obtain ⟨⟨I1, I2, Is⟩, CI, ⟨n1, n2, ns⟩, ⟨n12, n1s, n2s⟩, ⟨h1, h2⟩, ⟨p1, p2, p3⟩, ⟨p4, p5⟩, p6, p7⟩ := hp
  have k1 := nuK_lt I1 h1
  have k2 := nuK_lt I2 h2
  have Ts := ty_caSpare W Ta0
  have Cs : nuC κ (zR κ caSpare a0) s9 := Is.1.2.1
  intro T1
  intro T2
  intro T3
  refine Ca_divide_c W T1 T2 T3 c9 ?_ (fun κ_4 q5 => ?_)
  · exact ⟨⟨CI.2.1.1, CI.2.1.2.1, CI.2.1.2.2.1⟩, ⟨nuI_mono p3 I1, I2⟩, CI.1.1, (caS_n n1).1, (caS_n n2).1, by omega, p6⟩  -- p1
  obtain ⟨C4, S4, Z4, ⟨rq4, rr4, rx4⟩, x4, v4⟩ := ca_dv W Ta0 CI q5
  have T4 : zT κ_4 a0 = 4 := Z4.t Ta0 (by decide)
  have b1 := caF_B (c := t9) W Ta1 Z4 n1
  have b2 := caF_B (c := 30000000) W Ta2 Z4 n2
  have bs := caF_B (c := s9) W Ts Z4 ns
  have DR := q5.2.2.1
  have T14 : zT κ_4 a1 = 8 := Z4.t Ta1 (by decide)
  have T24 : zT κ_4 a2 = 8 := Z4.t Ta2 (by decide)
  have Ts4 : zT κ_4 (zR κ caSpare a0) = 8 := Z4.t Ts (by decide)
  have m1 : ¬ caS κ_4 a0 a1 := fun z => n1 (S4 _ z)
  have m2 : ¬ caS κ_4 a0 a2 := fun z => n2 (S4 _ z)
  have ms : ¬ caS κ_4 a0 (zR κ caSpare a0) := fun z => ns (S4 _ z)
  have kr := nuK_i DR.1.1
  intro W6
  intro M7
  refine ⟨fun c8 => ?_, fun c8 => ?_⟩
  · skip
    refine h _ ?_
    · rw [rr4, lei, t0i] at c8
      have rz := (nuK_z DR.1).mp (by omega)
      rw [DR.2] at rz
      exact ⟨⟨caF_m (fun b z => Or.inl z) Z4, C4, S4⟩, bs.1 Is, b1.1 I1, by rw [b1.2.1, lcm_z rz]⟩
  · skip
    intro T9
    intro T10
    intro T11
    refine Ca_common_c W6 T9 T10 T11 c9 m9 ?_ (fun κ_12 q13 => ?_)
    · have hr : nuN κ_4 (zR κ caRest a0) < 2147483648 ^ m9 := by
        rw [DR.2]
        exact Nat.lt_of_le_of_lt (Nat.mod_le _ _) h1
      rw [rr4]
      refine ⟨⟨b2.1 I2, nuI_mono p6 DR.1⟩, C4, ⟨(caS_n m2).2.1, (caS_n m2).2.2, ?_, ?_⟩, ⟨by rw [b2.2.1]; exact h2, hr⟩, p1, p6, p7⟩
      · rw [← rr4]; exact C4.1.2.1.2.1.symm
      · rw [← rr4]; exact C4.1.2.2.1.2.1.symm
    obtain ⟨Z12, C12, S12, I12, V12⟩ := q13
    rw [rr4, b2.2.1, DR.2] at V12
    have T12 : zT κ_12 a0 = 4 := Z12.t T4 (by decide)
    have c1 := caF_B (c := t9) W6 T14 Z12 m1
    have c2 := caF_B (c := 30000000) W6 T24 Z12 m2
    have cs := caF_B (c := s9) W6 Ts4 Z12 ms
    have T112 : zT κ_12 a1 = 8 := Z12.t T14 (by decide)
    have T212 : zT κ_12 a2 = 8 := Z12.t T24 (by decide)
    have Ts12 : zT κ_12 (zR κ caSpare a0) = 8 := Z12.t Ts4 (by decide)
    have m112 : ¬ caS κ_12 a0 a1 := fun z => m1 (S12 _ z)
    have m212 : ¬ caS κ_12 a0 a2 := fun z => m2 (S12 _ z)
    have ms12 : ¬ caS κ_12 a0 (zR κ caSpare a0) := fun z => ms (S12 _ z)
    have V212 : nuN κ_12 a2 = nuN κ a2 := by rw [c2.2.1, b2.2.1]
    have K212 : nuK κ_12 a2 ≤ m9 := by rw [c2.2.2.1, b2.2.2.1]; exact k2
    intro W14
    intro M15
    intro T16
    intro T17
    intro T18
    refine Ca_divide_c W14 T16 T17 T18 c9 ?_ (fun κ_19 q20 => ?_)
    · exact ca_pd (m := m9) C12 I12 (c2.1 (b2.1 I2)) m212 K212 p1 p6  -- p4
    obtain ⟨C19, S19, Z19, ⟨rq19, rr19, rx19⟩, x19, v19⟩ := ca_dv W14 T12 C12 q20
    have T19 : zT κ_19 a0 = 4 := Z19.t T12 (by decide)
    have DQ := q20.2.1
    rw [V212, V12] at DQ
    have d1 := caF_B (c := t9) W14 T112 Z19 m112
    have ds := caF_B (c := s9) W14 Ts12 Z19 ms12
    have T119 : zT κ_19 a1 = 8 := Z19.t T112 (by decide)
    have Ts19 : zT κ_19 (zR κ caSpare a0) = 8 := Z19.t Ts12 (by decide)
    have m119 : ¬ caS κ_19 a0 a1 := fun z => m112 (S19 _ z)
    have ms19 : ¬ caS κ_19 a0 (zR κ caSpare a0) := fun z => ms12 (S19 _ z)
    have I119 : nuI κ_19 a1 t9 := d1.1 (c1.1 (b1.1 I1))
    have V119 : nuN κ_19 a1 = nuN κ a1 := by rw [d1.2.1, c1.2.1, b1.2.1]
    have K119 : nuK κ_19 a1 = nuK κ a1 := by rw [d1.2.2.1, c1.2.2.1, b1.2.2.1]
    have kq : nuK κ_19 (zR κ_12 caQuotient a0) ≤ nuK κ a2 := nuK_le (d := 0) DQ.1 (by rw [DQ.2]; exact Nat.div_le_self _ _)
    have es19 : zR κ_19 caSpare a0 = (zR κ caSpare a0) := (caF_r Z19 (by decide)).trans ((caF_r Z12 (by decide)).trans (caF_r Z4 (by decide)))
    intro W21
    intro M22
    intro T23
    intro T24
    intro T25
    refine Nu_product_c W21 T23 T24 T25 s9 30000000 30000000 ?_ (fun κ_26 q27 => ?_)
    · rw [es19, rq19, K119]
      exact ⟨ds.2.2.2 (cs.2.2.2 (bs.2.2.2 Cs)), ⟨nuI_mono p3 I119, nuI_mono p6 DQ.1⟩, ⟨n1s.symm, (caS_n ms12).1.1⟩, by omega, p5⟩
    rw [es19, rq19, V119, DQ.2] at q27
    obtain ⟨F26, I26, V26⟩ := q27
    obtain ⟨C26, S26, Z26, ⟨rq26, rx26⟩, x26, v26⟩ := ca_o W21 T19 C19 F26 ms19
    have T26 : zT κ_26 a0 = 4 := F26.t T19 (by decide)
    have T126 : zT κ_26 a1 = 8 := F26.t T119 (by decide)
    have Ts26 : zT κ_26 (zR κ caSpare a0) = 8 := F26.t Ts19 (by decide)
    have f1 := nuB_z (c := t9) W21 T119 F26 (fun z => n1s z.1) (fun z => n1s z.1)
    have es26 : zR κ_26 caSpare a0 = (zR κ caSpare a0) := (nuF_r F26 (by decide) (by decide)).trans es19
    have m126 : ¬ caS κ_26 a0 a1 := fun z => m119 (S26 _ z)
    have ks : nuK κ_26 (zR κ caSpare a0) ≤ nuK κ a1 + nuK κ a2 := by
      refine nuK_lt I26 ?_
      have u1 := nuN_lt (κ := κ) (x := a1)
      have u2 := nuN_lt (κ := κ) (x := a2)
      rw [V26, Nat.pow_add]
      exact Nat.lt_of_le_of_lt (Nat.mul_le_mul_left _ (Nat.div_le_self _ _)) (Nat.mul_lt_mul'' u1 u2)
    intro W28
    intro M29
    intro T30
    intro T31
    refine Nu_copy_c W28 T30 T31 t9 30000000 ?_ (fun κ_32 q33 => ?_)
    · rw [es26]
      exact ⟨(f1.2.1 I119).1.2.1, nuB_mono p5 I26.1, n1s, by omega, p3⟩
    intro W34
    intro M35
    refine h _ ?_
    · rw [es26] at q33
      obtain ⟨F32, B32, V32, K32, Y32⟩ := q33
      obtain ⟨C32, S32, Z32, _, _, _⟩ := ca_o W28 T26 C26 F32 m126
      have us := nuB_z (c := s9) W28 Ts26 F32 (fun z => n1s z.1.symm) (fun z => n1s z.1.symm)
      have sub4 : ∀ b, caS κ_4 a0 b → caS κ a0 b ∨ b = a1 ∨ b = (zR κ caSpare a0) := fun b z => Or.inl (S4 b z)
      have sub12 : ∀ b, caS κ_12 a0 b → caS κ a0 b ∨ b = a1 ∨ b = (zR κ caSpare a0) := fun b z => sub4 b (S12 b z)
      have Zf := ((((caF_m (fun b z => Or.inl z) Z4 : zF (caF (fun b => caS κ a0 b ∨ b = a1 ∨ b = (zR κ caSpare a0)) a0) κ κ_4).tr (caF_m sub4 Z12)).tr (caF_m sub12 Z19)).tr (caF_m (fun b z => Or.inr (Or.inr z)) Z26)).tr (caF_m (fun b z => Or.inr (Or.inl z)) Z32)
      refine ⟨⟨Zf, C32, fun b z => S4 b (S12 b (S19 b (S26 b (S32 b z))))⟩, us.2.1 I26, ⟨B32, Y32 I26.2⟩, ?_⟩
      rw [V32, V26]
      exact lcm_r

end
