section
set_option maxHeartbeats 1600000
/-! what has been taken out has small denominators -/
theorem sI_head {f : Nat → Int} : ∀ {n : Nat}, sI f (n + 1) = f 0 + sI (fun t => f (t + 1)) n
  | 0 => by show 0 + f 0 = f 0 + 0; omega
  | n + 1 => by
    have ih := sI_head (f := f) (n := n)
    show sI f (n + 1) + f (n + 1) = f 0 + (sI (fun t => f (t + 1)) n + f (n + 1))
    omega
theorem sNt_head {f : Nat → Nat} : ∀ {n : Nat}, sNt f (n + 1) = f 0 + sNt (fun t => f (t + 1)) n
  | 0 => by show 0 + f 0 = f 0 + 0; omega
  | n + 1 => by
    have ih := sNt_head (f := f) (n := n)
    show sNt f (n + 1) + f (n + 1) = f 0 + (sNt (fun t => f (t + 1)) n + f (n + 1))
    omega
theorem sI_cast {f : Nat → Int} : ∀ {n : Nat}, ((sI f n : Int) : Rat) = smQ (fun t => (f t : Rat)) n
  | 0 => rfl
  | n + 1 => by
    show ((sI f n + f n : Int) : Rat) = smQ (fun t => (f t : Rat)) n + (f n : Rat)
    rw [Rat.intCast_add, sI_cast (n := n)]
theorem smQ_sh {f : Nat → Rat} {a : Nat} (h : ∀ r, r < a → f r = 0) : ∀ {n : Nat}, smQ f (a + n) = smQ (fun t => f (a + t)) n
  | 0 => smQ_0 h
  | n + 1 => by
    show smQ f (a + n) + f (a + n) = smQ (fun t => f (a + t)) n + f (a + n)
    rw [smQ_sh h (n := n)]
theorem el_z {P : Nat → Nat → Rat} {m n : Nat} {α : Nat → Rat} {x : Nat → Rat} (h : Mk P m m) (hn : n ≤ m) (ha : ∀ r, r < m - n → α r = 0) (h0 : ∀ j, m - n ≤ j → j < m → cmb P α 0 x m j = 0) : ∀ {N s : Nat}, s ≤ N → s < m → α s = 0
  | N, s, hN, hs => by
    by_cases e : s < m - n
    · exact ha s e
    · have below : ∀ r, r < s → α r = 0 := fun r hr => by
        match N, hN with
        | 0, hN => omega
        | N + 1, hN => exact el_z h hn ha h0 (N := N) (by omega) (by omega)
      have c := cmb_n h (n := m - 1 - s) (by omega) (fun j h1 h2 => h0 j (by omega) h2) s (Or.inl (by omega))
      have M := Mk_n h (n := m - 1 - s) (by omega)
      rw [show m - (m - 1 - s) = s + 1 by omega] at c M
      rw [h0 s (by omega) hs] at c
      have S := Mk_S M
      have a := (cmb_s (m := m) (by have := S.1; grind) S.2 c.symm).1
      rw [smQ_0 (fun r hr => by rw [below r hr, Rat.zero_mul])] at a
      have S0 := S.1
      generalize elS (elN P m (m - 1 - s)) m s = U at a S0
      have b : α s * U = 0 := by grind
      rcases Rat.mul_eq_zero.mp b with z | z
      · exact z
      · rw [z] at S0
        exact absurd S0 (by decide)
theorem den_of {q : Rat} {M : Nat} {z : Int} (hM : M ≠ 0) (h : (M : Rat) * q = (z : Rat)) : q.den ∣ M ∧ q.num.natAbs ≤ z.natAbs := by
  have hq : q = mkRat z M := by
    rw [Rat.mkRat_eq_div, ← h, Rat.mul_comm]
    refine (Rat.mul_div_cancel ?_).symm
    intro e
    have : ((M : Nat) : Rat).num = 0 := by rw [e]; rfl
    rw [Rat.num_natCast] at this
    omega
  rw [hq]
  refine ⟨den_mk hM, ?_⟩
  rw [Rat.num_mkRat, if_neg hM]
  exact Int.natAbs_ediv_le_natAbs _ _
theorem sI_absI {c N : Nat → Int} {h : Nat → Nat} : ∀ {n : Nat}, (∀ r, r < n → (c r).natAbs ≤ h r) → (sI (fun r => c r * N r) n).natAbs ≤ sNt (fun r => h r * (N r).natAbs) n
  | 0, _ => Nat.le_refl 0
  | n + 1, hd => by
    have ih := sI_absI (N := N) (n := n) (fun r hr => hd r (by omega))
    have a := Int.natAbs_add_le (sI (fun r => c r * N r) n) (c n * N n)
    rw [Int.natAbs_mul] at a
    have m := Nat.mul_le_mul_right (N n).natAbs (hd n (by omega))
    show (sI (fun r => c r * N r) n + c n * N n).natAbs ≤ sNt (fun r => h r * (N r).natAbs) n + h n * (N n).natAbs
    omega
theorem prd_c {h : Nat} : ∀ {n : Nat}, prd (fun _ => h) n = (h + 1) ^ n
  | 0 => rfl
  | n + 1 => by
    show (h + 1) * prd (fun _ => h) n = (h + 1) ^ (n + 1)
    rw [prd_c (n := n), Nat.pow_succ, Nat.mul_comm]
def hd1 {A : Type} (a : A) (f : Nat → A) : Nat → A
  | 0 => a
  | r + 1 => f r
theorem el_den {P : Nat → Nat → Rat} {m n : Nat} {T : Nat → Nat} {N : Nat → Nat → Int} {W : Nat → Int} {B h0 h1 Z : Nat} {x : Nat → Rat} (h : Mk P m m) (hn : n ≤ m) (hB : 0 < B) (hT : ∀ r, r < m → 0 < T r) (hN : ∀ r j, r < m → (j < m ∨ j = m) → ((N r j : Int) : Rat) = (T r : Rat) * (dl r j - P r j)) (hW : ∀ j, (j < m ∨ j = m) → ((W j : Int) : Rat) = -((B : Rat) * x j)) (hZ : ∀ j, j < n → h0 * (W (m - n + j)).natAbs + sNt (fun t => h1 * (N (m - n + t) (m - n + j)).natAbs) n ≤ Z) (hs : (2 * Z + 1) ^ n < (h0 + 1) * (h1 + 1) ^ n) : ∃ c : Nat, 0 < c ∧ c ≤ h0 ∧ ∀ j, (j < m - n ∨ j = m) → ∃ z : Int, ((c * B : Nat) : Rat) * elX P m x n j = (z : Rat) ∧ z.natAbs ≤ h0 * (W j).natAbs + sNt (fun t => h1 * (N (m - n + t) j).natAbs) n := by
  obtain ⟨c, c1, c2, c3⟩ := siegel (m := n) (n := n + 1) (N := fun r j => hd1 (W (m - n + j)) (fun t => N (m - n + t) (m - n + j)) r) (h := hd1 h0 (fun _ => h1)) (Z := Z) (fun j hj => by rw [sNt_head]; exact hZ j hj) (by show (2 * Z + 1) ^ n < (h0 + 1) * prd (fun _ => h1) n; rw [prd_c]; exact hs)
  have I : ∀ J, (J < m ∨ J = m) → cmb P (fun r => if r < m - n then 0 else (c (r - (m - n) + 1) : Rat) * (T r : Rat)) ((c 0 : Rat) * (B : Rat)) x m J = ((sI (fun t => c (t + 1) * N (m - n + t) J) n + c 0 * W J : Int) : Rat) := fun J hJ => by
    unfold cmb
    have e : smQ (fun r => (if r < m - n then 0 else (c (r - (m - n) + 1) : Rat) * (T r : Rat)) * (dl r J - P r J)) m = smQ (fun t => ((c (t + 1) * N (m - n + t) J : Int) : Rat)) n := by
      have s := smQ_sh (f := fun r => (if r < m - n then 0 else (c (r - (m - n) + 1) : Rat) * (T r : Rat)) * (dl r J - P r J)) (a := m - n) (fun r hr => by show (if r < m - n then 0 else (c (r - (m - n) + 1) : Rat) * (T r : Rat)) * (dl r J - P r J) = 0; rw [if_pos hr, Rat.zero_mul]) (n := n)
      rw [show m - n + n = m by omega] at s
      rw [s]
      refine smQ_c (fun t ht => ?_)
      show (if m - n + t < m - n then 0 else (c (m - n + t - (m - n) + 1) : Rat) * (T (m - n + t) : Rat)) * (dl (m - n + t) J - P (m - n + t) J) = _
      rw [if_neg (by omega), show m - n + t - (m - n) = t by omega, Rat.intCast_mul, hN (m - n + t) J (by omega) hJ, Rat.mul_assoc]
    rw [e, Rat.intCast_add, Rat.intCast_mul, hW J hJ, sI_cast]
    generalize smQ (fun t => ((c (t + 1) * N (m - n + t) J : Int) : Rat)) n = A
    grind
  have Z0 : ∀ J, m - n ≤ J → J < m → sI (fun t => c (t + 1) * N (m - n + t) J) n + c 0 * W J = 0 := fun J h1 h2 => by
    have e := c3 (J - (m - n)) (by omega)
    rw [sI_head] at e
    rw [show m - n + (J - (m - n)) = J by omega] at e
    have e : c 0 * W J + sI (fun t => c (t + 1) * N (m - n + t) J) n = 0 := e
    omega
  have a0 : ∀ r, r < m - n → (fun r => if r < m - n then (0 : Rat) else (c (r - (m - n) + 1) : Rat) * (T r : Rat)) r = 0 := fun r hr => if_pos hr
  have z0 : ∀ J, m - n ≤ J → J < m → cmb P (fun r => if r < m - n then 0 else (c (r - (m - n) + 1) : Rat) * (T r : Rat)) ((c 0 : Rat) * (B : Rat)) x m J = 0 := fun J h1 h2 => by
    rw [I J (Or.inl h2), Z0 J h1 h2]
    rfl
  have ne : c 0 ≠ 0 := fun z => by
    rw [z, Rat.intCast_zero, Rat.zero_mul] at z0
    obtain ⟨r, r1, r2⟩ := c1
    match r, r1, r2 with
    | 0, _, r2 => exact r2 z
    | t + 1, r1, r2 =>
      have e := el_z h hn a0 z0 (Nat.le_refl (m - n + t)) (by omega)
      have e : (if m - n + t < m - n then (0 : Rat) else (c (m - n + t - (m - n) + 1) : Rat) * (T (m - n + t) : Rat)) = 0 := e
      rw [if_neg (by omega), show m - n + t - (m - n) = t by omega] at e
      rcases Rat.mul_eq_zero.mp e with w | w
      · exact r2 (Rat.intCast_eq_zero_iff.mp w)
      · have := Rat.natCast_eq_zero_iff.mp w
        have := hT (m - n + t) (by omega)
        omega
  refine ⟨(c 0).natAbs, by omega, c2 0, fun j hj => ?_⟩
  have k := cmb_n h hn z0 j hj
  rw [I j (by omega)] at k
  have k2 : cmb (elN P m n) (fun r => if r < m - n then 0 else (c (r - (m - n) + 1) : Rat) * (T r : Rat)) ((c 0 : Rat) * (B : Rat)) (elX P m x n) (m - n) j = 0 - (c 0 : Rat) * (B : Rat) * elX P m x n j := by
    unfold cmb
    rw [smQ_0 (fun r hr => by rw [a0 r hr, Rat.zero_mul])]
  rw [k2] at k
  have bd : (sI (fun t => c (t + 1) * N (m - n + t) j) n + c 0 * W j).natAbs ≤ h0 * (W j).natAbs + sNt (fun t => h1 * (N (m - n + t) j).natAbs) n := by
    have a := sI_absI (c := fun t => c (t + 1)) (N := fun t => N (m - n + t) j) (h := fun _ => h1) (n := n) (fun r _ => c2 (r + 1))
    have b := Int.natAbs_add_le (sI (fun t => c (t + 1) * N (m - n + t) j) n) (c 0 * W j)
    rw [Int.natAbs_mul] at b
    have d := Nat.mul_le_mul_right (W j).natAbs (show (c 0).natAbs ≤ h0 from c2 0)
    omega
  by_cases p : 0 ≤ c 0
  · refine ⟨-(sI (fun t => c (t + 1) * N (m - n + t) j) n + c 0 * W j), ?_, by rw [Int.natAbs_neg]; exact bd⟩
    rw [Rat.intCast_neg, k, Rat.natCast_mul, ← Rat.intCast_natCast, show ((c 0).natAbs : Int) = c 0 by omega]
    generalize (c 0 : Rat) = u
    generalize elX P m x n j = y
    grind
  · refine ⟨sI (fun t => c (t + 1) * N (m - n + t) j) n + c 0 * W j, ?_, bd⟩
    rw [k, Rat.natCast_mul, ← Rat.intCast_natCast (c 0).natAbs, show ((c 0).natAbs : Int) = -(c 0) by omega, Rat.intCast_neg]
    generalize (c 0 : Rat) = u
    generalize elX P m x n j = y
    grind

end
section
set_option maxHeartbeats 1600000
/-! the sizes of the fractions of a ring -/
theorem sNt_le {f : Nat → Nat} {a : Nat} : ∀ {n : Nat}, (∀ t, t < n → f t ≤ a) → sNt f n ≤ n * a
  | 0, _ => Nat.zero_le _
  | n + 1, h => by
    have ih := sNt_le (f := f) (a := a) (n := n) (fun t ht => h t (by omega))
    have l := h n (by omega)
    show sNt f n + f n ≤ (n + 1) * a
    rw [Nat.add_mul, Nat.one_mul]
    omega
theorem siz {Z X h0 h1 n : Nat} (h : 2 * Z + 1 ≤ X * (h1 + 1)) (hX : X ^ n ≤ h0) : (2 * Z + 1) ^ n < (h0 + 1) * (h1 + 1) ^ n := by
  have a : (2 * Z + 1) ^ n ≤ (X * (h1 + 1)) ^ n := Nat.pow_le_pow_left h n
  rw [Nat.mul_pow] at a
  have b : X ^ n * (h1 + 1) ^ n ≤ h0 * (h1 + 1) ^ n := Nat.mul_le_mul_right _ hX
  have p : 0 < (h1 + 1) ^ n := Nat.pow_pos (Nat.succ_pos h1)
  rw [Nat.add_mul, Nat.one_mul]
  omega
theorem el_fit {P : Nat → Nat → Rat} {m n H : Nat} {T : Nat → Nat} {N : Nat → Nat → Int} {W : Nat → Int} {B : Nat} {x : Nat → Rat} (h : Mk P m m) (hn : n ≤ m) (hn2 : n ≤ 31) (hH : (2 ^ 29) ^ n ≤ H) (hB : 0 < B) (hT : ∀ r, r < m → 0 < T r) (hN : ∀ r j, r < m → (j < m ∨ j = m) → ((N r j : Int) : Rat) = (T r : Rat) * (dl r j - P r j)) (hW : ∀ j, (j < m ∨ j = m) → ((W j : Int) : Rat) = -((B : Rat) * x j)) (bN : ∀ r j, r < m → (j < m ∨ j = m) → (N r j).natAbs ≤ 2 ^ 23) (bW : ∀ j, (j < m ∨ j = m) → (W j).natAbs ≤ 2 ^ 23) : ∃ c : Nat, 0 < c ∧ c ≤ H ∧ ∀ j, (j < m - n ∨ j = m) → ∃ z : Int, ((c * B : Nat) : Rat) * elX P m x n j = (z : Rat) ∧ z.natAbs ≤ 2 ^ 28 * H := by
  have col : ∀ j, (j < m ∨ j = m) → H * (W j).natAbs + sNt (fun t => H * (N (m - n + t) j).natAbs) n ≤ 2 ^ 28 * H := fun j hj => by
    have a : H * (W j).natAbs ≤ H * 2 ^ 23 := Nat.mul_le_mul_left _ (bW j hj)
    have b : sNt (fun t => H * (N (m - n + t) j).natAbs) n ≤ n * (H * 2 ^ 23) := sNt_le (fun t ht => Nat.mul_le_mul_left _ (bN _ j (by omega) hj))
    have d : n * (H * 2 ^ 23) ≤ 31 * (H * 2 ^ 23) := Nat.mul_le_mul_right _ hn2
    omega
  obtain ⟨c, c1, c2, c3⟩ := el_den h hn hB hT hN hW (fun j hj => col (m - n + j) (by omega)) (siz (X := 2 ^ 29) (h1 := H) (by omega) hH)
  exact ⟨c, c1, c2, fun j hj => by
    obtain ⟨z, z1, z2⟩ := c3 j hj
    exact ⟨z, z1, Nat.le_trans z2 (col j (by omega))⟩⟩
/-- the same for a row whose own numbers reach up to G -/
theorem el_fit2 {P : Nat → Nat → Rat} {m n H G : Nat} {T : Nat → Nat} {N : Nat → Nat → Int} {W : Nat → Int} {B : Nat} {x : Nat → Rat} (h : Mk P m m) (hn : n ≤ m) (hn2 : n ≤ 31) (hH : (2 ^ 31) ^ n ≤ H) (hB : 0 < B) (hT : ∀ r, r < m → 0 < T r) (hN : ∀ r j, r < m → (j < m ∨ j = m) → ((N r j : Int) : Rat) = (T r : Rat) * (dl r j - P r j)) (hW : ∀ j, (j < m ∨ j = m) → ((W j : Int) : Rat) = -((B : Rat) * x j)) (bN : ∀ r j, r < m → (j < m ∨ j = m) → (N r j).natAbs ≤ 2 ^ 23) (bW : ∀ j, (j < m ∨ j = m) → (W j).natAbs ≤ 2 ^ 29 * G) : ∃ c : Nat, 0 < c ∧ c ≤ H ∧ ∀ j, (j < m - n ∨ j = m) → ∃ z : Int, ((c * B : Nat) : Rat) * elX P m x n j = (z : Rat) ∧ z.natAbs ≤ 2 ^ 30 * (H * G) := by
  have col : ∀ j, (j < m ∨ j = m) → H * (W j).natAbs + sNt (fun t => H * G * (N (m - n + t) j).natAbs) n ≤ 2 ^ 30 * (H * G) := fun j hj => by
    have a : H * (W j).natAbs ≤ H * (2 ^ 29 * G) := Nat.mul_le_mul_left _ (bW j hj)
    have b : sNt (fun t => H * G * (N (m - n + t) j).natAbs) n ≤ n * (H * G * 2 ^ 23) := sNt_le (fun t ht => Nat.mul_le_mul_left _ (bN _ j (by omega) hj))
    have d : n * (H * G * 2 ^ 23) ≤ 31 * (H * G * 2 ^ 23) := Nat.mul_le_mul_right _ hn2
    have e : H * (2 ^ 29 * G) = 2 ^ 29 * (H * G) := Nat.mul_left_comm ..
    omega
  obtain ⟨c, c1, c2, c3⟩ := el_den (h0 := H) (h1 := H * G) h hn hB hT hN hW (fun j hj => col (m - n + j) (by omega)) (siz (X := 2 ^ 31) (by omega) hH)
  exact ⟨c, c1, c2, fun j hj => by
    obtain ⟨z, z1, z2⟩ := c3 j hj
    exact ⟨z, z1, Nat.le_trans z2 (col j (by omega))⟩⟩
theorem pwH {n : Nat} (h : n ≤ 31) : (2 ^ 29) ^ n ≤ 2 ^ 899 ∧ (2 ^ 31) ^ n ≤ 2 ^ 961 := by
  rw [← Nat.pow_mul, ← Nat.pow_mul]
  exact ⟨Nat.pow_le_pow_right (by decide) (by omega), Nat.pow_le_pow_right (by decide) (by omega)⟩
theorem pw129 {k : Nat} (h : k < 2064) : 2 ^ k < 65536 ^ 129 := by
  rw [show (65536 : Nat) = 2 ^ 16 from rfl, ← Nat.pow_mul]
  exact Nat.pow_lt_pow_right (by decide) (by omega)
theorem fit_of {q : Rat} {M : Nat} {z : Int} (hM : M ≠ 0) (h : (M : Rat) * q = (z : Rat)) (b1 : M < 65536 ^ 129) (b2 : z.natAbs < 65536 ^ 129) : fit q := by
  have d := den_of hM h
  exact ⟨Nat.lt_of_le_of_lt d.2 b2, Nat.lt_of_le_of_lt (Nat.le_of_dvd (Nat.pos_of_ne_zero hM) d.1) b1⟩
/-- sums within one row -/
theorem row_sum {M : Nat} {f : Nat → Rat} : ∀ {n : Nat}, (∀ j, j < n → ∃ z : Int, (M : Rat) * f j = (z : Rat)) → ∃ z : Int, (M : Rat) * smQ f n = (z : Rat)
  | 0, _ => ⟨0, by show (M : Rat) * 0 = ((0 : Int) : Rat); rw [Rat.mul_zero]; rfl⟩
  | n + 1, h => by
    obtain ⟨a, ha⟩ := row_sum (n := n) (fun j hj => h j (by omega))
    obtain ⟨b, hb⟩ := h n (by omega)
    exact ⟨a + b, by rw [smQ_s, Rat.mul_add, ha, hb, Rat.intCast_add]⟩

end
section
set_option maxHeartbeats 1600000
/-! how often a ring's states are visited -/
theorem rc {a b U : Rat} (h : 0 < U) (e : a * U = b * U) : a = b := by
  have i := inv_s (S := U) (by grind)
  grind
theorem vis {P : Nat → Nat → Rat} {m : Nat} {T : Nat → Nat} {N : Nat → Nat → Int} {W : Nat → Int} {B h0 h1 Z : Nat} {x : Nat → Rat} (h : Mk P m m) (hT : ∀ r, r < m → 0 < T r) (hN : ∀ r j, r < m → (j < m ∨ j = m) → ((N r j : Int) : Rat) = (T r : Rat) * (dl r j - P r j)) (hW : ∀ j, (j < m ∨ j = m) → ((W j : Int) : Rat) = -((B : Rat) * x j)) (hZ : ∀ j, j < m → h0 * (W j).natAbs + sNt (fun t => h1 * (N t j).natAbs) m ≤ Z) (hs : (2 * Z + 1) ^ m < (h0 + 1) * (h1 + 1) ^ m) : ∃ c0 : Nat, ∃ c : Nat → Int, 0 < c0 ∧ c0 ≤ h0 ∧ (∀ r, (c r).natAbs ≤ h1) ∧ ∀ v : Nat → Rat, (∀ k, k < m → v k * elS (elN P m (m - 1 - k)) m k = smQ (fun r => v r * elN P m (m - 1 - k) r k) k + elX P m x (m - 1 - k) k) → ∀ k, k < m → ((c0 * B : Nat) : Rat) * v k = ((c k * T k : Int) : Rat) := by
  obtain ⟨c, c1, c2, c3⟩ := siegel (m := m) (n := m + 1) (N := fun r j => hd1 (W j) (fun t => N t j) r) (h := hd1 h0 (fun _ => h1)) (Z := Z) (fun j hj => by rw [sNt_head]; exact hZ j hj) (by show (2 * Z + 1) ^ m < (h0 + 1) * prd (fun _ => h1) m; rw [prd_c]; exact hs)
  have I : ∀ J, J < m → cmb P (fun r => (c (r + 1) : Rat) * (T r : Rat)) ((c 0 : Rat) * (B : Rat)) x m J = 0 := fun J hJ => by
    unfold cmb
    have e : smQ (fun r => (c (r + 1) : Rat) * (T r : Rat) * (dl r J - P r J)) m = smQ (fun t => ((c (t + 1) * N t J : Int) : Rat)) m := smQ_c (fun t ht => by rw [Rat.intCast_mul, hN t J ht (Or.inl hJ), Rat.mul_assoc])
    have z := c3 J hJ
    rw [sI_head] at z
    have z : c 0 * W J + sI (fun t => c (t + 1) * N t J) m = 0 := z
    have z2 : ((c 0 * W J + sI (fun t => c (t + 1) * N t J) m : Int) : Rat) = 0 := by rw [z]; rfl
    rw [Rat.intCast_add, Rat.intCast_mul, hW J (Or.inl hJ), sI_cast] at z2
    rw [e]
    generalize smQ (fun t => ((c (t + 1) * N t J : Int) : Rat)) m = A at z2 ⊢
    grind
  have ne : c 0 ≠ 0 := fun z => by
    rw [z, Rat.intCast_zero, Rat.zero_mul] at I
    obtain ⟨r, r1, r2⟩ := c1
    match r, r1, r2 with
    | 0, _, r2 => exact r2 z
    | t + 1, r1, r2 =>
      have e := el_z h (Nat.le_refl m) (fun r hr => absurd hr (by omega)) (fun j _ hj => I j hj) (Nat.le_refl t) (by omega)
      rcases Rat.mul_eq_zero.mp e with w | w
      · exact r2 (Rat.intCast_eq_zero_iff.mp w)
      · have := Rat.natCast_eq_zero_iff.mp w
        have := hT t (by omega)
        omega
  have key : ∀ v : Nat → Rat, (∀ k, k < m → v k * elS (elN P m (m - 1 - k)) m k = smQ (fun r => v r * elN P m (m - 1 - k) r k) k + elX P m x (m - 1 - k) k) → ∀ K k, k ≤ K → k < m → (c 0 : Rat) * (B : Rat) * v k = (c (k + 1) : Rat) * (T k : Rat) := fun v hv K => by
    induction K with
    | zero =>
      intro k hK hk
      have M := Mk_n h (n := m - 1 - k) (by omega)
      have q := cmb_n h (n := m - 1 - k) (by omega) (fun j h1 h2 => I j h2) k (Or.inl (by omega))
      rw [show m - (m - 1 - k) = k + 1 by omega] at q M
      rw [I k hk] at q
      have S := Mk_S M
      have a := (cmb_s (m := m) (by have := S.1; grind) S.2 q.symm).1
      have b := hv k hk
      rw [show k = 0 by omega] at a b ⊢
      refine rc (U := elS (elN P m (m - 1 - 0)) m 0) (by have := S.1; rw [show k = 0 by omega] at this; exact this) ?_
      have a : (c (0 + 1) : Rat) * (T 0 : Rat) * elS (elN P m (m - 1 - 0)) m 0 = 0 + (c 0 : Rat) * (B : Rat) * elX P m x (m - 1 - 0) 0 := a
      have b : v 0 * elS (elN P m (m - 1 - 0)) m 0 = 0 + elX P m x (m - 1 - 0) 0 := b
      grind
    | succ K ih =>
      intro k hK hk
      have M := Mk_n h (n := m - 1 - k) (by omega)
      have q := cmb_n h (n := m - 1 - k) (by omega) (fun j h1 h2 => I j h2) k (Or.inl (by omega))
      rw [show m - (m - 1 - k) = k + 1 by omega] at q M
      rw [I k hk] at q
      have S := Mk_S M
      have a := (cmb_s (m := m) (by have := S.1; grind) S.2 q.symm).1
      have b := hv k hk
      refine rc S.1 ?_
      have e : smQ (fun r => (c (r + 1) : Rat) * (T r : Rat) * elN P m (m - 1 - k) r k) k = smQ (fun r => v r * elN P m (m - 1 - k) r k) k * ((c 0 : Rat) * (B : Rat)) := by
        rw [← smQ_mul]
        refine smQ_c (fun r hr => ?_)
        show (c (r + 1) : Rat) * (T r : Rat) * elN P m (m - 1 - k) r k = v r * elN P m (m - 1 - k) r k * ((c 0 : Rat) * (B : Rat))
        rw [← ih r (by omega) (by omega)]
        grind
      have a : (c (k + 1) : Rat) * (T k : Rat) * elS (elN P m (m - 1 - k)) m k = smQ (fun r => (c (r + 1) : Rat) * (T r : Rat) * elN P m (m - 1 - k) r k) k + (c 0 : Rat) * (B : Rat) * elX P m x (m - 1 - k) k := a
      rw [e] at a
      generalize smQ (fun r => v r * elN P m (m - 1 - k) r k) k = A at a b
      generalize elS (elN P m (m - 1 - k)) m k = U at a b ⊢
      generalize elX P m x (m - 1 - k) k = y at a b
      grind
  by_cases p : 0 ≤ c 0
  · refine ⟨(c 0).natAbs, fun r => c (r + 1), by omega, c2 0, fun r => c2 (r + 1), fun v hv k hk => ?_⟩
    have e := key v hv k k (Nat.le_refl k) hk
    rw [Rat.natCast_mul, ← Rat.intCast_natCast (c 0).natAbs, show ((c 0).natAbs : Int) = c 0 by omega, Rat.intCast_mul, Rat.intCast_natCast, e]
  · refine ⟨(c 0).natAbs, fun r => -c (r + 1), by omega, c2 0, fun r => by rw [Int.natAbs_neg]; exact c2 (r + 1), fun v hv k hk => ?_⟩
    have e := key v hv k k (Nat.le_refl k) hk
    rw [Rat.natCast_mul, ← Rat.intCast_natCast (c 0).natAbs, show ((c 0).natAbs : Int) = -(c 0) by omega, Rat.intCast_mul, Rat.intCast_natCast, Rat.intCast_neg, Rat.intCast_neg]
    generalize (c 0 : Rat) = u at e ⊢
    generalize (c (k + 1) : Rat) = w at e ⊢
    grind

end
section
set_option maxHeartbeats 1600000
/-! the fractions of a ring have at most 129 places -/
theorem elX_add {P : Nat → Nat → Rat} {m : Nat} {x y : Nat → Rat} : ∀ {n j : Nat}, elX P m (fun j => x j + y j) n j = elX P m x n j + elX P m y n j
  | 0, _ => rfl
  | n + 1, j => by
    show elX P m (fun j => x j + y j) n j + elX P m (fun j => x j + y j) n (m - 1 - n) * elN P m n (m - 1 - n) j * (elS (elN P m n) m (m - 1 - n))⁻¹ = elX P m x n j + elX P m x n (m - 1 - n) * elN P m n (m - 1 - n) j * (elS (elN P m n) m (m - 1 - n))⁻¹ + (elX P m y n j + elX P m y n (m - 1 - n) * elN P m n (m - 1 - n) j * (elS (elN P m n) m (m - 1 - n))⁻¹)
    rw [elX_add (n := n), elX_add (n := n)]
    generalize (elS (elN P m n) m (m - 1 - n))⁻¹ = U
    generalize elN P m n (m - 1 - n) j = A
    grind
theorem elX_mul {P : Nat → Nat → Rat} {m : Nat} {x : Nat → Rat} {c : Rat} : ∀ {n j : Nat}, elX P m (fun j => c * x j) n j = c * elX P m x n j
  | 0, _ => rfl
  | n + 1, j => by
    show elX P m (fun j => c * x j) n j + elX P m (fun j => c * x j) n (m - 1 - n) * elN P m n (m - 1 - n) j * (elS (elN P m n) m (m - 1 - n))⁻¹ = c * (elX P m x n j + elX P m x n (m - 1 - n) * elN P m n (m - 1 - n) j * (elS (elN P m n) m (m - 1 - n))⁻¹)
    rw [elX_mul (n := n), elX_mul (n := n)]
    generalize (elS (elN P m n) m (m - 1 - n))⁻¹ = U
    generalize elN P m n (m - 1 - n) j = A
    grind
theorem elX_sum {P : Nat → Nat → Rat} {m : Nat} {x v : Nat → Rat} {n j : Nat} : ∀ {t : Nat}, elX P m (fun j => x j + smQ (fun r => v r * P r j) t) n j = elX P m x n j + smQ (fun r => v r * elN P m n r j) t
  | 0 => by
    have e : (fun j => x j + smQ (fun r => v r * P r j) 0) = x := funext (fun j => Rat.add_zero (x j))
    rw [e]
    exact (Rat.add_zero _).symm
  | t + 1 => by
    have e : (fun j => x j + smQ (fun r => v r * P r j) (t + 1)) = (fun j => (x j + smQ (fun r => v r * P r j) t) + v t * P t j) := funext (fun j => by rw [smQ_s, Rat.add_assoc])
    rw [e, elX_add (x := fun j => x j + smQ (fun r => v r * P r j) t) (y := fun j => v t * P t j), elX_sum (t := t), elX_mul (x := P t), elX_row, smQ_s, Rat.add_assoc]
/-- whole weights: T the totals, K the weights -/
def whl (P : Nat → Nat → Rat) (m : Nat) (T : Nat → Nat) (K : Nat → Nat → Int) : Prop := (∀ r, r < m → 0 < T r ∧ T r ≤ 2 ^ 23) ∧ ∀ r j, r < m → (j < m ∨ j = m) → ((K r j : Int) : Rat) = (T r : Rat) * P r j ∧ 0 ≤ K r j ∧ K r j ≤ (T r : Int)
def nnI (T : Nat → Nat) (K : Nat → Nat → Int) (r j : Nat) : Int := (if r = j then (T r : Int) else 0) - K r j
theorem nnI_v {P : Nat → Nat → Rat} {m : Nat} {T : Nat → Nat} {K : Nat → Nat → Int} (h : whl P m T K) {r j : Nat} (hr : r < m) (hj : j < m ∨ j = m) : ((nnI T K r j : Int) : Rat) = (T r : Rat) * (dl r j - P r j) ∧ (nnI T K r j).natAbs ≤ 2 ^ 23 := by
  have k := h.2 r j hr hj
  have t := h.1 r hr
  unfold nnI dl
  constructor
  · rw [Rat.intCast_sub, k.1]
    split
    · rw [Rat.intCast_natCast]; grind
    · rw [Rat.intCast_zero]; grind
  · split <;> omega
theorem F1 {P : Nat → Nat → Rat} {m n i : Nat} {T : Nat → Nat} {K : Nat → Nat → Int} (h : Mk P m m) (hw : whl P m T K) (hm : m ≤ 32) (hi : i < m - n) : ∃ M : Nat, 0 < M ∧ M ≤ 2 ^ 922 ∧ ∀ j, (j < m - n ∨ j = m) → ∃ z : Int, (M : Rat) * elN P m n i j = (z : Rat) ∧ z.natAbs ≤ 2 ^ 927 := by
  have t := hw.1 i (by omega)
  obtain ⟨c, c1, c2, c3⟩ := el_fit (x := P i) (W := fun j => -K i j) (B := T i) h (by omega) (by omega) (pwH (by omega : n ≤ 31)).1 t.1 (fun r hr => (hw.1 r hr).1) (fun r j hr hj => (nnI_v hw hr hj).1) (fun j hj => by rw [Rat.intCast_neg, (hw.2 i j (by omega) hj).1]) (fun r j hr hj => (nnI_v hw hr hj).2) (fun j hj => by have := (hw.2 i j (by omega) hj).2; show (-K i j).natAbs ≤ _; omega)
  refine ⟨c * T i, Nat.mul_pos c1 t.1, ?_, fun j hj => ?_⟩
  · have := Nat.mul_le_mul c2 t.2
    rwa [← Nat.pow_add] at this
  · obtain ⟨z, z1, z2⟩ := c3 j hj
    rw [elX_row] at z1
    rw [← Nat.pow_add] at z2
    exact ⟨z, z1, z2⟩
theorem F1f {P : Nat → Nat → Rat} {m n i j : Nat} {T : Nat → Nat} {K : Nat → Nat → Int} (h : Mk P m m) (hw : whl P m T K) (hm : m ≤ 32) (hi : i < m - n) (hj : j < m - n ∨ j = m) : fit (elN P m n i j) := by
  obtain ⟨M, m1, m2, m3⟩ := F1 h hw hm hi
  obtain ⟨z, z1, z2⟩ := m3 j hj
  exact fit_of (by omega) z1 (Nat.lt_of_le_of_lt m2 (pw129 (by omega))) (Nat.lt_of_le_of_lt z2 (pw129 (by omega)))

end
section
set_option maxHeartbeats 1600000
/-! the same for the sums on the way, and for the visits -/
theorem unit_fit {q : Rat} {M : Nat} {z : Int} (q0 : 0 ≤ q) (q1 : q ≤ 1) (hM : 0 < M) (h : (M : Rat) * q = (z : Rat)) (hb : M < 65536 ^ 129) : fit q := by
  have m0 : (0 : Rat) ≤ (M : Rat) := Rat.natCast_nonneg
  have a := Rat.mul_nonneg m0 q0
  have b := Rat.mul_le_mul_of_nonneg_left q1 m0
  rw [h] at a b
  rw [Rat.mul_one, ← Rat.intCast_natCast] at b
  have z0 := Rat.intCast_nonneg.mp a
  have z1 := Rat.intCast_le_intCast.mp b
  exact fit_of (by omega) h hb (by omega)
theorem smQ_mono {f : Nat → Rat} {t : Nat} : ∀ {n : Nat}, t ≤ n → (∀ i, i < n → 0 ≤ f i) → smQ f t ≤ smQ f n
  | 0, ht, _ => by rw [show t = 0 by omega]; exact Rat.le_refl
  | n + 1, ht, h => by
    by_cases e : t = n + 1
    · rw [e]; exact Rat.le_refl
    · have ih := smQ_mono (n := n) (by omega : t ≤ n) (fun i hi => h i (by omega))
      have l := h n (by omega)
      rw [smQ_s]
      grind
theorem F2 {P : Nat → Nat → Rat} {m n i t : Nat} {T : Nat → Nat} {K : Nat → Nat → Int} (h : Mk P m m) (hw : whl P m T K) (hm : m ≤ 32) (hi : i < m - n) (ht : t ≤ m - n) : fit (elN P m n i m + smQ (elN P m n i) t) := by
  obtain ⟨M, m1, m2, m3⟩ := F1 h hw hm hi
  have Q := Mk_n h (n := n) (by omega)
  obtain ⟨a, ha⟩ := row_sum (M := M) (f := elN P m n i) (n := t) (fun j hj => by
    obtain ⟨z, z1, _⟩ := m3 j (Or.inl (by omega))
    exact ⟨z, z1⟩)
  obtain ⟨b, hb, _⟩ := m3 m (Or.inr rfl)
  have nn : ∀ j, j < m - n → 0 ≤ elN P m n i j := fun j hj => Q.1 i j hi (Or.inl hj)
  have s := Q.2.1 i hi
  have l := smQ_mono ht nn
  have p := smQ_nn (f := elN P m n i) (n := t) (fun j hj => nn j (by omega))
  have o := Q.1 i m hi (Or.inr rfl)
  refine unit_fit (M := M) (z := b + a) (Rat.add_nonneg o p) ?_ m1 ?_ (Nat.lt_of_le_of_lt m2 (pw129 (by omega)))
  · grind
  · rw [Rat.mul_add, ha, hb, Rat.intCast_add]
def unW (a j : Nat) : Int := if a = j then -1 else 0
theorem unW_v {a j : Nat} : ((unW a j : Int) : Rat) = -(((1 : Nat) : Rat) * dl a j) ∧ (unW a j).natAbs ≤ 1 := by
  unfold unW dl
  constructor
  · split
    · rw [Rat.mul_one]; rfl
    · rw [Rat.mul_zero]; rfl
  · split <;> decide
theorem F3 {P : Nat → Nat → Rat} {m n a j : Nat} {T : Nat → Nat} {K : Nat → Nat → Int} (h : Mk P m m) (hw : whl P m T K) (hm : m ≤ 32) (hj : j < m - n) : fit (elX P m (dl a) n j) := by
  obtain ⟨c, c1, c2, c3⟩ := el_fit (x := dl a) (W := unW a) (B := 1) h (by omega) (by omega) (pwH (by omega : n ≤ 31)).1 (by decide) (fun r hr => (hw.1 r hr).1) (fun r j hr hj => (nnI_v hw hr hj).1) (fun j _ => unW_v.1) (fun r j hr hj => (nnI_v hw hr hj).2) (fun j _ => Nat.le_trans (unW_v (a := a) (j := j)).2 (by decide))
  obtain ⟨z, z1, z2⟩ := c3 j (Or.inl hj)
  rw [← Nat.pow_add] at z2
  rw [Nat.mul_one] at z1
  exact fit_of (by omega) z1 (Nat.lt_of_le_of_lt c2 (pw129 (by omega))) (Nat.lt_of_le_of_lt z2 (pw129 (by omega)))
/-- the visits of a ring's states, from the state a -/
def vsI (P : Nat → Nat → Rat) (m a : Nat) (v : Nat → Rat) : Prop := ∀ k, k < m → v k * elS (elN P m (m - 1 - k)) m k = smQ (fun r => v r * elN P m (m - 1 - k) r k) k + elX P m (dl a) (m - 1 - k) k
theorem F5 {P : Nat → Nat → Rat} {m a : Nat} {T : Nat → Nat} {K : Nat → Nat → Int} {H : Nat} (h : Mk P m m) (hw : whl P m T K) (hm : m ≤ 32) (hH : (2 ^ 30) ^ m ≤ H) : ∃ c0 : Nat, ∃ c : Nat → Int, 0 < c0 ∧ c0 ≤ H ∧ (∀ r, (c r).natAbs ≤ H) ∧ ∀ v : Nat → Rat, vsI P m a v → ∀ k, k < m → (c0 : Rat) * v k = ((c k * T k : Int) : Rat) := by
  obtain ⟨c0, c, c1, c2, c3, c4⟩ := vis (x := dl a) (W := unW a) (B := 1) (N := nnI T K) (h0 := H) (h1 := H) (Z := 2 ^ 29 * H) h (fun r hr => (hw.1 r hr).1) (fun r j hr hj => (nnI_v hw hr hj).1) (fun j _ => unW_v.1) (fun j hj => by
    have x : H * (unW a j).natAbs ≤ H * 1 := Nat.mul_le_mul_left _ unW_v.2
    have b : sNt (fun t => H * (nnI T K t j).natAbs) m ≤ m * (H * 2 ^ 23) := sNt_le (fun t ht => Nat.mul_le_mul_left _ (nnI_v hw ht (Or.inl hj)).2)
    have d : m * (H * 2 ^ 23) ≤ 32 * (H * 2 ^ 23) := Nat.mul_le_mul_right _ hm
    omega) (siz (X := 2 ^ 30) (by omega) hH)
  refine ⟨c0, c, c1, c2, c3, fun v hv k hk => ?_⟩
  have e := c4 v hv k hk
  rw [Nat.mul_one] at e
  exact e
theorem pw30 {m : Nat} (h : m ≤ 32) : (2 ^ 30) ^ m ≤ 2 ^ 960 := by
  rw [← Nat.pow_mul]
  exact Nat.pow_le_pow_right (by decide) (by omega)
theorem F5f {P : Nat → Nat → Rat} {m a k : Nat} {T : Nat → Nat} {K : Nat → Nat → Int} {v : Nat → Rat} (h : Mk P m m) (hw : whl P m T K) (hm : m ≤ 32) (hv : vsI P m a v) (hk : k < m) : fit (v k) := by
  obtain ⟨c0, c, c1, c2, c3, c4⟩ := F5 (a := a) h hw hm (pw30 hm)
  refine fit_of (by omega) (c4 v hv k hk) (Nat.lt_of_le_of_lt c2 (pw129 (by omega))) ?_
  rw [Int.natAbs_mul, Int.natAbs_natCast]
  have z := Nat.mul_le_mul (c3 k) (hw.1 k hk).2
  rw [← Nat.pow_add] at z
  exact Nat.lt_of_le_of_lt z (pw129 (by omega))
def ptW (c0 : Nat) (c : Nat → Int) (K : Nat → Nat → Int) (a t j : Nat) : Int := -((if a = j then (c0 : Int) else 0) + sI (fun r => c r * K r j) t)
theorem F4 {P : Nat → Nat → Rat} {m a k t : Nat} {T : Nat → Nat} {K : Nat → Nat → Int} {v : Nat → Rat} (h : Mk P m m) (hw : whl P m T K) (hm : m ≤ 32) (hv : vsI P m a v) (hk : k < m) (ht : t ≤ k) : fit (elX P m (dl a) (m - 1 - k) k + smQ (fun r => v r * elN P m (m - 1 - k) r k) t) := by
  obtain ⟨c0, c, c1, c2, c3, c4⟩ := F5 (a := a) h hw hm (pw30 hm)
  have wv : ∀ j, (j < m ∨ j = m) → ((ptW c0 c K a t j : Int) : Rat) = -((c0 : Rat) * (dl a j + smQ (fun r => v r * P r j) t)) := fun j hj => by
    unfold ptW
    have e : smQ (fun r => ((c r * K r j : Int) : Rat)) t = smQ (fun r => v r * P r j) t * (c0 : Rat) := by
      rw [← smQ_mul]
      refine smQ_c (fun r hr => ?_)
      have z := c4 v hv r (by omega)
      rw [Rat.intCast_mul, (hw.2 r j (by omega) hj).1]
      rw [Rat.intCast_mul, Rat.intCast_natCast] at z
      show (c r : Rat) * ((T r : Rat) * P r j) = v r * P r j * (c0 : Rat)
      rw [← Rat.mul_assoc, ← z]
      grind
    rw [Rat.intCast_neg, Rat.intCast_add, sI_cast, e]
    generalize smQ (fun r => v r * P r j) t = A
    unfold dl
    split
    · rw [Rat.intCast_natCast]; grind
    · rw [Rat.intCast_zero]; grind
  have wb : ∀ j, (j < m ∨ j = m) → (ptW c0 c K a t j).natAbs ≤ 2 ^ 29 * 2 ^ 960 := fun j hj => by
    unfold ptW
    have b := sI_absI (c := c) (N := fun r => K r j) (h := fun _ => 2 ^ 960) (n := t) (fun r _ => c3 r)
    have d : sNt (fun r => 2 ^ 960 * (K r j).natAbs) t ≤ t * (2 ^ 960 * 2 ^ 23) := sNt_le (fun r hr => Nat.mul_le_mul_left _ (by
      have q := (hw.2 r j (by omega) hj).2
      have u := (hw.1 r (by omega)).2
      omega))
    have f : t * (2 ^ 960 * 2 ^ 23) ≤ 32 * (2 ^ 960 * 2 ^ 23) := Nat.mul_le_mul_right _ (by omega)
    have g := Int.natAbs_add_le (if a = j then (c0 : Int) else 0) (sI (fun r => c r * K r j) t)
    have i : (if a = j then (c0 : Int) else 0).natAbs ≤ c0 := by
      split
      · exact Nat.le_of_eq (Int.natAbs_natCast c0)
      · exact Nat.zero_le _
    rw [Int.natAbs_neg]
    generalize (2 : Nat) ^ 960 = G at *
    omega
  obtain ⟨d, d1, d2, d3⟩ := el_fit2 (x := fun j => dl a j + smQ (fun r => v r * P r j) t) (n := m - 1 - k) (W := ptW c0 c K a t) (B := c0) (G := 2 ^ 960) h (by omega) (by omega) (pwH (by omega)).2 c1 (fun r hr => (hw.1 r hr).1) (fun r j hr hj => (nnI_v hw hr hj).1) wv (fun r j hr hj => (nnI_v hw hr hj).2) wb
  obtain ⟨z, z1, z2⟩ := d3 k (Or.inl (by omega))
  rw [elX_sum] at z1
  have M := Nat.mul_le_mul d2 c2
  rw [← Nat.pow_add] at M z2
  rw [← Nat.pow_add] at z2
  exact fit_of (Nat.mul_ne_zero (by omega) (by omega)) z1 (Nat.lt_of_le_of_lt M (pw129 (by omega))) (Nat.lt_of_le_of_lt z2 (pw129 (by omega)))

end
section
set_option maxHeartbeats 1600000
/-! the reference: a ring folded -/
theorem ixs {a b : Int32} (a0 : 0 ≤ a) (a1 : a < 32) (b0 : 0 ≤ b) (b1 : b < 32) : (0 ≤ 32 * a + b ∧ 32 * a + b < 2176) ∧ (32 * a + b).toNatClampNeg = 32 * a.toNatClampNeg + b.toNatClampNeg ∧ a.toNatClampNeg < 32 ∧ b.toNatClampNeg < 32 := by
  have x := t0 a0
  have y := Int32.lt_iff_toInt_lt.mp a1
  have z := t0 b0
  have w := Int32.lt_iff_toInt_lt.mp b1
  rw [show (32 : Int32).toInt = 32 from rfl] at y w
  have e : (32 * a).toInt = 32 * a.toInt := by
    rw [Int32.toInt_mul, show (32 : Int32).toInt = 32 from rfl]
    exact Int.bmod_eq_of_le (by omega) (by omega)
  have p : 0 ≤ 32 * a := Int32.le_iff_toInt_le.mpr (by rw [e, Int32.toInt_zero]; omega)
  have f := i_add p b0 (by omega)
  have q : 0 ≤ 32 * a + b := Int32.le_iff_toInt_le.mpr (by rw [f, Int32.toInt_zero]; omega)
  have c1 := cn_int a0
  have c2 := cn_int b0
  have c3 := cn_int q
  exact ⟨⟨q, Int32.lt_iff_toInt_lt.mpr (by rw [f, show (2176 : Int32).toInt = 2176 from rfl]; omega)⟩, by omega, by omega, by omega⟩
theorem ixc {c a : Int32} (c0 : 0 ≤ c) (c1 : c ≤ 1088) (a0 : 0 ≤ a) (a1 : a < 32) : (0 ≤ c + a ∧ c + a < 2176) ∧ (c + a).toNatClampNeg = c.toNatClampNeg + a.toNatClampNeg ∧ a.toNatClampNeg < 32 := by
  have x := t0 a0
  have y := Int32.lt_iff_toInt_lt.mp a1
  have z := t0 c0
  have w := ti c1
  rw [show (32 : Int32).toInt = 32 from rfl] at y
  rw [show (1088 : Int32).toInt = 1088 from rfl] at w
  have f := i_add c0 a0 (by omega)
  have q : 0 ≤ c + a := Int32.le_iff_toInt_le.mpr (by rw [f, Int32.toInt_zero]; omega)
  have k1 := cn_int a0
  have k2 := cn_int c0
  have k3 := cn_int q
  exact ⟨⟨q, Int32.lt_iff_toInt_lt.mpr (by rw [f, show (2176 : Int32).toInt = 2176 from rfl]; omega)⟩, by omega, by omega⟩
theorem ks : (1024 : Int32).toNatClampNeg = 1024 ∧ (1056 : Int32).toNatClampNeg = 1056 ∧ (1088 : Int32).toNatClampNeg = 1088 := ⟨rfl, rfl, rfl⟩
/-- the stage at which an entry is left behind -/
def stF (m n i j : Nat) : Nat := if j = m then min n (m - 1 - i) else min n (m - 1 - max i j)
/-- the slots of a ring: entries at their stages, what leaves the states taken out -/
def fdJ (τ : rS) (P : Nat → Nat → Rat) (m : Nat) (F : Nat → Nat → Nat) (k : Nat) : Prop := (∀ i j, i < m → j < m → hL τ (32 * i + j) (elN P m (F i j) i j)) ∧ (∀ i, i < m → hL τ (1024 + i) (elN P m (F i m) i m)) ∧ ∀ l, k ≤ l → l < m → hL τ (1056 + l) (elS (elN P m (m - 1 - l)) m l)
/-- on the way through the rows: before row i, in it before column j -/
def stG (m n i j : Nat) : Nat → Nat → Nat := fun r c => if r < m - 1 - n ∧ (c < m - 1 - n ∨ c = m) ∧ (r < i ∨ (r = i ∧ c < j)) then n + 1 else stF m n r c
theorem stG_0 {m n r c : Nat} : stG m n 0 0 r c = stF m n r c := by
  unfold stG
  rw [if_neg (by omega)]
theorem stG_e {m n r c : Nat} (hn : n < m) (hr : r < m) (hc : c < m ∨ c = m) : stG m n (m - 1 - n) 0 r c = stF m (n + 1) r c := by
  unfold stG stF
  split
  · split <;> omega
  · split <;> omega
theorem stG_r {m n i r c : Nat} (hi : i < m - 1 - n) (hc : c < m ∨ c = m) : stG m n (i + 1) 0 r c = if r = i ∧ c = m then n + 1 else stG m n i (m - 1 - n) r c := by
  unfold stG
  by_cases e : r = i ∧ c = m
  · rw [if_pos (by omega), if_pos e]
  · rw [if_neg e]
    by_cases q : r < m - 1 - n ∧ (c < m - 1 - n ∨ c = m) ∧ (r < i + 1 ∨ (r = i + 1 ∧ c < 0))
    · rw [if_pos q, if_pos (by omega)]
    · rw [if_neg q, if_neg (by omega)]
theorem stG_c {m n i j r c : Nat} (hi : i < m - 1 - n) (hj : j < m - 1 - n) : stG m n i (j + 1) r c = if r = i ∧ c = j then n + 1 else stG m n i j r c := by
  unfold stG
  by_cases e : r = i ∧ c = j
  · rw [if_pos (by omega), if_pos e]
  · rw [if_neg e]
    by_cases q : r < m - 1 - n ∧ (c < m - 1 - n ∨ c = m) ∧ (r < i ∨ (r = i ∧ c < j + 1))
    · rw [if_pos q, if_pos (by omega)]
    · rw [if_neg q, if_neg (by omega)]
theorem fdJ_e {σ τ : rS} {P : Nat → Nat → Rat} {m k : Nat} {F : Nat → Nat → Nat} (h : τ.2.2.1 93 = σ.2.2.1 93) (J : fdJ σ P m F k) : fdJ τ P m F k := ⟨fun i j hi hj => hL_e (fun _ _ _ => by rw [h]) (J.1 i j hi hj), fun i hi => hL_e (fun _ _ _ => by rw [h]) (J.2.1 i hi), fun l h1 h2 => hL_e (fun _ _ _ => by rw [h]) (J.2.2 l h1 h2)⟩
theorem fdJ_F {τ : rS} {P : Nat → Nat → Rat} {m k : Nat} {F G : Nat → Nat → Nat} (J : fdJ τ P m F k) (h : ∀ i j, i < m → (j < m ∨ j = m) → G i j = F i j) : fdJ τ P m G k := ⟨fun i j hi hj => by rw [h i j hi (Or.inl hj)]; exact J.1 i j hi hj, fun i hi => by rw [h i m hi (Or.inr rfl)]; exact J.2.1 i hi, J.2.2⟩
theorem fdJ_k {l : List Nat} {σ τ : rS} {P : Nat → Nat → Rat} {m k : Nat} {F : Nat → Nat → Nat} (hm : m ≤ 32) (f : frK l (260 * (1056 + k)) (260 * (1056 + k) + 260) σ τ) (J : fdJ σ P m F (k + 1)) (hn : hL τ (1056 + k) (elS (elN P m (m - 1 - k)) m k)) : fdJ τ P m F k := by
  refine ⟨fun i j hi hj => hL_K f (by omega) (J.1 i j hi hj), fun i hi => hL_K f (by omega) (J.2.1 i hi), fun l h1 h2 => ?_⟩
  by_cases e : l = k
  · rw [e]; exact hn
  · exact hL_K f (by omega) (J.2.2 l (by omega) h2)
theorem fdJ_u {l : List Nat} {σ τ : rS} {P : Nat → Nat → Rat} {m k n i j : Nat} {F G : Nat → Nat → Nat} (hm : m ≤ 32) (hi : i < m) (hj : j < m) (f : frK l (260 * (32 * i + j)) (260 * (32 * i + j) + 260) σ τ) (J : fdJ σ P m F k) (hn : hL τ (32 * i + j) (elN P m (n + 1) i j)) (hG : ∀ r c, r < m → (c < m ∨ c = m) → G r c = if r = i ∧ c = j then n + 1 else F r c) : fdJ τ P m G k := by
  refine ⟨fun r c hr hc => ?_, fun r hr => ?_, fun l h1 h2 => hL_K f (by omega) (J.2.2 l h1 h2)⟩
  · rw [hG r c hr (Or.inl hc)]
    by_cases e : r = i ∧ c = j
    · rw [if_pos e, e.1, e.2]; exact hn
    · rw [if_neg e]; exact hL_K f (by omega) (J.1 r c hr hc)
  · rw [hG r m hr (Or.inr rfl), if_neg (by omega)]
    exact hL_K f (by omega) (J.2.1 r hr)
theorem fdJ_o {l : List Nat} {σ τ : rS} {P : Nat → Nat → Rat} {m k n i : Nat} {F G : Nat → Nat → Nat} (hm : m ≤ 32) (hi : i < m) (f : frK l (260 * (1024 + i)) (260 * (1024 + i) + 260) σ τ) (J : fdJ σ P m F k) (hn : hL τ (1024 + i) (elN P m (n + 1) i m)) (hG : ∀ r c, r < m → (c < m ∨ c = m) → G r c = if r = i ∧ c = m then n + 1 else F r c) : fdJ τ P m G k := by
  refine ⟨fun r c hr hc => ?_, fun r hr => ?_, fun l h1 h2 => hL_K f (by omega) (J.2.2 l h1 h2)⟩
  · rw [hG r c hr (Or.inl hc), if_neg (by omega)]
    exact hL_K f (by omega) (J.1 r c hr hc)
  · rw [hG r m hr (Or.inr rfl)]
    by_cases e : r = i
    · rw [if_pos ⟨e, rfl⟩, e]; exact hn
    · rw [if_neg (by omega)]; exact hL_K f (by omega) (J.2.1 r hr)
theorem stG_n {m n i j : Nat} (hn : n < m) (hi : i < m - 1 - n) (hj : j ≤ m - 1 - n) : stG m n i j i j = n ∧ stG m n i j i (m - 1 - n) = n ∧ (∀ c, (c ≤ m - 1 - n ∨ c = m) → stG m n i j (m - 1 - n) c = n) ∧ stG m n i j i m = n := by
  unfold stG stF
  refine ⟨?_, ?_, fun c hc => ?_, ?_⟩
  · rw [if_neg (by omega), if_neg (by omega)]; omega
  · rw [if_neg (by omega), if_neg (by omega)]; omega
  · rw [if_neg (by omega)]
    split <;> omega
  · rw [if_neg (by omega), if_pos rfl]; omega
theorem stF_k {m n c : Nat} (hn : n < m) (hc : c ≤ m - 1 - n ∨ c = m) : stF m n (m - 1 - n) c = n := by
  unfold stF
  split <;> omega
theorem fit_neg {q : Rat} (h : fit q) : fit (-q) := ⟨by rw [Rat.neg_num, Int.natAbs_neg]; exact h.1, h.2⟩
theorem hS_N {l : List Nat} {σ τ : rS} {p : Rat} (f : frN l σ τ) (h4 : 4 ∉ l) (h5 : 5 ∉ l) (h : hS σ p) : hS τ p := by
  obtain ⟨q, hq, w⟩ := h
  exact ⟨q, hR_fr f h4 h5 hq, by rw [f.1]; exact w⟩
theorem add_pre {σ : rS} {p q : Rat} (h : hS σ p) (g : hR σ 6 7 q) (fp : fit p) (fq : fit q) : ((1 : Int32) = 1 ∨ (1 : Int32) = -1) ∧ (σ.1 92 = 1 ∨ σ.1 92 = -1) ∧ numO σ 4 ∧ numO σ 5 ∧ numO σ 6 ∧ numO σ 7 ∧ 0 < nV σ 5 ∧ 0 < nV σ 7 ∧ nL σ 4 + nL σ 7 + 3 < 40000 ∧ nL σ 6 + nL σ 5 + 3 < 40000 ∧ nL σ 5 + nL σ 7 + 3 < 40000 := by
  obtain ⟨r, hr, w⟩ := h
  have fr : fit r := by
    rcases w with z | z
    · rw [← z.2]; exact fp
    · have := fit_neg fp
      rwa [z.2, Rat.neg_neg] at this
  have a := fit_L hr fr
  have b := fit_L g fq
  exact ⟨Or.inl rfl, w.imp (fun z => z.1) (fun z => z.1), hr.1, hr.2.1, g.1, g.2.1, (hR_q hr).2, (hR_q g).2, by omega, by omega, by omega⟩
theorem hS_add {σ : rS} {p q : Rat} (h : hS σ p) (g : hR σ 6 7 q) : sgq (σ.1 92) (fQ σ 4 5) + sgq 1 (fQ σ 6 7) = p + q := by
  obtain ⟨r, hr, w⟩ := h
  rw [sgq_1, (hR_q g).1, (hR_q hr).1]
  rcases w with z | z
  · rw [z.1, z.2, sgq_1]
  · rw [z.1, z.2, sgq_m]
theorem fd_k {x s : Int32} (h : ¬ x < 0) (p0 : 0 ≤ x + 1) (p1 : x + 1 ≤ s) (s1 : s ≤ 32) : 0 ≤ x ∧ x < 32 ∧ x < 1000000 ∧ x + -1 + 1 = x ∧ x < x + 1 ∧ x ≤ s := by grind
theorem fd_u {k n : Int32} (k0 : 0 ≤ k) (h : ¬ n ≤ k) (n1 : n < 32) : 0 ≤ k + 1 ∧ k + 1 ≤ n ∧ 0 ≤ n - (k + 1) ∧ n - (k + 1) < n - k ∧ k < 32 ∧ k < 1000000 ∧ k < n := by grind
theorem s1s {s : Int32} : s - 1 + 1 = s := by grind
theorem fd_e {x s : Int32} (h : x < 0) (p0 : 0 ≤ x + 1) (p1 : x + 1 ≤ s) (s1 : s ≤ 32) : x + 1 = 0 := by grind
theorem fit_0 : fit 0 := ⟨Nat.lt_trans (by decide : 0 < 2 ^ 0) (pw129 (k := 0) (by decide)), pw129 (k := 0) (by decide)⟩
theorem ziq_p {σ : rS} {a : Int32} (h : 0 ≤ a) : ziq σ a = (sQ σ a.toNatClampNeg)⁻¹ := if_neg (fun z => by rw [z] at h; exact absurd h (by decide))
theorem el_st {P : Nat → Nat → Rat} {m k i j : Nat} (hk : k < m) : elN P m (m - 1 - k + 1) i j = elN P m (m - 1 - k) i j + elN P m (m - 1 - k) i k * elN P m (m - 1 - k) k j * (elS (elN P m (m - 1 - k)) m k)⁻¹ := by
  have e : elN P m (m - 1 - k + 1) i j = elN P m (m - 1 - k) i j + elN P m (m - 1 - k) i (m - 1 - (m - 1 - k)) * elN P m (m - 1 - k) (m - 1 - (m - 1 - k)) j * (elS (elN P m (m - 1 - k)) m (m - 1 - (m - 1 - k)))⁻¹ := rfl
  rwa [show m - 1 - (m - 1 - k) = k by omega] at e
theorem foldRing_c {C : rCx} (hC : cOK C) {P : Nat → Nat → Rat} {T : Nat → Nat} {K : Nat → Nat → Int} {m : Nat} {σ : rS}  {Q : rS → Prop} (hp : 0 < σ.1 100 ∧ σ.1 100 ≤ 32 ∧ m = (σ.1 100).toNatClampNeg ∧ Mk P m m ∧ whl P m T K ∧ fdJ σ P m (stF m 0) m) (h : ∀ (σ' : rS), (frK [0, 1, 2, 3, 4, 5, 6, 7, 8, 9, 10, 11, 12, 13, 14] 0 (260 * 1088) σ σ' ∧ fdJ σ' P m (stF m m) 0) → Q σ') : cV C 6 m_foldRing [.ref (co C)] σ Q := by
  refine m_foldRing_run hC ?_
  unfold w_foldRing_0
  obtain ⟨h0, h1, hm, M, hw, J0⟩ := hp
  have hm2 : m ≤ 32 := by rw [hm]; exact cn_le (y := 32) rfl h1
  have s0 : 0 ≤ σ.1 100 := Int32.le_of_lt h0
  intro x1 hx1
  unfold w_foldRing_7
  refine ⟨fun n l1 τ => n = (l1 + 1).toNatClampNeg ∧ (frK [0, 1, 2, 3, 4, 5, 6, 7, 8, 9, 10, 11, 12, 13, 14] 0 (260 * 1088) σ τ ∧ 0 ≤ l1 + 1 ∧ l1 + 1 ≤ σ.1 100 ∧ fdJ τ P m (stF m (m - (l1 + 1).toNatClampNeg)) (l1 + 1).toNatClampNeg), ⟨_, rfl, ?_⟩, ?_⟩
  · clear h; have e : x1 + 1 = σ.1 100 := by rw [hx1]; exact s1s
    rw [e, ← hm, Nat.sub_self]
    exact ⟨frK_refl, s0, Int32.le_refl _, J0⟩
  rintro n7 x7_1 σ7 ⟨hn7, i7⟩
  refine ⟨fun c2 => ?_, fun c2 => ?_⟩
  · skip
    refine h _ ?_
    · clear h; obtain ⟨F, p0, p1, J⟩ := i7
      rw [fd_e c2 p0 p1 h1] at J
      exact ⟨F, J⟩
  · skip
    refine clearSum_c hC  (fun σ_3 q4 => ?_)
    obtain ⟨F7, p0, p1, J⟩ := i7
    have dk := fd_k c2 p0 p1 h1
    have cs := cn_succ dk.1 dk.2.2.1
    have km : x7_1.toNatClampNeg < m := by
      have z := (cn_li p0 s0).mp p1
      rw [cs, ← hm] at z
      omega
    rw [cs, show m - (x7_1.toNatClampNeg + 1) = m - 1 - x7_1.toNatClampNeg by omega] at J
    have kk : m - 1 - (m - 1 - x7_1.toNatClampNeg) = x7_1.toNatClampNeg := by omega
    have o := ixc (c := 1024) (by decide) (by decide) dk.1 dk.2.1
    have o2 : (1024 + x7_1).toNatClampNeg = 1024 + x7_1.toNatClampNeg := o.2.1
    have oS := ixc (c := 1056) (by decide) (by decide) dk.1 dk.2.1
    have oS2 : (1056 + x7_1).toNatClampNeg = 1056 + x7_1.toNatClampNeg := oS.2.1
    have fk : ∀ c, (c ≤ x7_1.toNatClampNeg ∨ c = m) → stF m (m - 1 - x7_1.toNatClampNeg) x7_1.toNatClampNeg c = m - 1 - x7_1.toNatClampNeg := fun c hc => by
      have z := stF_k (m := m) (n := m - 1 - x7_1.toNatClampNeg) (c := c) (by omega) (by omega)
      rwa [kk] at z
    have J3 := fdJ_e (τ := σ_3) (q4.1.2.2.1 93 (by decide) (by decide)) J
    have HO : hL σ_3 (1024 + x7_1.toNatClampNeg) (elN P m (m - 1 - x7_1.toNatClampNeg) x7_1.toNatClampNeg m) := by
      have z := J3.2.1 x7_1.toNatClampNeg km
      rwa [fk m (Or.inr rfl)] at z
    have Q1 := Mk_n M (n := m - 1 - x7_1.toNatClampNeg) (by omega)
    rw [show m - (m - 1 - x7_1.toNatClampNeg) = x7_1.toNatClampNeg + 1 by omega] at Q1
    have Sp := (Mk_S Q1).1
    refine load_c hC  ?_ (fun σ_5 q6 => ?_)
    · clear h; exact ⟨o.1.1, o.1.2, by decide, by decide, by decide, by decide, by decide, by rw [o2]; exact HO.1, by rw [o2]; exact HO.2.1⟩  -- p3
    rw [o2] at q6
    simp only [kn] at q6
    have U := hR_of HO q6.2.1 q6.2.2.1 q6.2.2.2.1 q6.2.2.2.2.1
    have S5 := hS_N q6.1 (by decide) (by decide) q4.2
    refine add_c hC  ?_ (fun σ_7 q8 => ?_)
    · clear h; exact add_pre S5 U fit_0 (F1f (n := m - 1 - x7_1.toNatClampNeg) M hw hm2 (by omega) (Or.inr rfl))  -- p4
    rw [hS_add S5 U, Rat.zero_add] at q8
    have F8 : frK [0, 1, 2, 3, 4, 5, 6, 7, 8, 9, 10, 11, 12, 13, 14] 0 (260 * 1088) σ σ_7 := frK_tr F7 (frK_tr (frK_S q4.1 (sub_of rfl)) (frK_tr (frK_N q6.1 (sub_of rfl)) (frK_S q8.1 (sub_of rfl))))
    unfold w_foldRing_35
    refine ⟨fun n l1 l2 τ => n = (l1 - l2).toNatClampNeg ∧ (l1 = x7_1 ∧ frK [0, 1, 2, 3, 4, 5, 6, 7, 8, 9, 10, 11, 12, 13, 14] 0 (260 * 1088) σ τ ∧ 0 ≤ l2 ∧ l2 ≤ l1 ∧ fdJ τ P m (stF m (m - 1 - x7_1.toNatClampNeg)) (x7_1.toNatClampNeg + 1) ∧ hS τ (elN P m (m - 1 - x7_1.toNatClampNeg) x7_1.toNatClampNeg m + smQ (elN P m (m - 1 - x7_1.toNatClampNeg) x7_1.toNatClampNeg) l2.toNatClampNeg)), ⟨_, rfl, ?_⟩, ?_⟩
    · clear h; refine ⟨rfl, F8, by decide, dk.1, fdJ_e (q8.1.2.2.1 93 (by decide) (by decide)) (fdJ_e (q6.1.2.2.1 93 (by decide) (by decide)) J3), ?_⟩
      show hS σ_7 (_ + 0)
      rw [Rat.add_zero]
      exact q8.2
    rintro n35 x35_1 x35_2 σ35 ⟨hn35, i35⟩
    obtain ⟨e1, F, l0, l1, J5, S⟩ := i35
    have W : x35_1 ≤ x35_2 → hR σ35 4 5 (elS (elN P m (m - 1 - x7_1.toNatClampNeg)) m x7_1.toNatClampNeg) ∧ nL σ35 4 ≤ 129 ∧ nL σ35 5 ≤ 129 := fun c9 => by
      have ek : x35_2 = x7_1 := by rw [← e1]; exact Int32.le_antisymm l1 c9
      rw [ek] at S
      have w := hS_nn S (Rat.le_of_lt Sp)
      exact ⟨w, fit_L w (F2 (n := m - 1 - x7_1.toNatClampNeg) M hw hm2 (by omega) (by omega))⟩
    refine ⟨fun c9 => ?_, fun c9 => ?_⟩
    · skip
      refine keepIn_c hC  ?_ (fun σ_10 q11 => ?_)
      · clear h; rw [e1] at c9 ⊢
        simp only [kn]
        have w := W (by rw [e1]; exact c9)
        exact ⟨oS.1.1, oS.1.2, by decide, by decide, by decide, by decide, w.1.1, w.1.2.1, w.2.1, w.2.2⟩
      rw [e1, oS2] at q11
      simp only [kn] at q11
      have w := W c9
      have J10 := fdJ_k hm2 (frK_R (m := [0, 1, 2, 3, 4, 5, 6, 7, 8, 9, 10, 11, 12, 13, 14]) q11.1) J5 (hL_of w.1 q11.2.1 q11.2.2.1 q11.2.2.2.1 q11.2.2.2.2)
      unfold w_foldRing_78
      refine ⟨fun n l1 l2 τ => n = (l1 - l2).toNatClampNeg ∧ (l1 = x7_1 ∧ frK [0, 1, 2, 3, 4, 5, 6, 7, 8, 9, 10, 11, 12, 13, 14] 0 (260 * 1088) σ τ ∧ 0 ≤ l2 ∧ l2 ≤ l1 ∧ fdJ τ P m (stG m (m - 1 - x7_1.toNatClampNeg) l2.toNatClampNeg 0) x7_1.toNatClampNeg), ⟨_, rfl, ?_⟩, ?_⟩
      · clear h; exact ⟨e1, frK_tr F (frK_w (frK_R (m := [0, 1, 2, 3, 4, 5, 6, 7, 8, 9, 10, 11, 12, 13, 14]) q11.1) (fun k hk => hk) (Nat.zero_le _) (by omega)), by decide, by rw [e1]; exact dk.1, fdJ_F J10 (fun i j _ _ => stG_0)⟩  -- j7
      rintro n78 x78_1 x78_2 σ78 ⟨hn78, i78⟩
      obtain ⟨g1, G, r0, r1, JG⟩ := i78
      refine ⟨fun c12 => ?_, fun c12 => ?_⟩
      · skip
        intro x13 hx13
        refine ⟨_, cn_lt2 hn7 ?_ ?_, rfl, ?_⟩
        · clear h; rw [hx13, g1, dk.2.2.2.1]; exact dk.1  -- d8
        · clear h; rw [hx13, g1, dk.2.2.2.1]; exact dk.2.2.2.2.1  -- d9
        · clear h; rw [hx13, g1, dk.2.2.2.1]
          have ek : x78_2 = x7_1 := by rw [← g1]; exact Int32.le_antisymm r1 c12
          rw [ek] at JG
          refine ⟨G, dk.1, dk.2.2.2.2.2, fdJ_F JG (fun i j hi hj => ?_)⟩
          have e := stG_e (m := m) (n := m - 1 - x7_1.toNatClampNeg) (r := i) (c := j) (by omega) hi hj
          rw [kk] at e
          rw [e, show m - 1 - x7_1.toNatClampNeg + 1 = m - x7_1.toNatClampNeg by omega]
      · skip
        unfold w_foldRing_85
        refine ⟨fun n l1 l2 l3 τ => n = (l1 - l3).toNatClampNeg ∧ (l1 = x7_1 ∧ l2 = x78_2 ∧ frK [0, 1, 2, 3, 4, 5, 6, 7, 8, 9, 10, 11, 12, 13, 14] 0 (260 * 1088) σ τ ∧ 0 ≤ l3 ∧ l3 ≤ l1 ∧ fdJ τ P m (stG m (m - 1 - x7_1.toNatClampNeg) x78_2.toNatClampNeg l3.toNatClampNeg) x7_1.toNatClampNeg), ⟨_, rfl, ?_⟩, ?_⟩
        · clear h; exact ⟨g1, rfl, G, by decide, by rw [g1]; exact dk.1, JG⟩  -- j11
        rintro n85 x85_1 x85_2 x85_3 σ85 ⟨hn85, i85⟩
        obtain ⟨f1, f2, H, t0', t1, JH⟩ := i85
        rw [g1] at c12
        have u := fd_u r0 c12 dk.2.1
        have iu : x78_2.toNatClampNeg < x7_1.toNatClampNeg := cn_lt r0 u.2.2.2.2.2.2
        have jl : x85_3.toNatClampNeg ≤ x7_1.toNatClampNeg := (cn_li t0' dk.1).mp (by rw [← f1]; exact t1)
        have sG := stG_n (m := m) (n := m - 1 - x7_1.toNatClampNeg) (i := x78_2.toNatClampNeg) (j := x85_3.toNatClampNeg) (by omega) (by omega) (by omega)
        rw [kk] at sG
        have Aik : hL σ85 (32 * x78_2.toNatClampNeg + x7_1.toNatClampNeg) (elN P m (m - 1 - x7_1.toNatClampNeg) x78_2.toNatClampNeg x7_1.toNatClampNeg) := by
          have z := JH.1 x78_2.toNatClampNeg x7_1.toNatClampNeg (by omega) km
          rwa [sG.2.1] at z
        have Akm : hL σ85 (1024 + x7_1.toNatClampNeg) (elN P m (m - 1 - x7_1.toNatClampNeg) x7_1.toNatClampNeg m) := by
          have z := JH.2.1 x7_1.toNatClampNeg km
          rwa [sG.2.2.1 m (Or.inr rfl)] at z
        have AS := JH.2.2 x7_1.toNatClampNeg (Nat.le_refl _) km
        have Aim : hL σ85 (1024 + x78_2.toNatClampNeg) (elN P m (m - 1 - x7_1.toNatClampNeg) x78_2.toNatClampNeg m) := by
          have z := JH.2.1 x78_2.toNatClampNeg (by omega)
          rwa [sG.2.2.2] at z
        have oi := ixc (c := 1024) (by decide) (by decide) r0 u.2.2.2.2.1
        have oi2 : (1024 + x78_2).toNatClampNeg = 1024 + x78_2.toNatClampNeg := oi.2.1
        have xik := ixs r0 u.2.2.2.2.1 dk.1 dk.2.1
        have Sn : elS (elN P m (m - 1 - x7_1.toNatClampNeg)) m x7_1.toNatClampNeg ≠ 0 := by grind
        refine ⟨fun c14 => ?_, fun c14 => ?_⟩
        · skip
          refine addProduct_c hC  ?_ (fun σ_15 q16 => ?_)
          · clear h; rw [f1, f2, ziq_p oS.1.1, oi2, xik.2.1, o2, oS2, hL_q Aim, hL_q Aik, hL_q Akm, hL_q AS, ← el_st km]
            exact ⟨oi.1.1, oi.1.2, xik.1.1, xik.1.2, o.1.1, o.1.2, Or.inr ⟨oS.1.1, oS.1.2, AS, Sn⟩, Aim, Aik, Akm, F1f M hw hm2 (by omega) (Or.inr rfl)⟩
          rw [f1, f2, ziq_p oS.1.1, oi2, xik.2.1, o2, oS2, hL_q Aim, hL_q Aik, hL_q Akm, hL_q AS, ← el_st km] at q16
          intro x17 hx17
          refine ⟨_, cn_lt2 hn78 ?_ ?_, rfl, ?_⟩
          · clear h; rw [hx17, f1, f2]; exact u.2.2.1  -- d13
          · clear h; rw [hx17, f1, f2, g1]; exact u.2.2.2.1  -- d14
          · clear h; rw [hx17, f1, f2, cn_succ r0 u.2.2.2.2.2.1]
            have ek : x85_3 = x7_1 := by rw [← f1]; exact Int32.le_antisymm t1 c14
            rw [ek] at JH
            refine ⟨rfl, frK_tr H (frK_w q16.1 (fun k hk => hk) (Nat.zero_le _) (by omega)), u.1, u.2.1, fdJ_o hm2 (by omega) q16.1 JH q16.2 (fun r c hr hc => ?_)⟩
            have z := stG_r (m := m) (n := m - 1 - x7_1.toNatClampNeg) (i := x78_2.toNatClampNeg) (r := r) (c := c) (by omega) hc
            rwa [kk] at z
        · skip
          rw [f1] at c14
          have w := fd_u t0' c14 dk.2.1
          have ju : x85_3.toNatClampNeg < x7_1.toNatClampNeg := cn_lt t0' w.2.2.2.2.2.2
          have Aij : hL σ85 (32 * x78_2.toNatClampNeg + x85_3.toNatClampNeg) (elN P m (m - 1 - x7_1.toNatClampNeg) x78_2.toNatClampNeg x85_3.toNatClampNeg) := by
            have z := JH.1 x78_2.toNatClampNeg x85_3.toNatClampNeg (by omega) (by omega)
            rwa [sG.1] at z
          have Akj : hL σ85 (32 * x7_1.toNatClampNeg + x85_3.toNatClampNeg) (elN P m (m - 1 - x7_1.toNatClampNeg) x7_1.toNatClampNeg x85_3.toNatClampNeg) := by
            have z := JH.1 x7_1.toNatClampNeg x85_3.toNatClampNeg km (by omega)
            rwa [sG.2.2.1 _ (Or.inl (by omega))] at z
          have xij := ixs r0 u.2.2.2.2.1 t0' w.2.2.2.2.1
          have xkj := ixs dk.1 dk.2.1 t0' w.2.2.2.2.1
          refine addProduct_c hC  ?_ (fun σ_18 q19 => ?_)
          · clear h; rw [f1, f2, ziq_p oS.1.1, xij.2.1, xik.2.1, xkj.2.1, oS2, hL_q Aij, hL_q Aik, hL_q Akj, hL_q AS, ← el_st km]
            exact ⟨xij.1.1, xij.1.2, xik.1.1, xik.1.2, xkj.1.1, xkj.1.2, Or.inr ⟨oS.1.1, oS.1.2, AS, Sn⟩, Aij, Aik, Akj, F1f M hw hm2 (by omega) (Or.inl (by omega))⟩
          rw [f1, f2, ziq_p oS.1.1, xij.2.1, xik.2.1, xkj.2.1, oS2, hL_q Aij, hL_q Aik, hL_q Akj, hL_q AS, ← el_st km] at q19
          intro x20 hx20
          refine ⟨_, cn_lt2 hn85 ?_ ?_, rfl, ?_⟩
          · clear h; rw [hx20, f1]; exact w.2.2.1  -- d17
          · clear h; rw [hx20, f1]; exact w.2.2.2.1  -- d18
          · clear h; rw [hx20, f1, cn_succ t0' w.2.2.2.2.2.1]
            refine ⟨rfl, f2, frK_tr H (frK_w q19.1 (fun k hk => hk) (Nat.zero_le _) (by omega)), w.1, w.2.1, fdJ_u hm2 (by omega) (by omega) q19.1 JH q19.2 (fun r c _ _ => stG_c (by omega) (by omega))⟩
    · skip
      rw [e1] at c9
      have u := fd_u l0 c9 dk.2.1
      have iu : x35_2.toNatClampNeg < x7_1.toNatClampNeg := cn_lt l0 u.2.2.2.2.2.2
      have xki := ixs dk.1 dk.2.1 l0 u.2.2.2.2.1
      have Aki : hL σ35 (32 * x7_1.toNatClampNeg + x35_2.toNatClampNeg) (elN P m (m - 1 - x7_1.toNatClampNeg) x7_1.toNatClampNeg x35_2.toNatClampNeg) := by
        have z := J5.1 x7_1.toNatClampNeg x35_2.toNatClampNeg km (by omega)
        rwa [fk _ (Or.inl (by omega))] at z
      refine load_c hC  ?_ (fun σ_21 q22 => ?_)
      · clear h; rw [e1]
        exact ⟨xki.1.1, xki.1.2, by decide, by decide, by decide, by decide, by decide, by rw [xki.2.1]; exact Aki.1, by rw [xki.2.1]; exact Aki.2.1⟩
      rw [e1, xki.2.1] at q22
      simp only [kn] at q22
      have U2 := hR_of Aki q22.2.1 q22.2.2.1 q22.2.2.2.1 q22.2.2.2.2.1
      have S2 := hS_N q22.1 (by decide) (by decide) S
      refine add_c hC  ?_ (fun σ_23 q24 => ?_)
      · clear h; exact add_pre S2 U2 (F2 (n := m - 1 - x7_1.toNatClampNeg) M hw hm2 (by omega) (by omega)) (F1f (n := m - 1 - x7_1.toNatClampNeg) M hw hm2 (by omega) (Or.inl (by omega)))  -- p21
      rw [hS_add S2 U2] at q24
      intro x25 hx25
      refine ⟨_, cn_lt2 hn35 ?_ ?_, rfl, ?_⟩
      · clear h; rw [hx25, e1]; exact u.2.2.1  -- d22
      · clear h; rw [hx25, e1]; exact u.2.2.2.1  -- d23
      · clear h; rw [hx25, e1, cn_succ l0 u.2.2.2.2.2.1, smQ_s, ← Rat.add_assoc]
        exact ⟨rfl, frK_tr F (frK_tr (frK_N q22.1 (sub_of rfl)) (frK_S q24.1 (sub_of rfl))), u.1, u.2.1, fdJ_e (q24.1.2.2.1 93 (by decide) (by decide)) (fdJ_e (q22.1.2.2.1 93 (by decide) (by decide)) J5), q24.2⟩

end
section
set_option maxHeartbeats 1600000
/-! the reference: the visits within a ring -/
/-- slots that are kept -/
def kpH (D : Nat → Prop) (σ τ : rS) : Prop := ∀ s q, D s → hL σ s q → hL τ s q
theorem kpH_refl {D : Nat → Prop} {σ : rS} : kpH D σ σ := fun _ _ _ h => h
theorem kpH_tr {D : Nat → Prop} {σ τ υ : rS} (h : kpH D σ τ) (g : kpH D τ υ) : kpH D σ υ := fun s q d z => g s q d (h s q d z)
theorem kpH_K {D : Nat → Prop} {l : List Nat} {σ τ : rS} {s : Nat} (f : frK l (260 * s) (260 * s + 260) σ τ) (hD : ∀ r, D r → r ≠ s) : kpH D σ τ := fun r q d z => hL_K f (by have := hD r d; omega) z
theorem kpH_e {D : Nat → Prop} {σ τ : rS} (h : τ.2.2.1 93 = σ.2.2.1 93) : kpH D σ τ := fun _ _ _ z => hL_e (fun _ _ _ => by rw [h]) z
/-- all slots but the row on the way and the results of a -/
def dOf (a : Nat) (s : Nat) : Prop := s < 1088 ∨ (1120 ≤ s ∧ (s < 1152 + 32 * a ∨ 1152 + 32 * a + 32 ≤ s))
theorem fdJ_kp {a m k : Nat} {σ τ : rS} {P : Nat → Nat → Rat} {F : Nat → Nat → Nat} (hm : m ≤ 32) (h : kpH (dOf a) σ τ) (J : fdJ σ P m F k) : fdJ τ P m F k := ⟨fun i j hi hj => h _ _ (Or.inl (by omega)) (J.1 i j hi hj), fun i hi => h _ _ (Or.inl (by omega)) (J.2.1 i hi), fun l h1 h2 => h _ _ (Or.inl (by omega)) (J.2.2 l h1 h2)⟩
/-- the row on the way: stages by a function -/
def xrJ (τ : rS) (P : Nat → Nat → Rat) (m a : Nat) (F : Nat → Nat) : Prop := ∀ j, j < m → hL τ (1088 + j) (elX P m (dl a) (F j) j)
def xsF (m n t : Nat) : Nat → Nat := fun j => if j < t then n + 1 else min n (m - 1 - j)
theorem ixr {c a b : Int32} (c0 : 0 ≤ c) (c1 : c ≤ 1152) (a0 : 0 ≤ a) (a1 : a < 32) (b0 : 0 ≤ b) (b1 : b < 32) : (0 ≤ c + 32 * a + b ∧ c + 32 * a + b < 2176) ∧ (c + 32 * a + b).toNatClampNeg = c.toNatClampNeg + 32 * a.toNatClampNeg + b.toNatClampNeg := by
  have s := ixs a0 a1 b0 b1
  have x := t0 c0
  have y := ti c1
  rw [show (1152 : Int32).toInt = 1152 from rfl] at y
  have k1 := cn_int c0
  have k2 := cn_int s.1.1
  have f := i_add c0 s.1.1 (by omega)
  have q : 0 ≤ c + (32 * a + b) := Int32.le_iff_toInt_le.mpr (by rw [f, Int32.toInt_zero]; omega)
  have k3 := cn_int q
  rw [Int32.add_assoc]
  exact ⟨⟨q, Int32.lt_iff_toInt_lt.mpr (by rw [f, show (2176 : Int32).toInt = 2176 from rfl]; omega)⟩, by omega⟩
theorem vs_ex {P : Nat → Nat → Rat} {m a : Nat} (M : Mk P m m) : ∀ {t : Nat}, t ≤ m → ∃ v : Nat → Rat, ∀ k, k < t → v k * elS (elN P m (m - 1 - k)) m k = smQ (fun r => v r * elN P m (m - 1 - k) r k) k + elX P m (dl a) (m - 1 - k) k
  | 0, _ => ⟨fun _ => 0, fun k hk => absurd hk (Nat.not_lt_zero k)⟩
  | t + 1, ht => by
    obtain ⟨v, hv⟩ := vs_ex (a := a) M (t := t) (by omega)
    have Q := Mk_n M (n := m - 1 - t) (by omega)
    rw [show m - (m - 1 - t) = t + 1 by omega] at Q
    have S := (Mk_S Q).1
    have i := inv_s (S := elS (elN P m (m - 1 - t)) m t) (by grind)
    refine ⟨fun r => if r = t then (smQ (fun r => v r * elN P m (m - 1 - t) r t) t + elX P m (dl a) (m - 1 - t) t) * (elS (elN P m (m - 1 - t)) m t)⁻¹ else v r, fun k hk => ?_⟩
    have e : smQ (fun r => (if r = t then (smQ (fun r => v r * elN P m (m - 1 - t) r t) t + elX P m (dl a) (m - 1 - t) t) * (elS (elN P m (m - 1 - t)) m t)⁻¹ else v r) * elN P m (m - 1 - k) r k) k = smQ (fun r => v r * elN P m (m - 1 - k) r k) k := smQ_c (fun r hr => by rw [if_neg (by omega)])
    rw [e]
    by_cases q : k = t
    · rw [q]
      show (if t = t then _ else _) * _ = _
      rw [if_pos rfl]
      generalize elS (elN P m (m - 1 - t)) m t = U at i ⊢
      generalize smQ (fun r => v r * elN P m (m - 1 - t) r t) t + elX P m (dl a) (m - 1 - t) t = A
      grind
    · show (if k = t then _ else v k) * _ = _
      rw [if_neg q]
      exact hv k (by omega)
theorem fd_v {k s : Int32} (k0 : 0 ≤ k) (h : ¬ s ≤ k) (n1 : s ≤ 32) : 0 ≤ k + 1 ∧ k + 1 ≤ s ∧ 0 ≤ s - (k + 1) ∧ s - (k + 1) < s - k ∧ k < 32 ∧ k < 1000000 ∧ k < s := by grind
theorem fd_w {s : Int32} (h0 : 0 < s) (h1 : s ≤ 32) : 0 ≤ s - 1 ∧ s - 1 < s ∧ s < 1000000 := by grind
theorem fd_x {k s : Int32} (h : ¬ k ≤ 0) (k0 : 0 ≤ k) (h1 : k < s) (s1 : s ≤ 32) : 0 ≤ k + -1 ∧ k + -1 < k ∧ k + -1 < s ∧ k < 32 ∧ k - 1 = k + -1 ∧ 0 < k ∧ k < 1000000 := by grind
theorem el_xt {P : Nat → Nat → Rat} {m k j : Nat} {x : Nat → Rat} (hk : k < m) : elX P m x (m - 1 - k + 1) j = elX P m x (m - 1 - k) j + elX P m x (m - 1 - k) k * elN P m (m - 1 - k) k j * (elS (elN P m (m - 1 - k)) m k)⁻¹ := by
  have e : elX P m x (m - 1 - k + 1) j = elX P m x (m - 1 - k) j + elX P m x (m - 1 - k) (m - 1 - (m - 1 - k)) * elN P m (m - 1 - k) (m - 1 - (m - 1 - k)) j * (elS (elN P m (m - 1 - k)) m (m - 1 - (m - 1 - k)))⁻¹ := rfl
  rwa [show m - 1 - (m - 1 - k) = k by omega] at e
theorem xsF_e {m k l j : Nat} (hk : k = l + 1) (km : k < m) (hj : j < m) : xsF m (m - 1 - k) k j = xsF m (m - 1 - l) 0 j := by
  unfold xsF
  rw [if_neg (Nat.not_lt_zero j)]
  by_cases e : j < k
  · rw [if_pos e]; omega
  · rw [if_neg e]; omega
theorem xsF_o {m n t j : Nat} (h : ¬ j = t) : xsF m n t j = xsF m n (t + 1) j := by
  unfold xsF
  by_cases e : j < t
  · rw [if_pos e, if_pos (by omega)]
  · rw [if_neg e, if_neg (by omega)]
theorem visitFrom_c {C : rCx} (hC : cOK C) {P : Nat → Nat → Rat} {T : Nat → Nat} {K : Nat → Nat → Int} {m : Nat} {σ : rS} {a1 : Int32} {Q : rS → Prop} (hp : 0 < σ.1 100 ∧ σ.1 100 ≤ 32 ∧ m = (σ.1 100).toNatClampNeg ∧ Mk P m m ∧ whl P m T K ∧ fdJ σ P m (stF m m) 0 ∧ 0 ≤ a1 ∧ a1 < σ.1 100) (h : ∀ (σ' : rS), (frK [0, 1, 2, 3, 4, 5, 6, 7, 8, 9, 10, 11, 12, 13, 14] (260 * 1088) (260 * 2176) σ σ' ∧ kpH (dOf a1.toNatClampNeg) σ σ' ∧ ∃ v, vsI P m a1.toNatClampNeg v ∧ ∀ k, k < m → hL σ' (1152 + 32 * a1.toNatClampNeg + k) (v k)) → Q σ') : cV C 6 m_visitFrom [.ref (co C), .int a1] σ Q := by
  refine m_visitFrom_run hC ?_
  unfold w_visitFrom_0
  obtain ⟨h0, h1, hm, M, hw, J0, b0, b1⟩ := hp
  have hm2 : m ≤ 32 := by rw [hm]; exact cn_le (y := 32) rfl h1
  have s0 : 0 ≤ σ.1 100 := Int32.le_of_lt h0
  have a32 : a1 < 32 := Int32.lt_of_lt_of_le b1 h1
  have am : a1.toNatClampNeg < m := by rw [hm]; exact cn_lt b0 b1
  obtain ⟨v, hv⟩ := vs_ex (a := a1.toNatClampNeg) M (Nat.le_refl m)
  unfold w_visitFrom_2
  refine ⟨fun n l1 l2 τ => n = (σ.1 100 - l2).toNatClampNeg ∧ (l1 = a1 ∧ frK [0, 1, 2, 3, 4, 5, 6, 7, 8, 9, 10, 11, 12, 13, 14] (260 * 1088) (260 * 2176) σ τ ∧ kpH (dOf a1.toNatClampNeg) σ τ ∧ 0 ≤ l2 ∧ l2 ≤ σ.1 100 ∧ ∀ j, j < l2.toNatClampNeg → hL τ (1088 + j) (dl a1.toNatClampNeg j)), ⟨_, rfl, ?_⟩, ?_⟩
  · clear h; exact ⟨rfl, frK_refl, kpH_refl, by decide, s0, fun j hj => absurd hj (Nat.not_lt_zero j)⟩  -- j1
  rintro n2 x2_1 x2_2 σ2 ⟨hn2, i2⟩
  have hj26 : ∀ (l1 : Int32) (l2 : Int32) (s1 : Int32) (s2 : Int64) (τ : rS), (l1 = a1 ∧ τ = σ2 ∧ l2 = x2_2 ∧ ¬ σ.1 100 ≤ x2_2 ∧ s1 = 1088 + x2_2 ∧ 0 ≤ s2 ∧ mkRat s2.toInt 1 = dl a1.toNatClampNeg x2_2.toNatClampNeg) → w_visitFrom_26 C Q (fun l1' l2' τ => ∃ k < n2, (fun n l1 l2 τ => n = (σ.1 100 - l2).toNatClampNeg ∧ (l1 = a1 ∧ frK [0, 1, 2, 3, 4, 5, 6, 7, 8, 9, 10, 11, 12, 13, 14] (260 * 1088) (260 * 2176) σ τ ∧ kpH (dOf a1.toNatClampNeg) σ τ ∧ 0 ≤ l2 ∧ l2 ≤ σ.1 100 ∧ ∀ j, j < l2.toNatClampNeg → hL τ (1088 + j) (dl a1.toNatClampNeg j))) k l1' l2' τ) l1 l2 s1 s2 τ := by
    rintro y26_1 y26_2 y26_s1 y26_s2 τ26 j26
    unfold w_visitFrom_26
    obtain ⟨e1, F, kp, l0, l1, X⟩ := i2
    obtain ⟨f1, ft, f2, fk, fs, g0, gv⟩ := j26
    have u := fd_v l0 fk h1
    have o := ixc (c := 1088) (by decide) (by decide) l0 u.2.2.2.2.1
    have o2 : (1088 + x2_2).toNatClampNeg = 1088 + x2_2.toNatClampNeg := o.2.1
    have o3 := o.2.2
    refine keepSmall_c hC  ?_ (fun σ_1 q2 => ?_)
    · clear h; rw [fs]; exact ⟨o.1.1, o.1.2, g0, by decide⟩  -- p2
    rw [fs, o2, show (1 : Int64).toInt.toNat = 1 from rfl, gv, ft] at q2
    intro x3 hx3
    refine ⟨_, cn_lt2 hn2 ?_ ?_, rfl, ?_⟩
    · clear h; rw [hx3, f2]; exact u.2.2.1  -- d3
    · clear h; rw [hx3, f2]; exact u.2.2.2.1  -- d4
    · clear h; refine ⟨f1, frK_tr F (frK_w q2.1 (sub_of rfl) (by omega) (by omega)), kpH_tr kp (kpH_K q2.1 (fun r d => by unfold dOf at d; omega)), by rw [hx3, f2]; exact u.1, by rw [hx3, f2]; exact u.2.1, fun j hj => ?_⟩
      rw [hx3, f2, cn_succ l0 u.2.2.2.2.2.1] at hj
      by_cases e : j = x2_2.toNatClampNeg
      · rw [e]; exact q2.2
      · exact hL_K q2.1 (by omega) (X j (by omega))
  obtain ⟨e1, F, kp, l0, l1, X⟩ := i2
  have e100 : σ2.1 100 = σ.1 100 := F.1 100 (by decide)
  refine ⟨fun c4 => ?_, fun c4 => ?_⟩
  · skip
    intro x5 hx5
    unfold w_visitFrom_43
    refine ⟨fun n l1 l2 τ => n = (l2).toNatClampNeg ∧ (l1 = a1 ∧ frK [0, 1, 2, 3, 4, 5, 6, 7, 8, 9, 10, 11, 12, 13, 14] (260 * 1088) (260 * 2176) σ τ ∧ kpH (dOf a1.toNatClampNeg) σ τ ∧ 0 ≤ l2 ∧ l2 < σ.1 100 ∧ xrJ τ P m a1.toNatClampNeg (xsF m (m - 1 - l2.toNatClampNeg) 0)), ⟨_, rfl, ?_⟩, ?_⟩
    · clear h; rw [e100] at c4 hx5
      have ek : x2_2 = σ.1 100 := Int32.le_antisymm l1 c4
      have pw := fd_w h0 h1
      have cp := cn_pred h0 pw.2.2
      rw [ek, ← hm] at X
      rw [hx5]
      refine ⟨e1, F, kp, pw.1, pw.2.1, fun j hj => ?_⟩
      have z := X j hj
      unfold xsF
      rw [if_neg (by omega), show min (m - 1 - (σ.1 100 - 1).toNatClampNeg) (m - 1 - j) = 0 by omega]
      exact z
    rintro n43 x43_1 x43_2 σ43 ⟨hn43, i43⟩
    obtain ⟨f1, G, kq, r0, r1, XR⟩ := i43
    have km : x43_2.toNatClampNeg < m := by rw [hm]; exact cn_lt r0 r1
    refine ⟨fun c6 => ?_, fun c6 => ?_⟩
    · skip
      unfold w_visitFrom_93
      refine ⟨fun n l1 l2 τ => n = (σ.1 100 - l2).toNatClampNeg ∧ (l1 = a1 ∧ frK [0, 1, 2, 3, 4, 5, 6, 7, 8, 9, 10, 11, 12, 13, 14] (260 * 1088) (260 * 2176) σ τ ∧ kpH (dOf a1.toNatClampNeg) σ τ ∧ 0 ≤ l2 ∧ l2 ≤ σ.1 100 ∧ (∀ j, l2.toNatClampNeg ≤ j → j < m → hL τ (1088 + j) (elX P m (dl a1.toNatClampNeg) (m - 1 - j) j)) ∧ ∀ j, j < l2.toNatClampNeg → hL τ (1152 + 32 * a1.toNatClampNeg + j) (v j)), ⟨_, rfl, ?_⟩, ?_⟩
      · clear h; have k0 := cn_zero c6
        refine ⟨f1, G, kq, by decide, s0, fun j _ hj => ?_, fun j hj => absurd hj (Nat.not_lt_zero j)⟩
        have z := XR j hj
        unfold xsF at z
        rwa [if_neg (by omega), k0, show min (m - 1 - 0) (m - 1 - j) = m - 1 - j by omega] at z
      rintro n93 x93_1 x93_2 σ93 ⟨hn93, i93⟩
      obtain ⟨g1, G9, kr, t2, t1, YR, VR⟩ := i93
      have e100 : σ93.1 100 = σ.1 100 := G9.1 100 (by decide)
      refine ⟨fun c7 => ?_, fun c7 => ?_⟩
      · skip
        refine h _ ?_
        · clear h; rw [e100] at c7
          have ek : x93_2 = σ.1 100 := Int32.le_antisymm t1 c7
          rw [ek, ← hm] at VR
          exact ⟨G9, kr, v, hv, VR⟩
      · skip
        rw [e100] at c7
        have u := fd_v t2 c7 h1
        have k9 : x93_2.toNatClampNeg < m := by rw [hm]; exact cn_lt t2 u.2.2.2.2.2.2
        unfold w_visitFrom_103
        refine ⟨fun n l1 l2 l3 τ => n = (l2 - l3).toNatClampNeg ∧ (l1 = a1 ∧ l2 = x93_2 ∧ frK [0, 1, 2, 3, 4, 5, 6, 7, 8, 9, 10, 11, 12, 13, 14] (260 * 1088) (260 * 2176) σ τ ∧ kpH (dOf a1.toNatClampNeg) σ τ ∧ 0 ≤ l3 ∧ l3 ≤ l2 ∧ (∀ j, x93_2.toNatClampNeg + 1 ≤ j → j < m → hL τ (1088 + j) (elX P m (dl a1.toNatClampNeg) (m - 1 - j) j)) ∧ hL τ (1088 + x93_2.toNatClampNeg) (elX P m (dl a1.toNatClampNeg) (m - 1 - x93_2.toNatClampNeg) x93_2.toNatClampNeg + smQ (fun r => v r * elN P m (m - 1 - x93_2.toNatClampNeg) r x93_2.toNatClampNeg) l3.toNatClampNeg) ∧ ∀ j, j < x93_2.toNatClampNeg → hL τ (1152 + 32 * a1.toNatClampNeg + j) (v j)), ⟨_, rfl, ?_⟩, ?_⟩
        · clear h; refine ⟨g1, rfl, G9, kr, by decide, t2, fun j z1 z2 => YR j (by omega) z2, ?_, VR⟩
          show hL σ93 _ (_ + 0)
          rw [Rat.add_zero]
          exact YR _ (Nat.le_refl _) k9
        rintro n103 x103_1 x103_2 x103_3 σ103 ⟨hn103, i103⟩
        obtain ⟨y1, y2, H, ky, w0, w1, YT, XK, VT⟩ := i103
        have o := ixc (c := 1088) (by decide) (by decide) t2 u.2.2.2.2.1
        have o2 : (1088 + x93_2).toNatClampNeg = 1088 + x93_2.toNatClampNeg := o.2.1
        have oS := ixc (c := 1056) (by decide) (by decide) t2 u.2.2.2.2.1
        have oS2 : (1056 + x93_2).toNatClampNeg = 1056 + x93_2.toNatClampNeg := oS.2.1
        have JF := fdJ_kp hm2 ky J0
        have AS := JF.2.2 x93_2.toNatClampNeg (Nat.zero_le _) k9
        have Q1 := Mk_n M (n := m - 1 - x93_2.toNatClampNeg) (by omega)
        rw [show m - (m - 1 - x93_2.toNatClampNeg) = x93_2.toNatClampNeg + 1 by omega] at Q1
        have Sp := (Mk_S Q1).1
        have ir := ixr (c := 1152) (by decide) (by decide) b0 a32 t2 u.2.2.2.2.1
        have ir2 : (1152 + 32 * a1 + x93_2).toNatClampNeg = 1152 + 32 * a1.toNatClampNeg + x93_2.toNatClampNeg := ir.2
        have k32 := o.2.2
        have A32 : a1.toNatClampNeg < 32 := by omega
        refine ⟨fun c8 => ?_, fun c8 => ?_⟩
        · skip
          refine load_c hC  ?_ (fun σ_9 q10 => ?_)
          · clear h; rw [y2]; exact ⟨o.1.1, o.1.2, by decide, by decide, by decide, by decide, by decide, by rw [o2]; exact XK.1, by rw [o2]; exact XK.2.1⟩  -- p10
          rw [y2, o2] at q10
          simp only [kn] at q10
          have BS := hL_N q10.1 AS
          have XX := hR_of XK q10.2.1 q10.2.2.1 q10.2.2.2.1 q10.2.2.2.2.1
          refine load_c hC  ?_ (fun σ_11 q12 => ?_)
          · clear h; rw [y2]; exact ⟨oS.1.1, oS.1.2, by decide, by decide, by decide, by decide, by decide, by rw [oS2]; exact BS.1, by rw [oS2]; exact BS.2.1⟩  -- p11
          rw [y2, oS2] at q12
          simp only [kn] at q12
          have Y := hR_of BS q12.2.1 q12.2.2.1 q12.2.2.2.1 q12.2.2.2.2.1
          have y11 : 0 < nV σ_11 11 := Nat.pos_of_ne_zero (fun z => by
            have z2 : elS (elN P m (m - 1 - x93_2.toNatClampNeg)) m x93_2.toNatClampNeg = 0 := Rat.num_eq_zero.mp (by rw [← Y.2.2.1, z]; rfl)
            rw [z2] at Sp
            exact absurd Sp (by decide))
          have G6 := nV_fr q12.1 (k := 6) (by decide) q10.2.1
          have G7 := nV_fr q12.1 (k := 7) (by decide) q10.2.2.1
          have L1 := q10.2.2.2.2.2.1
          have L2 := q10.2.2.2.2.2.2
          have L3 := q12.2.2.2.2.2.1
          have L4 := q12.2.2.2.2.2.2
          refine times_c hC  ?_ (fun σ_13 q14 => ?_)
          · clear h; simp only [kn]
            exact ⟨by decide, by decide, by decide, by decide, by decide, by decide, by decide, by decide, G6.1, q12.2.2.1, by omega⟩
          simp only [kn] at q14
          have H7 := nV_fr q14.1 (k := 7) (by decide) G7.1
          have H11 := nV_fr q14.1 (k := 11) (by decide) q12.2.1
          have L5 := q14.2.2.2
          refine times_c hC  ?_ (fun σ_15 q16 => ?_)
          · clear h; simp only [kn]
            exact ⟨by decide, by decide, by decide, by decide, by decide, by decide, by decide, by decide, H7.1, H11.1, by omega⟩
          simp only [kn] at q16
          have I13 := nV_fr q16.1 (k := 13) (by decide) q14.2.1
          have L6 := q16.2.2.2
          refine copy_v hC  ?_ (fun σ_17 q18 => ?_)
          · clear h; simp only [kn]
            exact ⟨by decide, by decide, by decide, by decide, by decide, I13.1⟩
          simp only [kn] at q18
          have J14 := nV_fr q18.1 (k := 14) (by decide) q16.2.1
          have L7 := q18.2.2.2
          refine copy_v hC  ?_ (fun σ_19 q20 => ?_)
          · clear h; simp only [kn]
            exact ⟨by decide, by decide, by decide, by decide, by decide, J14.1⟩
          simp only [kn] at q20
          have K6 := nV_fr q20.1 (k := 6) (by decide) q18.2.1
          have L8 := q20.2.2.2
          have w6 : nV σ_19 6 = nV σ_9 6 * nV σ_11 12 := by rw [K6.2.1, q18.2.2.1, I13.2.1, q14.2.2.1, G6.2.1]
          have w7 : nV σ_19 7 = nV σ_9 7 * nV σ_11 11 := by rw [q20.2.2.1, J14.2.1, q16.2.2.1, H7.2.1, G7.2.1, H11.2.1]
          have z7 : 0 < nV σ_19 7 := by rw [w7]; exact Nat.mul_pos (hR_q XX).2 y11
          have ek : x103_3 = x93_2 := by rw [← y2]; exact Int32.le_antisymm w1 c8
          have vk : fQ σ_19 6 7 = v x93_2.toNatClampNeg := by
            have e := fQ_mul w6 w7
            rw [mk_inv] at e
            have e2 : mkRat (nV σ_11 11 : Int) (nV σ_11 12) = elS (elN P m (m - 1 - x93_2.toNatClampNeg)) m x93_2.toNatClampNeg := (hR_q Y).1
            rw [e2, (hR_q XX).1, ek] at e
            have r := hv x93_2.toNatClampNeg k9
            have iv := inv_s (S := elS (elN P m (m - 1 - x93_2.toNatClampNeg)) m x93_2.toNatClampNeg) (by grind)
            rw [e]
            generalize elS (elN P m (m - 1 - x93_2.toNatClampNeg)) m x93_2.toNatClampNeg = U at r iv ⊢
            generalize smQ (fun r => v r * elN P m (m - 1 - x93_2.toNatClampNeg) r x93_2.toNatClampNeg) x93_2.toNatClampNeg = B at r ⊢
            grind
          refine reduce_c hC  ?_ (fun σ_21 q22 => ?_)
          · clear h; simp only [kn]
            exact ⟨by decide, by decide, by decide, by decide, by decide, K6.1, q20.2.1, z7, by omega, by omega⟩
          simp only [kn] at q22
          have R := hR_red q22.2.1 q22.2.2.1 z7 q22.2.2.2.1 q22.2.2.2.2
          rw [vk] at R
          have FT := fit_L R (F5f M hw hm2 hv k9)
          refine keepIn_c hC  ?_ (fun σ_23 q24 => ?_)
          · clear h; rw [y1, y2]
            simp only [kn]
            exact ⟨ir.1.1, ir.1.2, by decide, by decide, by decide, by decide, R.1, R.2.1, FT.1, FT.2⟩
          rw [y1, y2, ir2] at q24
          simp only [kn] at q24
          have FN : frN [0, 1, 2, 3, 4, 5, 6, 7, 8, 9, 10, 11, 12, 13, 14] σ103 σ_21 := frN_tr (frN_mono q10.1 (sub_of rfl)) (frN_tr (frN_mono q12.1 (sub_of rfl)) (frN_tr (frN_mono q14.1 (sub_of rfl)) (frN_tr (frN_mono q16.1 (sub_of rfl)) (frN_tr (frN_mono q18.1 (sub_of rfl)) (frN_tr (frN_mono q20.1 (sub_of rfl)) (frN_mono q22.1 (sub_of rfl)))))))
          have FK := frK_R (m := [0, 1, 2, 3, 4, 5, 6, 7, 8, 9, 10, 11, 12, 13, 14]) q24.1
          intro x25 hx25
          refine ⟨_, cn_lt2 hn93 ?_ ?_, rfl, ?_⟩
          · clear h; rw [hx25, y2]; exact u.2.2.1  -- d18
          · clear h; rw [hx25, y2]; exact u.2.2.2.1  -- d19
          · clear h; rw [hx25, y2]
            refine ⟨y1, frK_tr H (frK_tr (frK_N FN (sub_of rfl)) (frK_w FK (fun k hk => hk) (by omega) (by omega))), kpH_tr ky (kpH_tr (kpH_e (FN.2.2.1 93 (by decide) (by decide))) (kpH_K FK (fun r d => by unfold dOf at d; omega))), u.1, u.2.1, fun j z1 z2 => ?_, fun j hj => ?_⟩
            · rw [cn_succ t2 u.2.2.2.2.2.1] at z1
              exact hL_K FK (by omega) (hL_N FN (YT j z1 z2))
            · rw [cn_succ t2 u.2.2.2.2.2.1] at hj
              by_cases e : j = x93_2.toNatClampNeg
              · rw [e]; exact hL_of R q24.2.1 q24.2.2.1 q24.2.2.2.1 q24.2.2.2.2
              · exact hL_K FK (by omega) (hL_N FN (VT j (by omega)))
        · skip
          rw [y2] at c8
          have y := fd_u w0 c8 u.2.2.2.2.1
          have ju : x103_3.toNatClampNeg < x93_2.toNatClampNeg := cn_lt w0 y.2.2.2.2.2.2
          have irj := ixr (c := 1152) (by decide) (by decide) b0 a32 w0 y.2.2.2.2.1
          have irj2 : (1152 + 32 * a1 + x103_3).toNatClampNeg = 1152 + 32 * a1.toNatClampNeg + x103_3.toNatClampNeg := irj.2
          have xjk := ixs w0 y.2.2.2.2.1 t2 u.2.2.2.2.1
          have Ajk : hL σ103 (32 * x103_3.toNatClampNeg + x93_2.toNatClampNeg) (elN P m (m - 1 - x93_2.toNatClampNeg) x103_3.toNatClampNeg x93_2.toNatClampNeg) := by
            have z := JF.1 x103_3.toNatClampNeg x93_2.toNatClampNeg (by omega) k9
            rwa [show stF m m x103_3.toNatClampNeg x93_2.toNatClampNeg = m - 1 - x93_2.toNatClampNeg by unfold stF; rw [if_neg (by omega)]; omega] at z
          have Vj := VT x103_3.toNatClampNeg ju
          have zq : ziq σ103 (-1) = 1 := if_pos rfl
          have st : elX P m (dl a1.toNatClampNeg) (m - 1 - x93_2.toNatClampNeg) x93_2.toNatClampNeg + smQ (fun r => v r * elN P m (m - 1 - x93_2.toNatClampNeg) r x93_2.toNatClampNeg) x103_3.toNatClampNeg + v x103_3.toNatClampNeg * elN P m (m - 1 - x93_2.toNatClampNeg) x103_3.toNatClampNeg x93_2.toNatClampNeg * 1 = elX P m (dl a1.toNatClampNeg) (m - 1 - x93_2.toNatClampNeg) x93_2.toNatClampNeg + smQ (fun r => v r * elN P m (m - 1 - x93_2.toNatClampNeg) r x93_2.toNatClampNeg) (x103_3.toNatClampNeg + 1) := by rw [smQ_s, Rat.mul_one, Rat.add_assoc]
          refine addProduct_c hC  ?_ (fun σ_26 q27 => ?_)
          · clear h; rw [y1, y2, zq, o2, irj2, xjk.2.1, hL_q XK, hL_q Vj, hL_q Ajk, st]
            exact ⟨o.1.1, o.1.2, irj.1.1, irj.1.2, xjk.1.1, xjk.1.2, Or.inl rfl, XK, Vj, Ajk, F4 M hw hm2 hv k9 (by omega)⟩
          rw [y1, y2, zq, o2, irj2, xjk.2.1, hL_q XK, hL_q Vj, hL_q Ajk, st] at q27
          intro x28 hx28
          refine ⟨_, cn_lt2 hn103 ?_ ?_, rfl, ?_⟩
          · clear h; rw [hx28, y2]; exact y.2.2.1  -- d22
          · clear h; rw [hx28, y2]; exact y.2.2.2.1  -- d23
          · clear h; rw [hx28, y2, cn_succ w0 y.2.2.2.2.2.1]
            exact ⟨y1, rfl, frK_tr H (frK_w q27.1 (fun k hk => hk) (by omega) (by omega)), kpH_tr ky (kpH_K q27.1 (fun r d => by unfold dOf at d; omega)), y.1, y.2.1, fun j z1 z2 => hL_K q27.1 (by omega) (YT j z1 z2), q27.2, fun j hj => hL_K q27.1 (by omega) (VT j hj)⟩
    · skip
      have xk := fd_x c6 r0 r1 h1
      have cpk := cn_pred xk.2.2.2.2.2.1 xk.2.2.2.2.2.2
      rw [xk.2.2.2.2.1] at cpk
      have o := ixc (c := 1088) (by decide) (by decide) r0 xk.2.2.2.1
      have o2 : (1088 + x43_2).toNatClampNeg = 1088 + x43_2.toNatClampNeg := o.2.1
      have oS := ixc (c := 1056) (by decide) (by decide) r0 xk.2.2.2.1
      have oS2 : (1056 + x43_2).toNatClampNeg = 1056 + x43_2.toNatClampNeg := oS.2.1
      have k32 := o.2.2
      unfold w_visitFrom_49
      refine ⟨fun n l1 l2 l3 τ => n = (l2 - l3).toNatClampNeg ∧ (l1 = a1 ∧ l2 = x43_2 ∧ frK [0, 1, 2, 3, 4, 5, 6, 7, 8, 9, 10, 11, 12, 13, 14] (260 * 1088) (260 * 2176) σ τ ∧ kpH (dOf a1.toNatClampNeg) σ τ ∧ 0 ≤ l3 ∧ l3 ≤ l2 ∧ xrJ τ P m a1.toNatClampNeg (xsF m (m - 1 - x43_2.toNatClampNeg) l3.toNatClampNeg)), ⟨_, rfl, ?_⟩, ?_⟩
      · clear h; exact ⟨f1, rfl, G, kq, by decide, r0, XR⟩  -- j25
      rintro n49 x49_1 x49_2 x49_3 σ49 ⟨hn49, i49⟩
      obtain ⟨y1, y2, H, ky, w0, w1, XT⟩ := i49
      refine ⟨fun c29 => ?_, fun c29 => ?_⟩
      · skip
        intro x30 hx30
        refine ⟨_, cn_lt2 hn43 ?_ ?_, rfl, ?_⟩
        · clear h; rw [hx30, y2]; exact xk.1  -- d26
        · clear h; rw [hx30, y2]; exact xk.2.1  -- d27
        · clear h; have ek : x49_3 = x43_2 := by rw [← y2]; exact Int32.le_antisymm w1 c29
          rw [ek] at XT
          rw [hx30, y2]
          refine ⟨y1, H, ky, xk.1, xk.2.2.1, fun j hj => ?_⟩
          have z := XT j hj
          have e := xsF_e (j := j) cpk km hj
          rwa [e] at z
      · skip
        rw [y2] at c29
        have y := fd_u w0 c29 xk.2.2.2.1
        have ju : x49_3.toNatClampNeg < x43_2.toNatClampNeg := cn_lt w0 y.2.2.2.2.2.2
        have oj := ixc (c := 1088) (by decide) (by decide) w0 y.2.2.2.2.1
        have oj2 : (1088 + x49_3).toNatClampNeg = 1088 + x49_3.toNatClampNeg := oj.2.1
        have xkj := ixs r0 xk.2.2.2.1 w0 y.2.2.2.2.1
        have JF := fdJ_kp hm2 ky J0
        have AS := JF.2.2 x43_2.toNatClampNeg (Nat.zero_le _) km
        have Q1 := Mk_n M (n := m - 1 - x43_2.toNatClampNeg) (by omega)
        rw [show m - (m - 1 - x43_2.toNatClampNeg) = x43_2.toNatClampNeg + 1 by omega] at Q1
        have Sp := (Mk_S Q1).1
        have Sn : elS (elN P m (m - 1 - x43_2.toNatClampNeg)) m x43_2.toNatClampNeg ≠ 0 := by grind
        have Akj : hL σ49 (32 * x43_2.toNatClampNeg + x49_3.toNatClampNeg) (elN P m (m - 1 - x43_2.toNatClampNeg) x43_2.toNatClampNeg x49_3.toNatClampNeg) := by
          have z := JF.1 x43_2.toNatClampNeg x49_3.toNatClampNeg km (by omega)
          rwa [show stF m m x43_2.toNatClampNeg x49_3.toNatClampNeg = m - 1 - x43_2.toNatClampNeg by unfold stF; rw [if_neg (by omega)]; omega] at z
        have Xj : hL σ49 (1088 + x49_3.toNatClampNeg) (elX P m (dl a1.toNatClampNeg) (m - 1 - x43_2.toNatClampNeg) x49_3.toNatClampNeg) := by
          have z := XT x49_3.toNatClampNeg (by omega)
          rwa [show xsF m (m - 1 - x43_2.toNatClampNeg) x49_3.toNatClampNeg x49_3.toNatClampNeg = m - 1 - x43_2.toNatClampNeg by unfold xsF; rw [if_neg (by omega)]; omega] at z
        have Xk : hL σ49 (1088 + x43_2.toNatClampNeg) (elX P m (dl a1.toNatClampNeg) (m - 1 - x43_2.toNatClampNeg) x43_2.toNatClampNeg) := by
          have z := XT x43_2.toNatClampNeg km
          rwa [show xsF m (m - 1 - x43_2.toNatClampNeg) x49_3.toNatClampNeg x43_2.toNatClampNeg = m - 1 - x43_2.toNatClampNeg by unfold xsF; rw [if_neg (by omega)]; omega] at z
        refine addProduct_c hC  ?_ (fun σ_31 q32 => ?_)
        · clear h; rw [y2, ziq_p oS.1.1, oj2, o2, xkj.2.1, oS2, hL_q Xj, hL_q Xk, hL_q Akj, hL_q AS, ← el_xt km]
          exact ⟨oj.1.1, oj.1.2, o.1.1, o.1.2, xkj.1.1, xkj.1.2, Or.inr ⟨oS.1.1, oS.1.2, AS, Sn⟩, Xj, Xk, Akj, F3 M hw hm2 (by omega)⟩
        rw [y2, ziq_p oS.1.1, oj2, o2, xkj.2.1, oS2, hL_q Xj, hL_q Xk, hL_q Akj, hL_q AS, ← el_xt km] at q32
        intro x33 hx33
        refine ⟨_, cn_lt2 hn49 ?_ ?_, rfl, ?_⟩
        · clear h; rw [hx33, y2]; exact y.2.2.1  -- d30
        · clear h; rw [hx33, y2]; exact y.2.2.2.1  -- d31
        · clear h; rw [hx33, y2, cn_succ w0 y.2.2.2.2.2.1]
          refine ⟨y1, rfl, frK_tr H (frK_w q32.1 (fun k hk => hk) (by omega) (by omega)), kpH_tr ky (kpH_K q32.1 (fun r d => by unfold dOf at d; omega)), y.1, y.2.1, fun j hj => ?_⟩
          by_cases e : j = x49_3.toNatClampNeg
          · rw [e, show xsF m (m - 1 - x43_2.toNatClampNeg) (x49_3.toNatClampNeg + 1) x49_3.toNatClampNeg = m - 1 - x43_2.toNatClampNeg + 1 by unfold xsF; rw [if_pos (by omega)]]
            exact q32.2
          · have z := XT j hj
            rw [show xsF m (m - 1 - x43_2.toNatClampNeg) x49_3.toNatClampNeg j = xsF m (m - 1 - x43_2.toNatClampNeg) (x49_3.toNatClampNeg + 1) j from xsF_o e] at z
            exact hL_K q32.1 (by omega) z
  · skip
    refine ⟨fun c34 => ?_, fun c34 => ?_⟩
    · skip
      refine hj26 _ _ _ _ _ ?_
      · clear h; rw [e100] at c4
        refine ⟨e1, rfl, rfl, c4, rfl, by decide, ?_⟩
        unfold dl
        rw [if_neg (fun z => c34 (by rw [e1]; exact (cn_inj l0 b0 z.symm)))]
        rfl
    · skip
      refine hj26 _ _ _ _ _ ?_
      · clear h; rw [e100] at c4
        refine ⟨e1, rfl, rfl, c4, rfl, by decide, ?_⟩
        unfold dl
        rw [c34, e1, if_pos rfl]
        rfl

end
section
set_option maxHeartbeats 1600000
/-! the reference: sums over the states before -/
/-- the product of the first n denominators -/
def prS (D : Nat → Nat) : Nat → Nat
  | 0 => 1
  | n + 1 => prS D n * D n
theorem prS_dvd {D : Nat → Nat} {i : Nat} : ∀ {n : Nat}, i < n → D i ∣ prS D n
  | 0, h => absurd h (Nat.not_lt_zero i)
  | n + 1, h => by
    by_cases e : i = n
    · rw [e]; exact Nat.dvd_mul_left ..
    · exact Nat.dvd_trans (prS_dvd (n := n) (by omega)) (Nat.dvd_mul_right ..)
theorem prS_pos {D : Nat → Nat} : ∀ {n : Nat}, (∀ i, i < n → 0 < D i) → 0 < prS D n
  | 0, _ => Nat.one_pos
  | n + 1, h => Nat.mul_pos (prS_pos (n := n) (fun i hi => h i (by omega))) (h n (by omega))
theorem prS_le {D : Nat → Nat} {b : Nat} : ∀ {n : Nat}, (∀ i, i < n → D i ≤ 65536 ^ b) → prS D n ≤ 65536 ^ (b * n)
  | 0, _ => Nat.le_refl 1
  | n + 1, h => by
    have ih := prS_le (D := D) (b := b) (n := n) (fun i hi => h i (by omega))
    show prS D n * D n ≤ 65536 ^ (b * (n + 1))
    rw [Nat.mul_add, Nat.mul_one, Nat.pow_add]
    exact Nat.mul_le_mul ih (h n (by omega))
/-- a fraction with a known denominator and a known size: its places -/
theorem pl_of {σ : rS} {n d : Nat} {q : Rat} {M a b : Nat} (h : hR σ n d q) (hM : 0 < M) (hd : q.den ∣ M) (hm : M < 65536 ^ a) (hq : q ≤ ((65536 ^ b : Nat) : Rat)) : nL σ d ≤ a ∧ nL σ n ≤ a + b := by
  have le := Nat.le_of_dvd hM hd
  have d0 : 0 < q.den := den0
  refine ⟨nL_lt h.2.1 (by rw [h.2.2.2]; omega), nL_lt h.1 ?_⟩
  have e := (Rat.le_iff q ((65536 ^ b : Nat) : Rat)).mp hq
  rw [Rat.num_natCast, Rat.den_natCast, ← h.2.2.1] at e
  have e2 : nV σ n ≤ 65536 ^ b * q.den := by
    have z : ((nV σ n : Nat) : Int) * ((1 : Nat) : Int) ≤ ((65536 ^ b : Nat) : Int) * (q.den : Int) := e
    rw [← Int.natCast_mul, ← Int.natCast_mul] at z
    have z2 := Int.ofNat_le.mp z
    omega
  have e3 : 65536 ^ b * q.den ≤ 65536 ^ b * M := Nat.mul_le_mul_left _ le
  have p : 0 < 65536 ^ b := Nat.pow_pos (by decide)
  have e4 : 65536 ^ b * M < 65536 ^ b * 65536 ^ a := Nat.mul_lt_mul_of_pos_left hm p
  rw [Nat.add_comm a b, Nat.pow_add]
  omega

end
section
set_option maxHeartbeats 1600000
/-! the reference: what the nexts of a state weigh -/
theorem sI_c {f g : Nat → Int} : ∀ {n : Nat}, (∀ i, i < n → f i = g i) → sI f n = sI g n
  | 0, _ => rfl
  | n + 1, h => by
    show sI f n + f n = sI g n + g n
    rw [sI_c (n := n) (fun i hi => h i (by omega)), h n (by omega)]
theorem sI_le {f g : Nat → Int} : ∀ {n : Nat}, (∀ i, i < n → f i ≤ g i) → sI f n ≤ sI g n
  | 0, _ => Int.le_refl _
  | n + 1, h => Int.add_le_add (sI_le (n := n) fun i hi => h i (by omega)) (h n (by omega))
theorem sI_z : ∀ {n : Nat}, sI (fun _ => 0) n = 0
  | 0 => rfl
  | n + 1 => by
    show sI (fun _ => 0) n + 0 = 0
    rw [sI_z (n := n)]; rfl
theorem sI_nn {f : Nat → Int} {n : Nat} (h : ∀ i, i < n → 0 ≤ f i) : 0 ≤ sI f n := by
  have a := sI_le (f := fun _ => 0) (g := f) h
  rwa [sI_z] at a
theorem sI_lt {f g : Nat → Int} {j : Nat} : ∀ {n : Nat}, (∀ i, i < n → f i ≤ g i) → j < n → f j < g j → sI f n < sI g n
  | 0, _, h, _ => absurd h (Nat.not_lt_zero j)
  | n + 1, h, hj, hl => by
    show sI f n + f n < sI g n + g n
    by_cases e : j = n
    · have a := sI_le (f := f) (g := g) (n := n) (fun i hi => h i (by omega))
      rw [e] at hl
      omega
    · have a := sI_lt (f := f) (g := g) (n := n) (fun i hi => h i (by omega)) (by omega) hl
      have b := h n (by omega)
      omega
theorem sI_mn {f : Nat → Int} {m n : Nat} (h : ∀ i, i < n → 0 ≤ f i) (hm : m ≤ n) : sI f m ≤ sI f n := by
  induction n with
  | zero => rw [show m = 0 by omega]; exact Int.le_refl _
  | succ n ih =>
    by_cases e : m = n + 1
    · rw [e]; exact Int.le_refl _
    · have a := ih (fun i hi => h i (by omega)) (by omega)
      have b := h n (by omega)
      show sI f m ≤ sI f n + f n
      omega
theorem sI_ad {f g : Nat → Int} : ∀ {n : Nat}, sI (fun i => f i + g i) n = sI f n + sI g n
  | 0 => rfl
  | n + 1 => by
    show sI (fun i => f i + g i) n + (f n + g n) = sI f n + f n + (sI g n + g n)
    rw [sI_ad (n := n)]; omega
theorem sI_cm {f : Nat → Nat → Int} {n : Nat} : ∀ {m : Nat}, sI (fun a => sI (fun b => f a b) n) m = sI (fun b => sI (fun a => f a b) m) n
  | 0 => sI_z.symm
  | m + 1 => by
    show sI (fun a => sI (fun b => f a b) n) m + sI (fun b => f m b) n = sI (fun b => sI (fun a => f a b) m + f m b) n
    rw [sI_ad, sI_cm (m := m)]
theorem sI_one {c : Nat} {x : Int} : ∀ {n : Nat}, sI (fun d => if d = c then x else 0) n = if c < n then x else 0
  | 0 => rfl
  | n + 1 => by
    show sI (fun d => if d = c then x else 0) n + (if n = c then x else 0) = if c < n + 1 then x else 0
    rw [sI_one (n := n)]
    split <;> split <;> split <;> omega
theorem ws_I {r : Nat → Int32} : ∀ {n : Nat}, wsum r n = sI (fun j => (r j).toInt) n
  | 0 => rfl
  | n + 1 => by
    show wsum r n + (r n).toInt = sI (fun j => (r j).toInt) n + (r n).toInt
    rw [ws_I (n := n)]
/-- the weight of next i of state s, 0 if it is not taken -/
def twI (σ : rS) (s i : Nat) : Int := if σ.2.2.1 81 s = 0 then (σ.2.2.1 79 i).toInt else if i = (σ.2.2.1 76 s + σ.2.2.1 83 s).toNatClampNeg then 1 else 0
def wcI (σ : rS) (s : Nat) (t : Int32) (i : Nat) : Int := if σ.2.2.1 77 i = 0 ∧ σ.2.2.1 78 i = t then twI σ s i else 0
def loN (σ : rS) (s : Nat) : Nat := (σ.2.2.1 76 s).toNatClampNeg
def leN (σ : rS) (s : Nat) : Nat := (σ.2.2.1 76 (s + 1)).toNatClampNeg - loN σ s
/-- what state s gives to state t with its first n nexts -/
def wpI (σ : rS) (s : Nat) (t : Int32) (n : Nat) : Int := sI (fun d => wcI σ s t (loN σ s + d)) n
def wKI (σ : rS) (s : Nat) (t : Int32) : Int := wpI σ s t (leN σ s)
def tTI (σ : rS) (s : Nat) : Int := if σ.2.2.1 81 s = 0 then (σ.2.2.1 80 s).toInt else 1
/-- states in order, and a plan within them -/
def pOK (σ : rS) : Prop := exO σ ∧ ∀ j : Int32, 0 ≤ j → j < σ.1 70 → rd σ 81 j ≠ 0 → 0 ≤ rd σ 83 j ∧ rd σ 83 j < rd σ 76 (j + 1) - rd σ 76 j
theorem pOK_of {σ : rS} (h : exP σ) : pOK σ := ⟨h.1, fun j j0 j1 => (h.2.2.1 j j0 j1).2⟩
theorem sub_n {a b p : Int32} (a0 : 0 ≤ a) (ab : a < b) (b1 : b ≤ 20000) (p0 : 0 ≤ p) (p1 : p < b - a) : (a + p).toNatClampNeg = a.toNatClampNeg + p.toNatClampNeg ∧ p.toNatClampNeg < b.toNatClampNeg - a.toNatClampNeg ∧ 0 ≤ a + p ∧ a + p < b := by
  have x1 : 0 ≤ a + p := by grind
  have x2 : a + p < b := by grind
  have ta := t0 a0
  have tp := t0 p0
  have tb := ti b1
  have tab := Int32.lt_iff_toInt_lt.mp ab
  have tp1 : p.toInt ≤ 20000 := by
    have z : p ≤ 20000 := by grind
    exact ti z
  rw [show (20000 : Int32).toInt = 20000 from rfl] at tb
  have e : (a + p).toInt = a.toInt + p.toInt := by
    rw [Int32.toInt_add]
    exact Int.bmod_eq_of_le (by omega) (by omega)
  have l := Int32.lt_iff_toInt_lt.mp x2
  have c1 := cn_int a0
  have c2 := cn_int p0
  have c3 := cn_int x1
  have c4 := cn_int (x := b) (by grind)
  exact ⟨by omega, by omega, x1, x2⟩
theorem tw_nn {σ : rS} {j : Int32} (h : pOK σ) (j0 : 0 ≤ j) (j1 : j < σ.1 70) {d : Nat} (hd : d < leN σ j.toNatClampNeg) : 0 ≤ twI σ j.toNatClampNeg (loN σ j.toNatClampNeg + d) := by
  have s := h.1.2.2.2.1 j j0 j1
  have st := ex_st h.1 j0 j1
  unfold twI
  split
  · have z := s.2.2.1 (loN σ j.toNatClampNeg + d) (Nat.le_add_right ..) (by unfold leN loN at *; rw [rd, st.2.2.2.1]; omega)
    have z2 := Int32.le_iff_toInt_le.mp z
    rw [show (1 : Int32).toInt = 1 from rfl] at z2
    omega
  · split <;> omega
theorem tT_sum {σ : rS} {j : Int32} (h : pOK σ) (j0 : 0 ≤ j) (j1 : j < σ.1 70) : sI (fun d => twI σ j.toNatClampNeg (loN σ j.toNatClampNeg + d)) (leN σ j.toNatClampNeg) = tTI σ j.toNatClampNeg := by
  have s := h.1.2.2.2.1 j j0 j1
  have st := ex_st h.1 j0 j1
  by_cases e : σ.2.2.1 81 j.toNatClampNeg = 0
  · unfold tTI
    rw [if_pos e, sI_c (g := fun d => (σ.2.2.1 79 (loN σ j.toNatClampNeg + d)).toInt) (fun i _ => by unfold twI; rw [if_pos e])]
    have z := (s.2.2.2.1 e).1
    rw [wOf, ws_I, rd, rd, rd, st.2.2.2.1] at z
    exact z.symm
  · have p := h.2 j j0 j1 e
    have s1 := s.1
    rw [rd, rd, rd, st.2.2.2.1] at p
    rw [rd, rd, st.2.2.2.1] at s1
    have q := sub_n s1.1 s1.2.1 (Int32.le_trans s1.2.2 h.1.2.2.1.2) p.1 p.2
    unfold tTI
    rw [if_neg e, sI_c (g := fun d => if d = (σ.2.2.1 83 j.toNatClampNeg).toNatClampNeg then 1 else 0) (fun i _ => by unfold twI loN; rw [if_neg e, q.1]; split <;> split <;> omega), sI_one, if_pos]
    exact q.2.1
theorem tT_b {σ : rS} {j : Int32} (h : pOK σ) (j0 : 0 ≤ j) (j1 : j < σ.1 70) : 1 ≤ tTI σ j.toNatClampNeg ∧ tTI σ j.toNatClampNeg ≤ 8000000 := by
  have s := h.1.2.2.2.1 j j0 j1
  have st := ex_st h.1 j0 j1
  by_cases e : σ.2.2.1 81 j.toNatClampNeg = 0
  · constructor
    · rw [← tT_sum h j0 j1]
      have s1 := s.1
      rw [rd, rd, st.2.2.2.1] at s1
      have l := cn_lt s1.1 s1.2.1
      have z := s.2.2.1 (loN σ j.toNatClampNeg) (Nat.le_refl _) (by rw [rd, st.2.2.2.1]; exact l)
      have z2 := Int32.le_iff_toInt_le.mp z
      rw [show (1 : Int32).toInt = 1 from rfl] at z2
      have g := sI_lt (f := fun _ => 0) (g := fun d => twI σ j.toNatClampNeg (loN σ j.toNatClampNeg + d)) (j := 0) (n := leN σ j.toNatClampNeg) (fun i hi => tw_nn h j0 j1 hi) (by unfold leN loN; omega) (by unfold twI; rw [if_pos e, Nat.add_zero]; omega)
      rw [sI_z] at g
      omega
    · unfold tTI
      rw [if_pos e]
      exact Int32.le_iff_toInt_le.mp (s.2.2.2.1 e).2
  · unfold tTI
    rw [if_neg e]
    omega
theorem wc_b {σ : rS} {j t : Int32} (h : pOK σ) (j0 : 0 ≤ j) (j1 : j < σ.1 70) {d : Nat} (hd : d < leN σ j.toNatClampNeg) : 0 ≤ wcI σ j.toNatClampNeg t (loN σ j.toNatClampNeg + d) ∧ wcI σ j.toNatClampNeg t (loN σ j.toNatClampNeg + d) ≤ twI σ j.toNatClampNeg (loN σ j.toNatClampNeg + d) := by
  have z := tw_nn h j0 j1 hd
  unfold wcI
  split
  · exact ⟨z, Int.le_refl _⟩
  · exact ⟨Int.le_refl _, z⟩
theorem wp_b {σ : rS} {j t : Int32} (h : pOK σ) (j0 : 0 ≤ j) (j1 : j < σ.1 70) {n : Nat} (hn : n ≤ leN σ j.toNatClampNeg) : 0 ≤ wpI σ j.toNatClampNeg t n ∧ wpI σ j.toNatClampNeg t n ≤ tTI σ j.toNatClampNeg := by
  unfold wpI
  refine ⟨sI_nn (fun i hi => (wc_b h j0 j1 (by omega)).1), ?_⟩
  rw [← tT_sum h j0 j1]
  exact Int.le_trans (sI_le (fun i hi => (wc_b h j0 j1 (by omega)).2)) (sI_mn (fun i hi => tw_nn h j0 j1 hi) hn)
/-- members that differ take each next once -/
theorem wc_m {σ : rS} {M : Nat → Int32} {m : Nat} (hM : ∀ a b, a < m → b < m → M a = M b → a = b) {s i : Nat} (h0 : 0 ≤ twI σ s i) : 0 ≤ sI (fun b => wcI σ s (M b) i) m ∧ sI (fun b => wcI σ s (M b) i) m ≤ twI σ s i ∧ ((σ.2.2.1 77 i ≠ 0 ∨ ∀ b, b < m → σ.2.2.1 78 i ≠ M b) → sI (fun b => wcI σ s (M b) i) m = 0) := by
  by_cases e : σ.2.2.1 77 i = 0 ∧ ∃ c, c < m ∧ σ.2.2.1 78 i = M c
  · obtain ⟨e1, c, hc, e2⟩ := e
    rw [sI_c (g := fun b => if b = c then twI σ s i else 0) (fun b hb => by
      unfold wcI
      by_cases z : b = c
      · rw [if_pos ⟨e1, by rw [z]; exact e2⟩, if_pos z]
      · rw [if_neg (fun y => z (hM b c hb hc (y.2.symm.trans e2))), if_neg z]), sI_one, if_pos hc]
    refine ⟨h0, Int.le_refl _, fun z => ?_⟩
    rcases z with z | z
    · exact absurd e1 z
    · exact absurd e2 (z c hc)
  · rw [sI_c (g := fun _ => 0) (fun b hb => by
      unfold wcI
      rw [if_neg (fun y => e ⟨y.1, b, hb, y.2⟩)]), sI_z]
    exact ⟨Int.le_refl _, h0, fun _ => rfl⟩
theorem wK_m {σ : rS} {M : Nat → Int32} {m : Nat} (hM : ∀ a b, a < m → b < m → M a = M b → a = b) {j : Int32} (h : pOK σ) (j0 : 0 ≤ j) (j1 : j < σ.1 70) : sI (fun b => wKI σ j.toNatClampNeg (M b)) m ≤ tTI σ j.toNatClampNeg ∧ ∀ i : Int32, σ.2.2.1 76 j.toNatClampNeg ≤ i → i < σ.2.2.1 76 (j.toNatClampNeg + 1) → 0 < twI σ j.toNatClampNeg i.toNatClampNeg → (σ.2.2.1 77 i.toNatClampNeg ≠ 0 ∨ ∀ b, b < m → σ.2.2.1 78 i.toNatClampNeg ≠ M b) → sI (fun b => wKI σ j.toNatClampNeg (M b)) m < tTI σ j.toNatClampNeg := by
  have st := ex_st h.1 j0 j1
  unfold wKI wpI
  rw [← tT_sum h j0 j1, sI_cm (f := fun b d => wcI σ j.toNatClampNeg (M b) (loN σ j.toNatClampNeg + d))]
  refine ⟨sI_le (fun i hi => (wc_m hM (tw_nn h j0 j1 hi)).2.1), fun i i0 i1 hw hn => ?_⟩
  have l := cn_l i0 st.1.1
  have u := cn_lt (Int32.le_trans st.1.1 i0) i1
  have e : loN σ j.toNatClampNeg + (i.toNatClampNeg - loN σ j.toNatClampNeg) = i.toNatClampNeg := by unfold loN; omega
  refine sI_lt (j := i.toNatClampNeg - loN σ j.toNatClampNeg) (fun i hi => (wc_m hM (tw_nn h j0 j1 hi)).2.1) (by unfold leN loN; omega) ?_
  show sI (fun a => wcI σ j.toNatClampNeg (M a) (loN σ j.toNatClampNeg + (i.toNatClampNeg - loN σ j.toNatClampNeg))) m < twI σ j.toNatClampNeg (loN σ j.toNatClampNeg + (i.toNatClampNeg - loN σ j.toNatClampNeg))
  rw [e, (wc_m (M := M) (m := m) hM (Int.le_of_lt hw)).2.2 hn]
  exact hw

end
section
set_option maxHeartbeats 1600000
/-! the reference: the chain of a ring -/
def mN (σ : rS) (a : Nat) : Nat := (σ.2.2.1 99 a).toNatClampNeg
/-- the members of a ring: states, and no two alike -/
def mbO (σ : rS) (m : Nat) : Prop := (∀ a, a < m → 0 ≤ σ.2.2.1 99 a ∧ σ.2.2.1 99 a < σ.1 70) ∧ ∀ a b, a < m → b < m → σ.2.2.1 99 a = σ.2.2.1 99 b → a = b
def riT (σ : rS) (r : Nat) : Nat := (tTI σ (mN σ r)).toNat
def rK (σ : rS) (m r j : Nat) : Int := if j = m then tTI σ (mN σ r) - sI (fun b => wKI σ (mN σ r) (σ.2.2.1 99 b)) m else wKI σ (mN σ r) (σ.2.2.1 99 j)
def rP (σ : rS) (m r j : Nat) : Rat := mkRat (rK σ m r j) (riT σ r)
/-- from state s the end can come -/
def cnE (σ : rS) (s : Nat) : Prop := endN σ 1 s ∨ ∃ t, t < (σ.1 70).toNatClampNeg ∧ Tr (edN σ 1 95 1) s t ∧ endN σ 1 t
theorem mk_d {a : Int} {b : Nat} : mkRat a b = (a : Rat) * (b : Rat)⁻¹ := by rw [Rat.mkRat_eq_div, Rat.div_def]
theorem nq0 {b : Nat} (h : 0 < b) : (0 : Rat) < (b : Rat) := Rat.natCast_pos.mpr h
theorem mk_t {a : Int} {b : Nat} (h : 0 < b) : (a : Rat) = (b : Rat) * mkRat a b := by
  have e := inv_s (S := (b : Rat)) (by have := nq0 h; grind)
  rw [mk_d]
  grind
theorem riT_b {σ : rS} {m r : Nat} (h : pOK σ) (hM : mbO σ m) (hr : r < m) : 0 < riT σ r ∧ riT σ r ≤ 8000000 ∧ (riT σ r : Int) = tTI σ (mN σ r) := by
  have b := tT_b h (hM.1 r hr).1 (hM.1 r hr).2
  unfold riT mN
  omega
theorem rK_b {σ : rS} {m r j : Nat} (h : pOK σ) (hM : mbO σ m) (hr : r < m) (hj : j < m ∨ j = m) : 0 ≤ rK σ m r j ∧ rK σ m r j ≤ (riT σ r : Int) := by
  have b := riT_b h hM hr
  have k := hM.1 r hr
  have s := (wK_m (M := σ.2.2.1 99) (m := m) hM.2 h k.1 k.2).1
  have nn : 0 ≤ sI (fun b => wKI σ (mN σ r) (σ.2.2.1 99 b)) m := sI_nn (fun i _ => (wp_b h k.1 k.2 (Nat.le_refl _)).1)
  rw [b.2.2]
  unfold rK
  split
  · unfold mN at *
    omega
  · exact wp_b h k.1 k.2 (Nat.le_refl _)
theorem rP_whl {σ : rS} {m : Nat} (h : pOK σ) (hM : mbO σ m) : whl (rP σ m) m (riT σ) (rK σ m) := by
  refine ⟨fun r hr => ⟨(riT_b h hM hr).1, Nat.le_trans (riT_b h hM hr).2.1 (by decide)⟩, fun r j hr hj => ?_⟩
  have b := riT_b h hM hr
  exact ⟨mk_t b.1, rK_b h hM hr hj⟩
theorem rP_pos {σ : rS} {m r j : Nat} (h : pOK σ) (hM : mbO σ m) (hr : r < m) (hk : 0 < rK σ m r j) : 0 < rP σ m r j := by
  have b := riT_b h hM hr
  have t := nq0 b.1
  have i := Rat.inv_pos.mpr t
  have k : (0 : Rat) < (rK σ m r j : Rat) := Rat.intCast_pos.mpr hk
  unfold rP
  rw [mk_d]
  exact Rat.mul_pos k i
theorem rP_nn {σ : rS} {m r j : Nat} (h : pOK σ) (hM : mbO σ m) (hr : r < m) (hj : j < m ∨ j = m) : 0 ≤ rP σ m r j := by
  have k := (rK_b h hM hr hj).1
  by_cases e : rK σ m r j = 0
  · unfold rP
    rw [e, Rat.zero_mkRat]
    exact Rat.le_refl
  · exact Rat.le_of_lt (rP_pos h hM hr (by omega))
theorem rP_1 {σ : rS} {m r : Nat} (h : pOK σ) (hM : mbO σ m) (hr : r < m) : rP σ m r m + smQ (rP σ m r) m = 1 := by
  have b := riT_b h hM hr
  have e := inv_s (S := (riT σ r : Rat)) (by have := nq0 b.1; grind)
  have s : smQ (rP σ m r) m = ((sI (fun b => wKI σ (mN σ r) (σ.2.2.1 99 b)) m : Int) : Rat) * (riT σ r : Rat)⁻¹ := by
    rw [sI_cast, ← smQ_mul]
    exact smQ_c (fun i hi => by
      unfold rP rK
      rw [mk_d, if_neg (by omega)])
  have z : rP σ m r m = ((tTI σ (mN σ r) - sI (fun b => wKI σ (mN σ r) (σ.2.2.1 99 b)) m : Int) : Rat) * (riT σ r : Rat)⁻¹ := by
    unfold rP rK
    rw [mk_d, if_pos rfl]
  rw [s, z, ← Rat.add_mul, ← Rat.intCast_add, Int.sub_add_cancel, ← b.2.2]
  exact e
/-- a next that is taken weighs something -/
theorem tw_pos {σ : rS} {j i : Int32} (h : pOK σ) (j0 : 0 ≤ j) (j1 : j < σ.1 70) (i0 : σ.2.2.1 76 j.toNatClampNeg ≤ i) (i1 : i < σ.2.2.1 76 (j.toNatClampNeg + 1)) (ht : σ.2.2.1 81 j.toNatClampNeg = 0 ∨ i = σ.2.2.1 76 j.toNatClampNeg + σ.2.2.1 83 j.toNatClampNeg) : 0 < twI σ j.toNatClampNeg i.toNatClampNeg := by
  have s := h.1.2.2.2.1 j j0 j1
  have st := ex_st h.1 j0 j1
  unfold twI
  by_cases e : σ.2.2.1 81 j.toNatClampNeg = 0
  · rw [if_pos e]
    have z := s.2.2.1 i.toNatClampNeg (cn_l i0 st.1.1) (by rw [rd, st.2.2.2.1]; exact cn_lt (Int32.le_trans st.1.1 i0) i1)
    have z2 := Int32.le_iff_toInt_le.mp z
    rw [show (1 : Int32).toInt = 1 from rfl] at z2
    omega
  · rcases ht with z | z
    · exact absurd z e
    · rw [if_neg e, if_pos (by rw [z])]
      decide
theorem rP_out {σ : rS} {m r : Nat} {i : Int32} (h : pOK σ) (hM : mbO σ m) (hr : r < m) (i0 : σ.2.2.1 76 (mN σ r) ≤ i) (i1 : i < σ.2.2.1 76 (mN σ r + 1)) (ht : σ.2.2.1 81 (mN σ r) = 0 ∨ i = σ.2.2.1 76 (mN σ r) + σ.2.2.1 83 (mN σ r)) (hn : σ.2.2.1 77 i.toNatClampNeg ≠ 0 ∨ ∀ b, b < m → σ.2.2.1 78 i.toNatClampNeg ≠ σ.2.2.1 99 b) : 0 < rP σ m r m := by
  have k := hM.1 r hr
  refine rP_pos h hM hr ?_
  unfold rK
  rw [if_pos rfl]
  have z := (wK_m (M := σ.2.2.1 99) (m := m) hM.2 h k.1 k.2).2 i i0 i1 (tw_pos h k.1 k.2 i0 i1 ht) hn
  unfold mN
  omega
theorem rP_in {σ : rS} {m r c : Nat} {i : Int32} (h : pOK σ) (hM : mbO σ m) (hr : r < m) (hc : c < m) (i0 : σ.2.2.1 76 (mN σ r) ≤ i) (i1 : i < σ.2.2.1 76 (mN σ r + 1)) (ht : σ.2.2.1 81 (mN σ r) = 0 ∨ i = σ.2.2.1 76 (mN σ r) + σ.2.2.1 83 (mN σ r)) (h77 : σ.2.2.1 77 i.toNatClampNeg = 0) (h78 : σ.2.2.1 78 i.toNatClampNeg = σ.2.2.1 99 c) : 0 < rP σ m r c := by
  have k := hM.1 r hr
  have st := ex_st h.1 k.1 k.2
  refine rP_pos h hM hr ?_
  unfold rK
  rw [if_neg (by omega)]
  unfold wKI wpI
  have l := cn_l i0 st.1.1
  have u := cn_lt (Int32.le_trans st.1.1 i0) i1
  have w := tw_pos h k.1 k.2 i0 i1 ht
  have z := sI_lt (f := fun _ => 0) (g := fun d => wcI σ (mN σ r) (σ.2.2.1 99 c) (loN σ (mN σ r) + d)) (j := i.toNatClampNeg - loN σ (mN σ r)) (n := leN σ (mN σ r)) (fun i hi => (wc_b h k.1 k.2 hi).1) (by unfold leN loN mN at *; omega) (by
    rw [show loN σ (mN σ r) + (i.toNatClampNeg - loN σ (mN σ r)) = i.toNatClampNeg by unfold loN mN at *; omega]
    unfold wcI
    rw [if_pos ⟨h77, h78⟩]
    exact w)
  rwa [sI_z] at z
theorem rP_end {σ : rS} {m r : Nat} (h : pOK σ) (hM : mbO σ m) (hr : r < m) (he : endN σ 1 (mN σ r)) : 0 < rP σ m r m := by
  obtain ⟨i, i0, i1, h1, h2⟩ := he
  exact rP_out h hM hr i0 i1 (h2.resolve_left (by decide)) (Or.inl h1)
theorem cx_path {σ : rS} {m t : Nat} (h : pOK σ) (hM : mbO σ m) (he : endN σ 1 t) : ∀ {k r : Nat}, r < m → pth (edN σ 1 95 1) k (mN σ r) t → ∃ n, cEx (rP σ m) m m n r
  | 0, r, hr, hp => by
    obtain ⟨i, i0, i1, e1, e2, e3, -⟩ := hp
    have ht := e3.resolve_left (by decide)
    by_cases e : ∃ b, b < m ∧ σ.2.2.1 78 i.toNatClampNeg = σ.2.2.1 99 b
    · obtain ⟨b, hb, eb⟩ := e
      rw [rd, eb] at e2
      exact ⟨1, b, hb, rP_in h hM hr hb i0 i1 ht e1 eb, rP_end h hM hb (by unfold mN; rw [e2]; exact he)⟩
    · exact ⟨0, rP_out h hM hr i0 i1 ht (Or.inr (fun b hb z => e ⟨b, hb, z⟩))⟩
  | k + 1, r, hr, hp => by
    obtain ⟨c, ⟨i, i0, i1, e1, e2, e3, -⟩, g⟩ := hp
    have ht := e3.resolve_left (by decide)
    by_cases e : ∃ b, b < m ∧ σ.2.2.1 78 i.toNatClampNeg = σ.2.2.1 99 b
    · obtain ⟨b, hb, eb⟩ := e
      rw [rd, eb] at e2
      obtain ⟨n, hn⟩ := cx_path (k := k) h hM he hb (by unfold mN; rw [e2]; exact g)
      exact ⟨n + 1, b, hb, rP_in h hM hr hb i0 i1 ht e1 eb, hn⟩
    · exact ⟨0, rP_out h hM hr i0 i1 ht (Or.inr (fun b hb z => e ⟨b, hb, z⟩))⟩
theorem rP_Mk {σ : rS} {m : Nat} (h : pOK σ) (hM : mbO σ m) (hc : ∀ r, r < m → cnE σ (mN σ r)) : Mk (rP σ m) m m := by
  refine ⟨fun i j hi hj => rP_nn h hM hi hj, fun i hi => rP_1 h hM hi, fun i hi => ?_⟩
  rcases hc i hi with z | ⟨t, _, ⟨k, z1⟩, z2⟩
  · exact ⟨0, rP_end h hM hi z⟩
  · exact cx_path h hM z2 hi z1

end
