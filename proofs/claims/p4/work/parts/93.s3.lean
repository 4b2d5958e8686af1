set_option maxHeartbeats 1600000
/-! what has been taken out has small denominators -/
theorem sI_head {f : Nat → Int} : ∀ {n : Nat}, sI f (n + 1) = f 0 + sI (fun t => f (t + 1)) n
  | 0 => by show 0 + f 0 = f 0 + 0; omega
  | n + 1 => by
    have ih := sI_head (f := f) (n := n)
    show sI f (n + 1) + f (n + 1) = f 0 + (sI (fun t => f (t + 1)) n + f (n + 1))
    omega
theorem sNt_head {f : Nat → Nat} : ∀ {n : Nat}, sNt f (n + 1) = f 0 + sNt (fun t => f (t + 1)) n
  | 0 => by show 0 + f 0 = f 0 + 0; omega
  | n + 1 => by
    have ih := sNt_head (f := f) (n := n)
    show sNt f (n + 1) + f (n + 1) = f 0 + (sNt (fun t => f (t + 1)) n + f (n + 1))
    omega
theorem sI_cast {f : Nat → Int} : ∀ {n : Nat}, ((sI f n : Int) : Rat) = smQ (fun t => (f t : Rat)) n
  | 0 => rfl
  | n + 1 => by
    show ((sI f n + f n : Int) : Rat) = smQ (fun t => (f t : Rat)) n + (f n : Rat)
    rw [Rat.intCast_add, sI_cast (n := n)]
theorem smQ_sh {f : Nat → Rat} {a : Nat} (h : ∀ r, r < a → f r = 0) : ∀ {n : Nat}, smQ f (a + n) = smQ (fun t => f (a + t)) n
  | 0 => smQ_0 h
  | n + 1 => by
    show smQ f (a + n) + f (a + n) = smQ (fun t => f (a + t)) n + f (a + n)
    rw [smQ_sh h (n := n)]
theorem el_z {P : Nat → Nat → Rat} {m n : Nat} {α : Nat → Rat} {x : Nat → Rat} (h : Mk P m m) (hn : n ≤ m) (ha : ∀ r, r < m - n → α r = 0) (h0 : ∀ j, m - n ≤ j → j < m → cmb P α 0 x m j = 0) : ∀ {N s : Nat}, s ≤ N → s < m → α s = 0
  | N, s, hN, hs => by
    by_cases e : s < m - n
    · exact ha s e
    · have below : ∀ r, r < s → α r = 0 := fun r hr => by
        match N, hN with
        | 0, hN => omega
        | N + 1, hN => exact el_z h hn ha h0 (N := N) (by omega) (by omega)
      have c := cmb_n h (n := m - 1 - s) (by omega) (fun j h1 h2 => h0 j (by omega) h2) s (Or.inl (by omega))
      have M := Mk_n h (n := m - 1 - s) (by omega)
      rw [show m - (m - 1 - s) = s + 1 by omega] at c M
      rw [h0 s (by omega) hs] at c
      have S := Mk_S M
      have a := (cmb_s (m := m) (by have := S.1; grind) S.2 c.symm).1
      rw [smQ_0 (fun r hr => by rw [below r hr, Rat.zero_mul])] at a
      have S0 := S.1
      generalize elS (elN P m (m - 1 - s)) m s = U at a S0
      have b : α s * U = 0 := by grind
      rcases Rat.mul_eq_zero.mp b with z | z
      · exact z
      · rw [z] at S0
        exact absurd S0 (by decide)
theorem den_of {q : Rat} {M : Nat} {z : Int} (hM : M ≠ 0) (h : (M : Rat) * q = (z : Rat)) : q.den ∣ M ∧ q.num.natAbs ≤ z.natAbs := by
  have hq : q = mkRat z M := by
    rw [Rat.mkRat_eq_div, ← h, Rat.mul_comm]
    refine (Rat.mul_div_cancel ?_).symm
    intro e
    have : ((M : Nat) : Rat).num = 0 := by rw [e]; rfl
    rw [Rat.num_natCast] at this
    omega
  rw [hq]
  refine ⟨den_mk hM, ?_⟩
  rw [Rat.num_mkRat, if_neg hM]
  exact Int.natAbs_ediv_le_natAbs _ _
theorem sI_absI {c N : Nat → Int} {h : Nat → Nat} : ∀ {n : Nat}, (∀ r, r < n → (c r).natAbs ≤ h r) → (sI (fun r => c r * N r) n).natAbs ≤ sNt (fun r => h r * (N r).natAbs) n
  | 0, _ => Nat.le_refl 0
  | n + 1, hd => by
    have ih := sI_absI (N := N) (n := n) (fun r hr => hd r (by omega))
    have a := Int.natAbs_add_le (sI (fun r => c r * N r) n) (c n * N n)
    rw [Int.natAbs_mul] at a
    have m := Nat.mul_le_mul_right (N n).natAbs (hd n (by omega))
    show (sI (fun r => c r * N r) n + c n * N n).natAbs ≤ sNt (fun r => h r * (N r).natAbs) n + h n * (N n).natAbs
    omega
theorem prd_c {h : Nat} : ∀ {n : Nat}, prd (fun _ => h) n = (h + 1) ^ n
  | 0 => rfl
  | n + 1 => by
    show (h + 1) * prd (fun _ => h) n = (h + 1) ^ (n + 1)
    rw [prd_c (n := n), Nat.pow_succ, Nat.mul_comm]
def hd1 {A : Type} (a : A) (f : Nat → A) : Nat → A
  | 0 => a
  | r + 1 => f r
theorem el_den {P : Nat → Nat → Rat} {m n : Nat} {T : Nat → Nat} {N : Nat → Nat → Int} {W : Nat → Int} {B h0 h1 Z : Nat} {x : Nat → Rat} (h : Mk P m m) (hn : n ≤ m) (hB : 0 < B) (hT : ∀ r, r < m → 0 < T r) (hN : ∀ r j, r < m → (j < m ∨ j = m) → ((N r j : Int) : Rat) = (T r : Rat) * (dl r j - P r j)) (hW : ∀ j, (j < m ∨ j = m) → ((W j : Int) : Rat) = -((B : Rat) * x j)) (hZ : ∀ j, j < n → h0 * (W (m - n + j)).natAbs + sNt (fun t => h1 * (N (m - n + t) (m - n + j)).natAbs) n ≤ Z) (hs : (2 * Z + 1) ^ n < (h0 + 1) * (h1 + 1) ^ n) : ∃ c : Nat, 0 < c ∧ c ≤ h0 ∧ ∀ j, (j < m - n ∨ j = m) → ∃ z : Int, ((c * B : Nat) : Rat) * elX P m x n j = (z : Rat) ∧ z.natAbs ≤ h0 * (W j).natAbs + sNt (fun t => h1 * (N (m - n + t) j).natAbs) n := by
  obtain ⟨c, c1, c2, c3⟩ := siegel (m := n) (n := n + 1) (N := fun r j => hd1 (W (m - n + j)) (fun t => N (m - n + t) (m - n + j)) r) (h := hd1 h0 (fun _ => h1)) (Z := Z) (fun j hj => by rw [sNt_head]; exact hZ j hj) (by show (2 * Z + 1) ^ n < (h0 + 1) * prd (fun _ => h1) n; rw [prd_c]; exact hs)
  have I : ∀ J, (J < m ∨ J = m) → cmb P (fun r => if r < m - n then 0 else (c (r - (m - n) + 1) : Rat) * (T r : Rat)) ((c 0 : Rat) * (B : Rat)) x m J = ((sI (fun t => c (t + 1) * N (m - n + t) J) n + c 0 * W J : Int) : Rat) := fun J hJ => by
    unfold cmb
    have e : smQ (fun r => (if r < m - n then 0 else (c (r - (m - n) + 1) : Rat) * (T r : Rat)) * (dl r J - P r J)) m = smQ (fun t => ((c (t + 1) * N (m - n + t) J : Int) : Rat)) n := by
      have s := smQ_sh (f := fun r => (if r < m - n then 0 else (c (r - (m - n) + 1) : Rat) * (T r : Rat)) * (dl r J - P r J)) (a := m - n) (fun r hr => by show (if r < m - n then 0 else (c (r - (m - n) + 1) : Rat) * (T r : Rat)) * (dl r J - P r J) = 0; rw [if_pos hr, Rat.zero_mul]) (n := n)
      rw [show m - n + n = m by omega] at s
      rw [s]
      refine smQ_c (fun t ht => ?_)
      show (if m - n + t < m - n then 0 else (c (m - n + t - (m - n) + 1) : Rat) * (T (m - n + t) : Rat)) * (dl (m - n + t) J - P (m - n + t) J) = _
      rw [if_neg (by omega), show m - n + t - (m - n) = t by omega, Rat.intCast_mul, hN (m - n + t) J (by omega) hJ, Rat.mul_assoc]
    rw [e, Rat.intCast_add, Rat.intCast_mul, hW J hJ, sI_cast]
    generalize smQ (fun t => ((c (t + 1) * N (m - n + t) J : Int) : Rat)) n = A
    grind
  have Z0 : ∀ J, m - n ≤ J → J < m → sI (fun t => c (t + 1) * N (m - n + t) J) n + c 0 * W J = 0 := fun J h1 h2 => by
    have e := c3 (J - (m - n)) (by omega)
    rw [sI_head] at e
    rw [show m - n + (J - (m - n)) = J by omega] at e
    have e : c 0 * W J + sI (fun t => c (t + 1) * N (m - n + t) J) n = 0 := e
    omega
  have a0 : ∀ r, r < m - n → (fun r => if r < m - n then (0 : Rat) else (c (r - (m - n) + 1) : Rat) * (T r : Rat)) r = 0 := fun r hr => if_pos hr
  have z0 : ∀ J, m - n ≤ J → J < m → cmb P (fun r => if r < m - n then 0 else (c (r - (m - n) + 1) : Rat) * (T r : Rat)) ((c 0 : Rat) * (B : Rat)) x m J = 0 := fun J h1 h2 => by
    rw [I J (Or.inl h2), Z0 J h1 h2]
    rfl
  have ne : c 0 ≠ 0 := fun z => by
    rw [z, Rat.intCast_zero, Rat.zero_mul] at z0
    obtain ⟨r, r1, r2⟩ := c1
    match r, r1, r2 with
    | 0, _, r2 => exact r2 z
    | t + 1, r1, r2 =>
      have e := el_z h hn a0 z0 (Nat.le_refl (m - n + t)) (by omega)
      have e : (if m - n + t < m - n then (0 : Rat) else (c (m - n + t - (m - n) + 1) : Rat) * (T (m - n + t) : Rat)) = 0 := e
      rw [if_neg (by omega), show m - n + t - (m - n) = t by omega] at e
      rcases Rat.mul_eq_zero.mp e with w | w
      · exact r2 (Rat.intCast_eq_zero_iff.mp w)
      · have := Rat.natCast_eq_zero_iff.mp w
        have := hT (m - n + t) (by omega)
        omega
  refine ⟨(c 0).natAbs, by omega, c2 0, fun j hj => ?_⟩
  have k := cmb_n h hn z0 j hj
  rw [I j (by omega)] at k
  have k2 : cmb (elN P m n) (fun r => if r < m - n then 0 else (c (r - (m - n) + 1) : Rat) * (T r : Rat)) ((c 0 : Rat) * (B : Rat)) (elX P m x n) (m - n) j = 0 - (c 0 : Rat) * (B : Rat) * elX P m x n j := by
    unfold cmb
    rw [smQ_0 (fun r hr => by rw [a0 r hr, Rat.zero_mul])]
  rw [k2] at k
  have bd : (sI (fun t => c (t + 1) * N (m - n + t) j) n + c 0 * W j).natAbs ≤ h0 * (W j).natAbs + sNt (fun t => h1 * (N (m - n + t) j).natAbs) n := by
    have a := sI_absI (c := fun t => c (t + 1)) (N := fun t => N (m - n + t) j) (h := fun _ => h1) (n := n) (fun r _ => c2 (r + 1))
    have b := Int.natAbs_add_le (sI (fun t => c (t + 1) * N (m - n + t) j) n) (c 0 * W j)
    rw [Int.natAbs_mul] at b
    have d := Nat.mul_le_mul_right (W j).natAbs (show (c 0).natAbs ≤ h0 from c2 0)
    omega
  by_cases p : 0 ≤ c 0
  · refine ⟨-(sI (fun t => c (t + 1) * N (m - n + t) j) n + c 0 * W j), ?_, by rw [Int.natAbs_neg]; exact bd⟩
    rw [Rat.intCast_neg, k, Rat.natCast_mul, ← Rat.intCast_natCast, show ((c 0).natAbs : Int) = c 0 by omega]
    generalize (c 0 : Rat) = u
    generalize elX P m x n j = y
    grind
  · refine ⟨sI (fun t => c (t + 1) * N (m - n + t) j) n + c 0 * W j, ?_, bd⟩
    rw [k, Rat.natCast_mul, ← Rat.intCast_natCast (c 0).natAbs, show ((c 0).natAbs : Int) = -(c 0) by omega, Rat.intCast_neg]
    generalize (c 0 : Rat) = u
    generalize elX P m x n j = y
    grind
