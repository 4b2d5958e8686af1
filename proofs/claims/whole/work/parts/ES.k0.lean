set_option maxHeartbeats 1600000
/-! the class: sums over objects, family by family -/
def fS9 (N : Nat) (P : Nat → Bool) (g : Nat → Nat) : Nat := zSum N (fun b => if P b = true then g b else 0)
def inF9 (x : Nat → Nat) (s : Nat → Bool) : Nat → Nat → Bool
  | 0, _ => false
  | n + 1, b => inF9 x s n b || (s n && (x n == b))
def rmF9 (P : Nat → Bool) (x : Nat → Nat) (s : Nat → Bool) (n : Nat) : Nat → Bool := fun b => P b && !(inF9 x s n b)
theorem inF_n9 {x : Nat → Nat} {s : Nat → Bool} {b : Nat} : ∀ {n : Nat}, (∀ i, i < n → s i = true → x i ≠ b) → inF9 x s n b = false
  | 0, _ => rfl
  | n + 1, h => by
    have q := inF_n9 (n := n) (fun i hi => h i (Nat.lt_succ_of_lt hi))
    show (inF9 x s n b || (s n && (x n == b))) = false
    rw [q, Bool.false_or]
    cases e : s n with
    | false => rfl
    | true =>
      have z := h n (Nat.lt_succ_self n) e
      rw [Bool.true_and]
      exact beq_eq_false_iff_ne.mpr z
theorem fam_9 {N : Nat} {P : Nat → Bool} {x : Nat → Nat} {s : Nat → Bool} {g : Nat → Nat} : ∀ {n : Nat}, (∀ i, i < n → s i = true → P (x i) = true ∧ x i < N) → (∀ i j, i < j → j < n → s i = true → s j = true → x i ≠ x j) → fS9 N P g = zSum n (fun i => if s i = true then g (x i) else 0) + fS9 N (rmF9 P x s n) g
  | 0, _, _ => by
    show fS9 N P g = 0 + fS9 N (rmF9 P x s 0) g
    rw [Nat.zero_add]
    unfold fS9
    refine zSum_eq (fun b _ => ?_)
    have e : rmF9 P x s 0 b = P b := by
      show (P b && !false) = P b
      rw [Bool.not_false, Bool.and_true]
    rw [e]
  | n + 1, h, inj => by
    have q := fam_9 (N := N) (P := P) (x := x) (s := s) (g := g) (n := n) (fun i hi => h i (Nat.lt_succ_of_lt hi)) (fun i j hij hj => inj i j hij (Nat.lt_succ_of_lt hj))
    show fS9 N P g = zSum n (fun i => if s i = true then g (x i) else 0) + (if s n = true then g (x n) else 0) + fS9 N (rmF9 P x s (n + 1)) g
    cases e : s n with
    | false =>
      have z : ∀ b, rmF9 P x s (n + 1) b = rmF9 P x s n b := fun b => by
        show (P b && !(inF9 x s n b || (s n && (x n == b)))) = (P b && !(inF9 x s n b))
        rw [e, Bool.false_and, Bool.or_false]
      have y : fS9 N (rmF9 P x s (n + 1)) g = fS9 N (rmF9 P x s n) g := by
        unfold fS9
        exact zSum_eq (fun b _ => by rw [z b])
      rw [y, q]
      rfl
    | true =>
      obtain ⟨h1, h2⟩ := h n (Nat.lt_succ_self n) e
      have i0 : inF9 x s n (x n) = false := inF_n9 (fun i hi hs => inj i n hi (Nat.lt_succ_self n) hs e)
      have r1 : rmF9 P x s n (x n) = true := by
        show (P (x n) && !(inF9 x s n (x n))) = true
        rw [h1, i0]
        rfl
      have r2 : rmF9 P x s (n + 1) (x n) = false := by
        show (P (x n) && !(inF9 x s n (x n) || (s n && (x n == x n)))) = false
        rw [e, beq_self_eq_true, Bool.true_and, Bool.or_true, Bool.not_true, Bool.and_false]
      have z := zSum_one (f := fun b => if rmF9 P x s (n + 1) b = true then g b else 0) (g := fun b => if rmF9 P x s n b = true then g b else 0) h2 (fun b _ hb => by
        have y : rmF9 P x s (n + 1) b = rmF9 P x s n b := by
          show (P b && !(inF9 x s n b || (s n && (x n == b)))) = (P b && !(inF9 x s n b))
          rw [beq_eq_false_iff_ne.mpr (fun w => hb w.symm), Bool.and_false, Bool.or_false]
        show (if rmF9 P x s n b = true then g b else 0) = if rmF9 P x s (n + 1) b = true then g b else 0
        rw [y])
      have e1 : (if rmF9 P x s n (x n) = true then g (x n) else 0) = g (x n) := if_pos r1
      have e2 : (if rmF9 P x s (n + 1) (x n) = true then g (x n) else 0) = 0 := if_neg (by rw [r2]; decide)
      unfold fS9 at q ⊢
      rw [e1, e2] at z
      rw [q, if_pos rfl]
      omega
theorem zSum_p9 {f : Nat → Nat} : ∀ {n : Nat}, zSum n f = 0 → ∀ i, i < n → f i = 0
  | 0, _, i, hi => absurd hi (Nat.not_lt_zero i)
  | n + 1, h, i, hi => by
    have h' : zSum n f + f n = 0 := h
    by_cases e : i = n
    · rw [e]; omega
    · exact zSum_p9 (n := n) (by omega) i (by omega)
/-- nothing is left -/
theorem fS_z9 {N : Nat} {P : Nat → Bool} {g : Nat → Nat} (h : fS9 N P (fun _ => 1) = 0) : fS9 N P g = 0 := by
  unfold fS9 at h ⊢
  have z := zSum_p9 h
  rw [zSum_z9 (m := 0) (Nat.zero_le _) (fun i _ hi => ?_)]
  · rfl
  · have q := z i hi
    by_cases e : P i = true
    · rw [if_pos e] at q
      exact absurd (show (1 : Nat) = 0 from q) (by decide)
    · exact if_neg e
theorem nT_f9 {t : Nat} {κ : zS} : nT9 t κ = fS9 (zn κ) (fun b => decide (zT κ b = t)) (fun _ => 1) := by
  unfold nT9 fS9
  refine zSum_eq (fun b _ => ?_)
  by_cases e : zT κ b = t
  · rw [if_pos e, if_pos (decide_eq_true e)]
  · rw [if_neg e, if_neg (show ¬ decide (zT κ b = t) = true by rw [decide_eq_false e]; decide)]
theorem zSum_w9 {F : Nat → Nat → Nat} {m : Nat} : ∀ {n : Nat}, zSum n (fun b => zSum m (fun t => F b t)) = zSum m (fun t => zSum n (fun b => F b t))
  | 0 => by
    show 0 = zSum m (fun _ => 0)
    exact (zSum_z9 (m := 0) (Nat.zero_le _) (fun _ _ _ => rfl)).symm
  | n + 1 => by
    show zSum n (fun b => zSum m (fun t => F b t)) + zSum m (fun t => F n t) = zSum m (fun t => zSum n (fun b => F b t) + F n t)
    rw [zSum_w9 (n := n)]
    have key : ∀ (u v : Nat → Nat) (k : Nat), zSum k u + zSum k v = zSum k (fun t => u t + v t) := fun u v k => by
      induction k with
      | zero => rfl
      | succ k ih =>
        show zSum k u + u k + (zSum k v + v k) = zSum k (fun t => u t + v t) + (u k + v k)
        omega
    exact key _ _ m
theorem zSum_pt9 {f : Nat → Nat} {a : Nat} : ∀ {n : Nat}, a < n → f a ≤ zSum n f
  | 0, h => absurd h (Nat.not_lt_zero _)
  | n + 1, h => by
    show f a ≤ zSum n f + f n
    by_cases e : a = n
    · rw [e]; omega
    · have q := zSum_pt9 (f := f) (a := a) (n := n) (by omega)
      omega
theorem zSum_c9 {f : Nat → Nat} {c : Nat} : ∀ {n : Nat}, (∀ i, i < n → f i ≤ c) → zSum n f ≤ n * c
  | 0, _ => Nat.zero_le _
  | n + 1, h => by
    have q := zSum_c9 (n := n) (fun i hi => h i (Nat.lt_succ_of_lt hi))
    have z := h n (Nat.lt_succ_self n)
    show zSum n f + f n ≤ (n + 1) * c
    rw [Nat.add_mul, Nat.one_mul]
    omega
theorem arF_x9 : ∀ t, 16 ≤ t → t < 20 → arF t = [] := fun t h1 h2 => by
  have e : t = 16 ∨ t = 17 ∨ t = 18 ∨ t = 19 := by omega
  rcases e with e | e | e | e <;> rw [e] <;> decide +kernel
/-- what all rows allow, type by type -/
theorem pot_t9 {w : Nat → Nat → Nat} {κ : zS} (hw : ∀ c, c ≠ 11 → w 0 c = 0) : pot w κ ≤ zSum 16 (fun t => fS9 (zn κ) (fun b => decide (zT κ b = t)) (po w κ)) := by
  have e : zSum 16 (fun t => fS9 (zn κ) (fun b => decide (zT κ b = t)) (po w κ)) = zSum (zn κ) (fun b => zSum 16 (fun t => if decide (zT κ b = t) = true then po w κ b else 0)) := (zSum_w9 (F := fun b t => if decide (zT κ b = t) = true then po w κ b else 0)).symm
  rw [e]
  unfold pot
  refine zSum_le9 (fun b _ => ?_)
  by_cases h : zT κ b < 16
  · have q := zSum_pt9 (f := fun t => if decide (zT κ b = t) = true then po w κ b else 0) (a := zT κ b) h
    have z : (if decide (zT κ b = zT κ b) = true then po w κ b else 0) = po w κ b := if_pos (decide_eq_true rfl)
    rw [z] at q
    exact q
  · have z : po w κ b = 0 := by
      unfold po
      have a : arF (zT κ b) = [] := by
        by_cases y : zT κ b < 20
        · exact arF_x9 _ (by omega) y
        · exact arF_no (Or.inl (by omega))
      rw [a, hw _ (by omega)]
      rfl
    rw [z]
    exact Nat.zero_le _
/-- all objects of a type are those of a family -/
theorem ty_f9 {t n : Nat} {κ : zS} {x : Nat → Nat} {g : Nat → Nat} (ht : t ≠ 0) (hc : nT9 t κ ≤ n) (hlt : ∀ b, zT κ b ≠ 0 → b < zn κ) (h : ∀ i, i < n → zT κ (x i) = t) (inj : ∀ i j, i < j → j < n → x i ≠ x j) : fS9 (zn κ) (fun b => decide (zT κ b = t)) g = zSum n (fun i => g (x i)) := by
  have hP : ∀ i, i < n → (fun _ : Nat => true) i = true → (fun b => decide (zT κ b = t)) (x i) = true ∧ x i < zn κ := fun i hi _ => ⟨decide_eq_true (h i hi), hlt _ (by rw [h i hi]; exact ht)⟩
  have hi : ∀ i j, i < j → j < n → (fun _ : Nat => true) i = true → (fun _ : Nat => true) j = true → x i ≠ x j := fun i j a b _ _ => inj i j a b
  have c1 := fam_9 (N := zn κ) (P := fun b => decide (zT κ b = t)) (x := x) (s := fun _ => true) (g := fun _ => 1) hP hi
  have c2 := fam_9 (N := zn κ) (P := fun b => decide (zT κ b = t)) (x := x) (s := fun _ => true) (g := g) hP hi
  rw [nT_f9] at hc
  have o : zSum n (fun i => if (fun _ : Nat => true) i = true then (fun _ : Nat => 1) (x i) else 0) = n := zSum_19 (fun j _ => rfl)
  rw [o] at c1
  have z := fS_z9 (g := g) (show fS9 (zn κ) (rmF9 (fun b => decide (zT κ b = t)) x (fun _ => true) n) (fun _ => 1) = 0 by omega)
  rw [z, Nat.add_zero] at c2
  rw [c2]
  exact zSum_eq (fun i _ => if_pos rfl)
