section
set_option maxHeartbeats 1600000
/-! wedges: determinants without permutations; Bareiss's divisions are exact -/
def wd15 (f : Nat → Int) : (List Nat → Int) → List Nat → Int
  | _, [] => 0
  | g, r :: R => f r * g R - wd15 f (fun X => g (r :: X)) R
theorem wd_l15 {f : Nat → Int} {c : Int} : ∀ {R : List Nat} {g h : List Nat → Int}, wd15 f (fun X => c * g X - h X) R = c * wd15 f g R - wd15 f h R
  | [], g, h => by
    show (0 : Int) = c * 0 - 0
    rw [Int.mul_zero, Int.sub_zero]
  | r :: R, g, h => by
    have ih := wd_l15 (f := f) (c := c) (R := R) (g := fun X => g (r :: X)) (h := fun X => h (r :: X))
    show f r * (c * g R - h R) - wd15 f (fun X => c * g (r :: X) - h (r :: X)) R = c * (f r * g R - wd15 f (fun X => g (r :: X)) R) - (f r * h R - wd15 f (fun X => h (r :: X)) R)
    have ih : wd15 f (fun X => c * g (r :: X) - h (r :: X)) R = c * wd15 f (fun X => g (r :: X)) R - wd15 f (fun X => h (r :: X)) R := ih
    rw [ih]
    generalize wd15 f (fun X => g (r :: X)) R = p
    generalize wd15 f (fun X => h (r :: X)) R = q
    grind
theorem wd_c15 {f h : Nat → Int} {r : Nat} {R : List Nat} {g : List Nat → Int} : wd15 f (wd15 h g) (r :: R) = f r * wd15 h g R - (h r * wd15 f g R - wd15 f (wd15 h (fun X => g (r :: X))) R) := by
  have e := wd_l15 (f := f) (c := h r) (R := R) (g := g) (h := wd15 h (fun Y => g (r :: Y)))
  show f r * wd15 h g R - wd15 f (fun X => h r * g X - wd15 h (fun Y => g (r :: Y)) X) R = _
  rw [e]
theorem wd_a15 {f h : Nat → Int} : ∀ {R : List Nat} {g : List Nat → Int}, wd15 f (wd15 h g) R = -wd15 h (wd15 f g) R
  | [], g => by
    show (0 : Int) = -0
    rfl
  | r :: R, g => by
    have ih := wd_a15 (f := f) (h := h) (R := R) (g := fun X => g (r :: X))
    rw [wd_c15, wd_c15, ih]
    omega
theorem wd_z15 {f : Nat → Int} : ∀ {R : List Nat}, wd15 f (fun _ => 0) R = 0
  | [] => rfl
  | r :: R => by
    have ih := wd_z15 (f := f) (R := R)
    show f r * 0 - wd15 f (fun _ => 0) R = 0
    rw [ih, Int.mul_zero, Int.sub_zero]
/-- the wedge of the first k columns -/
def dw15 (a : Nat → Nat → Int) : Nat → List Nat → Int
  | 0 => fun _ => 1
  | k + 1 => wd15 (fun r => a r k) (dw15 a k)
/-- the rows k - 1, .., 0 -/
def rl15 : Nat → List Nat
  | 0 => []
  | k + 1 => k :: rl15 k
/-- the minor of the first k rows and columns with row i and column j; the leading minors -/
def bm15 (a : Nat → Nat → Int) (k i j : Nat) : Int := wd15 (fun r => a r j) (dw15 a k) (i :: rl15 k)
def dt15 (a : Nat → Nat → Int) (k : Nat) : Int := dw15 a k (rl15 k)
theorem dt_s15 {a : Nat → Nat → Int} {k : Nat} : dt15 a (k + 1) = bm15 a k k k := rfl
theorem dt_015 {a : Nat → Nat → Int} : dt15 a 0 = 1 := rfl
theorem bm_015 {a : Nat → Nat → Int} {i j : Nat} : bm15 a 0 i j = a i j := by
  show a i j * 1 - 0 = a i j
  rw [Int.mul_one, Int.sub_zero]
theorem wd_v15 {a : Nat → Nat → Int} {j : Nat} : ∀ {k : Nat}, j < k → ∀ R, wd15 (fun r => a r j) (dw15 a k) R = 0
  | 0, h, _ => absurd h (Nat.not_lt_zero j)
  | k + 1, h, R => by
    have e : wd15 (fun r => a r j) (dw15 a (k + 1)) R = -wd15 (fun r => a r k) (wd15 (fun r => a r j) (dw15 a k)) R := wd_a15
    by_cases c : j = k
    · rw [← c] at e
      have e2 : wd15 (fun r => a r j) (dw15 a (j + 1)) R = wd15 (fun r => a r j) (wd15 (fun r => a r j) (dw15 a j)) R := rfl
      rw [← c]
      omega
    · have z : wd15 (fun r => a r j) (dw15 a k) = fun _ => 0 := funext (fun X => wd_v15 (by omega) X)
      rw [e, z, wd_z15]
      rfl
theorem bm_v15 {a : Nat → Nat → Int} {k i j : Nat} (h : j < k) : bm15 a k i j = 0 := wd_v15 h _
/-- L is a combination of the first k rows -/
def sp15 (a : Nat → Nat → Int) : Nat → (Nat → Int) → Prop
  | 0, L => ∀ j, L j = 0
  | k + 1, L => ∃ c, sp15 a k (fun j => L j - c * a k j)
theorem sp_e15 {a : Nat → Nat → Int} {k : Nat} {L M : Nat → Int} (h : sp15 a k L) (e : ∀ j, L j = M j) : sp15 a k M := (funext e : L = M) ▸ h
theorem sp_l15 {a : Nat → Nat → Int} {x y : Int} : ∀ {k : Nat} {L M : Nat → Int}, sp15 a k L → sp15 a k M → sp15 a k (fun j => x * L j + y * M j)
  | 0, L, M, h, g => fun j => by
    show x * L j + y * M j = 0
    rw [h j, g j, Int.mul_zero, Int.mul_zero]
    rfl
  | k + 1, L, M, ⟨c, h⟩, ⟨d, g⟩ => by
    refine ⟨x * c + y * d, sp_e15 (sp_l15 (x := x) (y := y) h g) (fun j => ?_)⟩
    show x * (L j - c * a k j) + y * (M j - d * a k j) = x * L j + y * M j - (x * c + y * d) * a k j
    grind
theorem sp_n15 {a : Nat → Nat → Int} {k : Nat} {L : Nat → Int} (h : sp15 a k L) : sp15 a (k + 1) L := ⟨0, sp_e15 h (fun j => by rw [Int.zero_mul, Int.sub_zero])⟩
theorem sp_w15 {a : Nat → Nat → Int} : ∀ {k : Nat} {g : List Nat → Int}, sp15 a k (fun j => wd15 (fun r => a r j) g (rl15 k))
  | 0, g => fun j => rfl
  | k + 1, g => by
    have ih := sp_w15 (a := a) (k := k) (g := fun X => g (k :: X))
    refine ⟨g (rl15 k), sp_e15 (sp_l15 (x := -1) (y := 0) ih ih) (fun j => ?_)⟩
    show -1 * wd15 (fun r => a r j) (fun X => g (k :: X)) (rl15 k) + 0 * wd15 (fun r => a r j) (fun X => g (k :: X)) (rl15 k) = (a k j * g (rl15 k) - wd15 (fun r => a r j) (fun X => g (k :: X)) (rl15 k)) - g (rl15 k) * a k j
    generalize wd15 (fun r => a r j) (fun X => g (k :: X)) (rl15 k) = p
    generalize g (rl15 k) = q
    grind
theorem bm_s15 {a : Nat → Nat → Int} {k i : Nat} : sp15 a k (fun j => bm15 a k i j - dt15 a k * a i j) := by
  have h := sp_w15 (a := a) (k := k) (g := fun X => dw15 a k (i :: X))
  refine sp_e15 (sp_l15 (x := -1) (y := 0) h h) (fun j => ?_)
  show -1 * wd15 (fun r => a r j) (fun X => dw15 a k (i :: X)) (rl15 k) + 0 * wd15 (fun r => a r j) (fun X => dw15 a k (i :: X)) (rl15 k) = (a i j * dw15 a k (rl15 k) - wd15 (fun r => a r j) (fun X => dw15 a k (i :: X)) (rl15 k)) - dw15 a k (rl15 k) * a i j
  generalize wd15 (fun r => a r j) (fun X => dw15 a k (i :: X)) (rl15 k) = p
  generalize dw15 a k (rl15 k) = q
  grind
theorem bm_k15 {a : Nat → Nat → Int} {k : Nat} : sp15 a (k + 1) (fun j => bm15 a k k j) := by
  refine ⟨dt15 a k, bm_s15⟩
theorem sp_z15 {a : Nat → Nat → Int} : ∀ {k : Nat} {L : Nat → Int}, (∀ t, t ≤ k → dt15 a t ≠ 0) → sp15 a k L → (∀ j, j < k → L j = 0) → ∀ j, L j = 0
  | 0, _, _, s, _ => s
  | k + 1, L, d, ⟨c, s⟩, z => by
    have s1 : sp15 a k (fun j => dt15 a k * L j + (-c) * bm15 a k k j) := by
      refine sp_e15 (sp_l15 (x := dt15 a k) (y := -c) s (bm_s15 (a := a) (k := k) (i := k))) (fun j => ?_)
      show dt15 a k * (L j - c * a k j) + -c * (bm15 a k k j - dt15 a k * a k j) = dt15 a k * L j + -c * bm15 a k k j
      generalize dt15 a k = p
      generalize bm15 a k k j = q
      grind
    have z1 := sp_z15 (fun t h => d t (by omega)) s1 (fun j hj => by
      show dt15 a k * L j + -c * bm15 a k k j = 0
      rw [z j (by omega), bm_v15 hj, Int.mul_zero, Int.mul_zero]
      rfl)
    have c0 : c = 0 := by
      have q : dt15 a k * L k + -c * bm15 a k k k = 0 := z1 k
      rw [z k (by omega), Int.mul_zero, ← dt_s15] at q
      have e : c * dt15 a (k + 1) = 0 := by
        generalize dt15 a (k + 1) = p at q ⊢
        grind
      exact (Int.mul_eq_zero.mp e).resolve_right (d (k + 1) (Nat.le_refl _))
    intro j
    have q : dt15 a k * L j + -c * bm15 a k k j = 0 := z1 j
    rw [c0, Int.neg_zero, Int.zero_mul, Int.add_zero] at q
    exact (Int.mul_eq_zero.mp q).resolve_left (d k (by omega))
/-- Bareiss's step -/
theorem ba_15 {a : Nat → Nat → Int} {k i : Nat} (d : ∀ t, t ≤ k + 1 → dt15 a t ≠ 0) (j : Nat) : dt15 a k * bm15 a (k + 1) i j = bm15 a k k k * bm15 a k i j - bm15 a k i k * bm15 a k k j := by
  have s1 := sp_n15 (bm_s15 (a := a) (k := k) (i := i))
  have s2 := bm_k15 (a := a) (k := k)
  have s3 := bm_s15 (a := a) (k := k + 1) (i := i)
  have s4 := sp_l15 (x := bm15 a k k k) (y := -bm15 a k i k) s1 s2
  have s5 := sp_l15 (x := 1) (y := -dt15 a k) s4 s3
  have z := sp_z15 d s5 (fun j hj => by
    show 1 * (bm15 a k k k * (bm15 a k i j - dt15 a k * a i j) + -bm15 a k i k * bm15 a k k j) + -dt15 a k * (bm15 a (k + 1) i j - dt15 a (k + 1) * a i j) = 0
    rw [bm_v15 (k := k + 1) hj, dt_s15]
    by_cases c : j = k
    · rw [c]
      generalize bm15 a k k k = p
      generalize bm15 a k i k = q
      generalize dt15 a k = r
      grind
    · rw [bm_v15 (k := k) (i := i) (j := j) (by omega), bm_v15 (k := k) (i := k) (j := j) (by omega)]
      generalize bm15 a k k k = p
      generalize bm15 a k i k = q
      generalize dt15 a k = r
      grind) j
  have z : 1 * (bm15 a k k k * (bm15 a k i j - dt15 a k * a i j) + -bm15 a k i k * bm15 a k k j) + -dt15 a k * (bm15 a (k + 1) i j - dt15 a (k + 1) * a i j) = 0 := z
  rw [dt_s15] at z
  generalize bm15 a k k k = p at *
  generalize bm15 a k i k = q at *
  generalize dt15 a k = r at *
  generalize bm15 a k i j = s at *
  generalize bm15 a k k j = t at *
  generalize bm15 a (k + 1) i j = u at *
  grind
/-- rows and columns exchanged -/
theorem tr_15 {a : Nat → Nat → Int} : ∀ {k : Nat}, (∀ t, t ≤ k → dt15 a t ≠ 0) → (∀ i j, bm15 (fun c r => a r c) k j i = bm15 a k i j) ∧ (∀ t, t ≤ k + 1 → dt15 (fun c r => a r c) t = dt15 a t)
  | 0, _ => by
    have h : ∀ i j, bm15 (fun c r => a r c) 0 j i = bm15 a 0 i j := fun i j => by rw [bm_015, bm_015]
    refine ⟨h, fun t ht => ?_⟩
    by_cases e : t = 0
    · rw [e]; rfl
    · rw [show t = 0 + 1 by omega, dt_s15, dt_s15]
      exact h 0 0
  | k + 1, d => by
    obtain ⟨h, g⟩ := tr_15 (a := a) (k := k) (fun t ht => d t (by omega))
    have h' : ∀ i j, bm15 (fun c r => a r c) (k + 1) j i = bm15 a (k + 1) i j := fun i j => by
      have e1 := ba_15 (a := a) (k := k) (i := i) d j
      have e2 := ba_15 (a := fun c r => a r c) (k := k) (i := j) (fun t ht => by rw [g t ht]; exact d t ht) i
      rw [g k (by omega), h, h, h, h] at e2
      have e : dt15 a k * bm15 (fun c r => a r c) (k + 1) j i = dt15 a k * bm15 a (k + 1) i j := by
        rw [e1, e2]
        generalize bm15 a k k j = p
        generalize bm15 a k i k = q
        grind
      exact Int.eq_of_mul_eq_mul_left (d k (by omega)) e
    refine ⟨h', fun t ht => ?_⟩
    by_cases e : t ≤ k + 1
    · exact g t e
    · rw [show t = k + 1 + 1 by omega, dt_s15, dt_s15]
      exact h' _ _
/-- sums of whole numbers -/
def sZ15 (f : Nat → Int) : Nat → Int
  | 0 => 0
  | n + 1 => sZ15 f n + f n
theorem sZ_c15 {f g : Nat → Int} : ∀ {n : Nat}, (∀ i, i < n → f i = g i) → sZ15 f n = sZ15 g n
  | 0, _ => rfl
  | n + 1, h => by
    show sZ15 f n + f n = sZ15 g n + g n
    rw [sZ_c15 (n := n) (fun i hi => h i (by omega)), h n (by omega)]
theorem sZ_l15 {f g : Nat → Int} {x y : Int} : ∀ {n : Nat}, sZ15 (fun i => x * f i + y * g i) n = x * sZ15 f n + y * sZ15 g n
  | 0 => by
    show (0 : Int) = x * 0 + y * 0
    rw [Int.mul_zero, Int.mul_zero]; rfl
  | n + 1 => by
    show sZ15 (fun i => x * f i + y * g i) n + (x * f n + y * g n) = x * (sZ15 f n + f n) + y * (sZ15 g n + g n)
    rw [sZ_l15 (n := n)]
    generalize sZ15 f n = p
    generalize sZ15 g n = q
    grind
theorem sZ_015 {f : Nat → Int} : ∀ {n : Nat}, (∀ i, i < n → f i = 0) → sZ15 f n = 0
  | 0, _ => rfl
  | n + 1, h => by
    show sZ15 f n + f n = 0
    rw [sZ_015 (n := n) (fun i hi => h i (by omega)), h n (by omega)]; rfl
/-- the numbers of a combination -/
theorem sp_x15 {a : Nat → Nat → Int} : ∀ {k : Nat} {L : Nat → Int}, sp15 a k L → ∃ x : Nat → Int, ∀ j, L j = sZ15 (fun c => x c * a c j) k
  | 0, L, h => ⟨fun _ => 0, h⟩
  | k + 1, L, ⟨c, h⟩ => by
    obtain ⟨x, hx⟩ := sp_x15 h
    refine ⟨fun i => if i = k then c else x i, fun j => ?_⟩
    show L j = sZ15 (fun i => (if i = k then c else x i) * a i j) k + (if k = k then c else x k) * a k j
    rw [if_pos rfl, sZ_c15 (g := fun i => x i * a i j) (fun i hi => by
      show (if i = k then c else x i) * a i j = x i * a i j
      rw [if_neg (by omega)])]
    have q := hx j
    have q : L j - c * a k j = sZ15 (fun c => x c * a c j) k := q
    omega
/-- Cramer: whole numbers solve the equations, times the determinant -/
theorem cr_15 {a : Nat → Nat → Int} {n q : Nat} (d : ∀ t, t ≤ n → dt15 a t ≠ 0) : ∃ x : Nat → Int, ∀ i, i < n → sZ15 (fun c => x c * a i c) n = dt15 a n * a i q := by
  obtain ⟨x, hx⟩ := sp_x15 (bm_s15 (a := fun c r => a r c) (k := n) (i := q))
  have t := (tr_15 d).2 n (by omega)
  refine ⟨fun c => -x c, fun i hi => ?_⟩
  have e : bm15 (fun c r => a r c) n q i - dt15 (fun c r => a r c) n * a i q = sZ15 (fun c => x c * a i c) n := hx i
  rw [bm_v15 hi, t] at e
  have f : sZ15 (fun c => -x c * a i c) n = -1 * sZ15 (fun c => x c * a i c) n + 0 * sZ15 (fun c => x c * a i c) n := by
    rw [← sZ_l15]
    exact sZ_c15 (fun c _ => by
      show -x c * a i c = -1 * (x c * a i c) + 0 * (x c * a i c)
      grind)
  rw [f]
  omega
/-- what solves the rows solves their combinations -/
theorem so_15 {a : Nat → Nat → Int} {x : Nat → Int} {n q : Nat} {D : Int} (h : ∀ i, i < n → sZ15 (fun c => x c * a i c) n = D * a i q) : ∀ {k : Nat} {L : Nat → Int}, k ≤ n → sp15 a k L → sZ15 (fun c => x c * L c) n = D * L q
  | 0, L, _, s => by
    rw [s q, Int.mul_zero]
    exact sZ_015 (fun c _ => by rw [s c, Int.mul_zero])
  | k + 1, L, hk, ⟨c, s⟩ => by
    have e := so_15 h (by omega) s
    have f : sZ15 (fun i => x i * (L i - c * a k i)) n = 1 * sZ15 (fun i => x i * L i) n + -c * sZ15 (fun i => x i * a k i) n := by
      rw [← sZ_l15]
      exact sZ_c15 (fun i _ => by
        show x i * (L i - c * a k i) = 1 * (x i * L i) + -c * (x i * a k i)
        grind)
    have e : sZ15 (fun i => x i * (L i - c * a k i)) n = D * (L q - c * a k q) := e
    rw [f, h k (by omega)] at e
    generalize sZ15 (fun i => x i * L i) n = p at e ⊢
    grind
/-- the triangle of rows -/
theorem ba_t15 {a : Nat → Nat → Int} {x : Nat → Int} {n q : Nat} {D : Int} (h : ∀ i, i < n → sZ15 (fun c => x c * a i c) n = D * a i q) {r : Nat} (hr : r < n) : sZ15 (fun c => x c * bm15 a r r c) n = D * bm15 a r r q := so_15 h (k := r + 1) hr bm_k15

end
section
set_option maxHeartbeats 1600000
/-! a ring's elimination is exact -/
theorem sZ_le15 {f g : Nat → Int} : ∀ {n : Nat}, (∀ i, i < n → f i ≤ g i) → sZ15 f n ≤ sZ15 g n
  | 0, _ => Int.le_refl _
  | n + 1, h => by
    have a := sZ_le15 (f := f) (g := g) (n := n) (fun i hi => h i (by omega))
    have b := h n (by omega)
    show sZ15 f n + f n ≤ sZ15 g n + g n
    omega
theorem sZ_lt15 {f g : Nat → Int} {j : Nat} : ∀ {n : Nat}, (∀ i, i < n → f i ≤ g i) → j < n → f j < g j → sZ15 f n < sZ15 g n
  | 0, _, h, _ => absurd h (Nat.not_lt_zero j)
  | n + 1, h, hj, hl => by
    have b := h n (by omega)
    show sZ15 f n + f n < sZ15 g n + g n
    by_cases e : j = n
    · have a := sZ_le15 (f := f) (g := g) (n := n) (fun i hi => h i (by omega))
      rw [e] at hl
      omega
    · have a := sZ_lt15 (f := f) (g := g) (n := n) (fun i hi => h i (by omega)) (by omega) hl
      omega
theorem sZ_m15 {f : Nat → Int} {c : Int} : ∀ {n : Nat}, sZ15 (fun i => f i * c) n = sZ15 f n * c
  | 0 => by
    show (0 : Int) = 0 * c
    rw [Int.zero_mul]
  | n + 1 => by
    show sZ15 (fun i => f i * c) n + f n * c = (sZ15 f n + f n) * c
    rw [sZ_m15 (n := n), Int.add_mul]
theorem sZ_nn15 {f : Nat → Int} {n : Nat} (h : ∀ i, i < n → 0 ≤ f i) : 0 ≤ sZ15 f n := by
  have a := sZ_le15 (f := fun _ => 0) (g := f) h
  have b := sZ_015 (f := fun _ => (0 : Int)) (n := n) (fun _ _ => rfl)
  omega
theorem sZ_mo15 {f : Nat → Int} {m n : Nat} (h : ∀ i, i < n → 0 ≤ f i) (hm : m ≤ n) : sZ15 f m ≤ sZ15 f n := by
  induction n with
  | zero => rw [show m = 0 by omega]; exact Int.le_refl _
  | succ n ih =>
    by_cases e : m = n + 1
    · rw [e]; exact Int.le_refl _
    · have a := ih (fun i hi => h i (by omega)) (by omega)
      have b := h n (by omega)
      show sZ15 f m ≤ sZ15 f n + f n
      omega
theorem sZ_sp15 {f : Nat → Int} {m n : Nat} (h : ∀ i, i < n → 0 ≤ f i) (hm : m < n) {j : Nat} (h1 : m ≤ j) (h2 : j < n) (p : 0 < f j) : sZ15 f m < sZ15 f n := by
  have a := sZ_lt15 (f := fun i => if i < m then f i else 0) (g := f) (j := j) (n := n) (fun i hi => by
    by_cases e : i < m
    · rw [if_pos e]; exact Int.le_refl _
    · rw [if_neg e]; exact h i hi) h2 (by rw [if_neg (by omega)]; exact p)
  have b := sZ_mo15 (f := fun i => if i < m then f i else 0) (m := m) (n := n) (fun i hi => by
    by_cases e : i < m
    · rw [if_pos e]; exact h i hi
    · rw [if_neg e]; exact Int.le_refl _) (by omega)
  have c := sZ_c15 (f := fun i => if i < m then f i else 0) (g := f) (n := m) (fun i hi => if_pos hi)
  omega
theorem sZ_ab15 {f : Nat → Int} : ∀ {n : Nat}, (sZ15 f n).natAbs ≤ sZ15 (fun i => (((f i).natAbs : Nat) : Int)) n
  | 0 => Int.le_refl _
  | n + 1 => by
    have a := sZ_ab15 (f := f) (n := n)
    show ((sZ15 f n + f n).natAbs : Int) ≤ sZ15 (fun i => (((f i).natAbs : Nat) : Int)) n + ((f n).natAbs : Int)
    omega
/-- from j one comes, in k steps among n, to a state that loses something -/
def lv15 (w : Nat → Nat → Int) (T : Nat → Int) (n : Nat) : Nat → Nat → Prop
  | 0, j => sZ15 (w j) n < T j
  | k + 1, j => ∃ r, r < n ∧ 0 < w j r ∧ lv15 w T n k r
theorem mx_15 (y : Nat → Int) : ∀ {n : Nat}, 0 < n → ∃ j, j < n ∧ ∀ i, i < n → (y i).natAbs ≤ (y j).natAbs
  | 0, h => absurd h (Nat.lt_irrefl 0)
  | n + 1, _ => by
    by_cases e : n = 0
    · exact ⟨0, by omega, fun i hi => by rw [show i = 0 by omega]; exact Nat.le_refl _⟩
    · obtain ⟨j, j1, j2⟩ := mx_15 y (n := n) (by omega)
      by_cases c : (y j).natAbs ≤ (y n).natAbs
      · refine ⟨n, by omega, fun i hi => ?_⟩
        by_cases z : i = n
        · rw [z]; exact Nat.le_refl _
        · exact Nat.le_trans (j2 i (by omega)) c
      · refine ⟨j, by omega, fun i hi => ?_⟩
        by_cases z : i = n
        · rw [z]; omega
        · exact j2 i (by omega)
/-- where each is the mean of those behind it, and from each something is lost, all are 0 -/
theorem hm_15 {w : Nat → Nat → Int} {T y : Nat → Int} {n : Nat} (w0 : ∀ j r, j < n → r < n → 0 ≤ w j r) (wT : ∀ j, j < n → sZ15 (w j) n ≤ T j) (H : ∀ j, j < n → T j * y j = sZ15 (fun r => w j r * y r) n) (E : ∀ j, j < n → ∃ k, lv15 w T n k j) : ∀ j, j < n → y j = 0 := by
  intro j0 h0
  obtain ⟨m, m1, m2⟩ := mx_15 y (n := n) (by omega)
  refine Decidable.byContradiction (fun ne => ?_)
  have Y : 0 < (y m).natAbs := by
    have := m2 j0 h0
    omega
  have T0 : ∀ j, j < n → 0 ≤ T j := fun j hj => Int.le_trans (sZ_nn15 (fun r hr => w0 j r hj hr)) (wT j hj)
  have key : ∀ j, j < n → (y j).natAbs = (y m).natAbs → T j * ((y m).natAbs : Int) ≤ sZ15 (fun r => w j r * ((y r).natAbs : Int)) n := fun j hj e => by
    have a := sZ_ab15 (f := fun r => w j r * y r) (n := n)
    rw [← H j hj, Int.natAbs_mul, e] at a
    have b : sZ15 (fun i => (((w j i * y i).natAbs : Nat) : Int)) n = sZ15 (fun r => w j r * ((y r).natAbs : Int)) n := sZ_c15 (fun i hi => by
      have c := w0 j i hj hi
      rw [Int.natAbs_mul, Int.natCast_mul, Int.natAbs_of_nonneg c])
    have c := T0 j hj
    rw [b, Int.natCast_mul, Int.natAbs_of_nonneg c] at a
    exact a
  have up : ∀ j, j < n → sZ15 (fun r => w j r * ((y m).natAbs : Int)) n = sZ15 (w j) n * ((y m).natAbs : Int) := fun j _ => sZ_m15
  have bad : ∀ k j, j < n → (y j).natAbs = (y m).natAbs → ¬ lv15 w T n k j := fun k => by
    induction k with
    | zero =>
      intro j hj e l
      have a := key j hj e
      have b := sZ_le15 (f := fun r => w j r * ((y r).natAbs : Int)) (g := fun r => w j r * ((y m).natAbs : Int)) (n := n) (fun r hr => Int.mul_le_mul_of_nonneg_left (Int.ofNat_le.mpr (m2 r hr)) (w0 j r hj hr))
      rw [up j hj] at b
      have l : sZ15 (w j) n < T j := l
      have c := Int.mul_lt_mul_of_pos_right l (show (0 : Int) < ((y m).natAbs : Int) by omega)
      omega
    | succ k ih =>
      intro j hj e l
      obtain ⟨r, r1, r2, r3⟩ := l
      refine ih r r1 ?_ r3
      refine Decidable.byContradiction (fun q => ?_)
      have lt : (y r).natAbs < (y m).natAbs := by
        have := m2 r r1
        omega
      have a := key j hj e
      have b := sZ_lt15 (f := fun r => w j r * ((y r).natAbs : Int)) (g := fun r => w j r * ((y m).natAbs : Int)) (j := r) (n := n) (fun r hr => Int.mul_le_mul_of_nonneg_left (Int.ofNat_le.mpr (m2 r hr)) (w0 j r hj hr)) r1 (Int.mul_lt_mul_of_pos_left (Int.ofNat_lt.mpr lt) r2)
      rw [up j hj] at b
      have c := Int.mul_le_mul_of_nonneg_right (wT j hj) (show (0 : Int) ≤ ((y m).natAbs : Int) by omega)
      omega
  obtain ⟨k, hk⟩ := E m m1
  exact bad k m m1 rfl hk
/-- fewer states lose no less -/
theorem lv_s15 {w : Nat → Nat → Int} {T : Nat → Int} {n m : Nat} (w0 : ∀ j r, j < m → r < m → 0 ≤ w j r) (wT : ∀ j, j < m → sZ15 (w j) m ≤ T j) (hn : n ≤ m) : ∀ {k j : Nat}, j < n → lv15 w T m k j → ∃ l, lv15 w T n l j
  | 0, j, hj, h => ⟨0, by
    have a := sZ_mo15 (f := w j) (m := n) (n := m) (fun i hi => w0 j i (by omega) hi) hn
    have h : sZ15 (w j) m < T j := h
    show sZ15 (w j) n < T j
    omega⟩
  | k + 1, j, hj, ⟨r, r1, r2, r3⟩ => by
    by_cases c : r < n
    · obtain ⟨l, hl⟩ := lv_s15 w0 wT hn c r3
      exact ⟨l + 1, r, c, r2, hl⟩
    · refine ⟨0, ?_⟩
      have a := sZ_sp15 (f := w j) (m := n) (n := m) (fun i hi => w0 j i (by omega) hi) (by omega) (j := r) (by omega) r1 r2
      have b := wT j (by omega)
      show sZ15 (w j) n < T j
      omega
/-- the equations of a ring: state c gives w c r to state r -/
def sm15 (w : Nat → Nat → Int) (T : Nat → Int) (b : Nat → Int) (r c : Nat) : Int := if c = 32 then b r else if r = c then T c - w c c else -w c r
theorem sZ_d15 {f : Nat → Int} {c : Nat} {x : Int} : ∀ {n : Nat}, c < n → sZ15 (fun i => if i = c then x else f i) n = sZ15 f n + (x - f c)
  | 0, h => absurd h (Nat.not_lt_zero c)
  | n + 1, h => by
    show sZ15 (fun i => if i = c then x else f i) n + (if n = c then x else f n) = sZ15 f n + f n + (x - f c)
    by_cases e : c = n
    · have a := sZ_c15 (f := fun i => if i = c then x else f i) (g := f) (n := n) (fun i hi => if_neg (by omega))
      rw [a, if_pos e.symm, e]
      omega
    · rw [sZ_d15 (n := n) (by omega), if_neg (fun z => e z.symm)]
      omega
/-- no leading minor is 0 -/
theorem dn_15 {w : Nat → Nat → Int} {T b : Nat → Int} {m : Nat} (hm : m ≤ 32) (w0 : ∀ j r, j < m → r < m → 0 ≤ w j r) (wT : ∀ j, j < m → sZ15 (w j) m ≤ T j) (E : ∀ j, j < m → ∃ k, lv15 w T m k j) : ∀ {p : Nat}, p ≤ m → ∀ t, t ≤ p → dt15 (sm15 w T b) t ≠ 0
  | 0, _, t, ht => by
    rw [show t = 0 by omega, dt_015]
    decide
  | p + 1, hp, t, ht => by
    have ih := dn_15 hm w0 wT E (b := b) (p := p) (by omega)
    by_cases c : t ≤ p
    · exact ih t c
    · rw [show t = p + 1 by omega, dt_s15]
      intro z
      obtain ⟨x, hx⟩ := sp_x15 (bm_s15 (a := sm15 w T b) (k := p) (i := p))
      have hy : ∀ j, j < p + 1 → sZ15 (fun r => (if r = p then dt15 (sm15 w T b) p else x r) * sm15 w T b r j) (p + 1) = 0 := fun j hj => by
        have e : bm15 (sm15 w T b) p p j - dt15 (sm15 w T b) p * sm15 w T b p j = sZ15 (fun c => x c * sm15 w T b c j) p := hx j
        have v : bm15 (sm15 w T b) p p j = 0 := by
          by_cases q : j = p
          · rw [q]; exact z
          · exact bm_v15 (by omega)
        show sZ15 (fun r => (if r = p then dt15 (sm15 w T b) p else x r) * sm15 w T b r j) p + (if p = p then dt15 (sm15 w T b) p else x p) * sm15 w T b p j = 0
        have g := sZ_c15 (f := fun r => (if r = p then dt15 (sm15 w T b) p else x r) * sm15 w T b r j) (g := fun c => x c * sm15 w T b c j) (n := p) (fun i hi => by
          show (if i = p then dt15 (sm15 w T b) p else x i) * sm15 w T b i j = x i * sm15 w T b i j
          rw [if_neg (by omega)])
        rw [g, if_pos rfl]
        omega
      have hh := hm_15 (w := w) (T := T) (y := fun r => if r = p then dt15 (sm15 w T b) p else x r) (n := p + 1) (fun j r hj hr => w0 j r (by omega) (by omega)) (fun j hj => Int.le_trans (sZ_mo15 (fun i hi => w0 j i (by omega) hi) (by omega)) (wT j (by omega))) (fun j hj => by
        have e := hy j hj
        have f : sZ15 (fun r => (if r = p then dt15 (sm15 w T b) p else x r) * sm15 w T b r j) (p + 1) = T j * (if j = p then dt15 (sm15 w T b) p else x j) + -1 * sZ15 (fun r => w j r * (if r = p then dt15 (sm15 w T b) p else x r)) (p + 1) := by
          have g := sZ_c15 (f := fun r => (if r = p then dt15 (sm15 w T b) p else x r) * sm15 w T b r j) (g := fun i => if i = j then (T j - w j j) * (if j = p then dt15 (sm15 w T b) p else x j) else -1 * (w j i * (if i = p then dt15 (sm15 w T b) p else x i)) + 0 * 0) (n := p + 1) (fun i hi => by
            show (if i = p then dt15 (sm15 w T b) p else x i) * sm15 w T b i j = if i = j then (T j - w j j) * (if j = p then dt15 (sm15 w T b) p else x j) else -1 * (w j i * (if i = p then dt15 (sm15 w T b) p else x i)) + 0 * 0
            by_cases q : i = j
            · have s : sm15 w T b j j = T j - w j j := by
                unfold sm15
                rw [if_neg (by omega), if_pos rfl]
              rw [if_pos q, q, s, Int.mul_comm]
            · have s : sm15 w T b i j = -w j i := by
                unfold sm15
                rw [if_neg (by omega), if_neg q]
              rw [if_neg q, s]
              generalize (if i = p then dt15 (sm15 w T b) p else x i) = u
              grind)
          rw [g, sZ_d15 hj, sZ_l15 (x := -1) (y := 0) (f := fun i => w j i * (if i = p then dt15 (sm15 w T b) p else x i)) (g := fun _ => 0)]
          generalize (if j = p then dt15 (sm15 w T b) p else x j) = u
          generalize sZ15 (fun i => w j i * (if i = p then dt15 (sm15 w T b) p else x i)) (p + 1) = v
          grind
        rw [f] at e
        generalize sZ15 (fun r => w j r * (if r = p then dt15 (sm15 w T b) p else x r)) (p + 1) = v at e ⊢
        show T j * (if j = p then dt15 (sm15 w T b) p else x j) = v
        omega) (fun j hj => by
        obtain ⟨k, hk⟩ := E j (by omega)
        exact lv_s15 w0 wT (by omega) hj hk)
      have q : (if p = p then dt15 (sm15 w T b) p else x p) = 0 := hh p (by omega)
      rw [if_pos rfl] at q
      exact ih p (Nat.le_refl _) q
/-- what the cells hold on the way -/
def sn15 (M : Nat → Nat → Nat) (i j : Nat) : Int := if i = j ∨ j = 32 then (M i j : Int) else -(M i j : Int)
def el15 (a : Nat → Nat → Int) (M : Nat → Nat → Nat) (m p q : Nat) : Prop := (q : Int) = dt15 a p ∧ (∀ i j, p ≤ i → i < m → ((p ≤ j ∧ j < m) ∨ j = 32) → sn15 M i j = bm15 a p i j) ∧ ∀ r j, r < p → ((r ≤ j ∧ j < m) ∨ j = 32) → sn15 M r j = bm15 a r r j
theorem el_015 {a : Nat → Nat → Int} {M : Nat → Nat → Nat} {m : Nat} (h : ∀ i j, i < m → (j < m ∨ j = 32) → sn15 M i j = a i j) : el15 a M m 0 1 := ⟨rfl, fun i j _ hi hj => by
  rw [bm_015]
  exact h i j hi (by omega), fun r j hr => absurd hr (Nat.not_lt_zero r)⟩
theorem ed_15 {A q : Nat} {u v : Int} (hq : (q : Int) = u) (h : u ≠ 0) (e : u * v = (A : Int)) : ((A / q : Nat) : Int) = v := by
  rw [Int.natCast_ediv, hq, ← e]
  exact Int.mul_ediv_cancel_left v h
theorem el_s15 {a : Nat → Nat → Int} {M : Nat → Nat → Nat} {m p q : Nat} (hm : m ≤ 32) (hp : p < m) (d : ∀ t, t ≤ p + 1 → dt15 a t ≠ 0) (le : ∀ j, p < j → j < m → M j p * M p j ≤ M p p * M j j) (h : el15 a M m p q) : el15 a (eM9 M m p q) m (p + 1) (M p p) := by
  obtain ⟨h1, h2, h3⟩ := h
  have pp : (M p p : Int) = bm15 a p p p := by
    have z := h2 p p (Nat.le_refl _) hp (Or.inl ⟨Nat.le_refl _, hp⟩)
    unfold sn15 at z
    rwa [if_pos (Or.inl rfl)] at z
  refine ⟨pp, fun i j hi hi2 hj => ?_, fun r j hr hj => ?_⟩
  · have b := ba_15 (a := a) (k := p) (i := i) d j
    have ip : -(M i p : Int) = bm15 a p i p := by
      have z := h2 i p (by omega) hi2 (Or.inl ⟨Nat.le_refl _, hp⟩)
      unfold sn15 at z
      rwa [if_neg (by omega)] at z
    rw [← pp, ← ip] at b
    have ij := h2 i j (by omega) hi2 (by omega)
    have pj := h2 p j (Nat.le_refl _) hp (by omega)
    rw [← ij, ← pj] at b
    have e : eM9 M m p q i j = nB9 M p q i j := by
      unfold eM9
      rw [if_pos (by omega)]
    unfold sn15 at b ⊢
    rw [e]
    unfold nB9
    by_cases c : i = j
    · rw [if_pos (Or.inl c), if_neg (by omega)] at b
      rw [if_pos (Or.inl c), if_pos c]
      subst c
      refine ed_15 h1 (d p (by omega)) ?_
      rw [b, Int.ofNat_sub (le i (by omega) hi2), Int.natCast_mul, Int.natCast_mul]
      generalize (M i p : Int) = x
      generalize (M p i : Int) = y
      grind
    · by_cases c2 : j = 32
      · rw [if_pos (Or.inr c2), if_pos (Or.inr c2)] at b
        rw [if_pos (Or.inr c2), if_neg c]
        refine ed_15 h1 (d p (by omega)) ?_
        rw [b, Int.natCast_add, Int.natCast_mul, Int.natCast_mul]
        generalize (M i p : Int) = x
        generalize (M p j : Int) = y
        grind
      · rw [if_neg (by omega), if_neg (by omega)] at b
        rw [if_neg (by omega), if_neg c]
        have g := ed_15 (A := M p p * M i j + M i p * M p j) (v := -bm15 a (p + 1) i j) h1 (d p (by omega)) (by
          rw [Int.mul_neg, b, Int.natCast_add, Int.natCast_mul, Int.natCast_mul]
          generalize (M i p : Int) = x
          generalize (M p j : Int) = y
          generalize (M p p : Int) = z
          grind)
        rw [g, Int.neg_neg]
  · have e : eM9 M m p q r j = M r j := eM9_o (by omega)
    unfold sn15
    rw [e]
    by_cases c : r = p
    · have z := h2 r j (by omega) (by omega) (by omega)
      rw [c] at z ⊢
      exact z
    · exact h3 r j (by omega) hj
/-- sums from a place on -/
def sN15 (f : Nat → Nat) (r : Nat) : Nat → Nat
  | 0 => 0
  | k + 1 => sN15 f r k + f (r + k)
theorem sZ_t15 {f : Nat → Int} {g : Nat → Nat} {r : Nat} {s : Int} : ∀ {k : Nat}, (∀ i, i < r → f i = 0) → f r = s → (∀ c, c < k → f (r + 1 + c) = -((g (r + 1 + c) : Nat) : Int)) → sZ15 f (r + 1 + k) = s - ((sN15 g (r + 1) k : Nat) : Int)
  | 0, h1, h2, _ => by
    show sZ15 f r + f r = s - ((0 : Nat) : Int)
    rw [sZ_015 h1, h2]
    omega
  | k + 1, h1, h2, h3 => by
    have ih := sZ_t15 (k := k) h1 h2 (fun c hc => h3 c (by omega))
    show sZ15 f (r + 1 + k) + f (r + 1 + k) = s - (((sN15 g (r + 1) k + g (r + 1 + k) : Nat)) : Int)
    rw [ih, h3 k (by omega)]
    omega
/-- what putting back comes to -/
theorem pb_15 {a : Nat → Nat → Int} {M : Nat → Nat → Nat} {m : Nat} (hm : m ≤ 32) (m0 : 0 < m) (d : ∀ t, t ≤ m → dt15 a t ≠ 0) (h : ∀ r j, r < m → ((r ≤ j ∧ j < m) ∨ j = 32) → sn15 M r j = bm15 a r r j) : ∃ x : Nat → Nat, ((M (m - 1) (m - 1) : Nat) : Int) = dt15 a m ∧ x (m - 1) = M (m - 1) 32 ∧ (∀ r, r < m → 0 < M r r) ∧ (∀ r, r + 1 < m → x r * M r r = M (m - 1) (m - 1) * M r 32 + sN15 (fun c => M r c * x c) (r + 1) (m - (r + 1))) ∧ ∀ i, i < m → sZ15 (fun c => (x c : Int) * a i c) m = ((M (m - 1) (m - 1) : Nat) : Int) * a i 32 := by
  obtain ⟨x, hx⟩ := cr_15 (q := 32) d
  have dg : ∀ r, r < m → ((M r r : Nat) : Int) = dt15 a (r + 1) := fun r hr => by
    have z := h r r hr (Or.inl ⟨Nat.le_refl _, hr⟩)
    unfold sn15 at z
    rw [if_pos (Or.inl rfl)] at z
    rw [z, dt_s15]
  have rt : ∀ r, r < m → ((M r 32 : Nat) : Int) = bm15 a r r 32 := fun r hr => by
    have z := h r 32 hr (Or.inr rfl)
    unfold sn15 at z
    rwa [if_pos (Or.inr rfl)] at z
  have of : ∀ r c, r < m → r < c → c < m → -((M r c : Nat) : Int) = bm15 a r r c := fun r c hr h1 h2 => by
    have z := h r c hr (Or.inl ⟨by omega, h2⟩)
    unfold sn15 at z
    rwa [if_neg (by omega)] at z
  have pos : ∀ r, r < m → 0 < M r r := fun r hr => by
    have z := dg r hr
    have n := d (r + 1) (by omega)
    omega
  have D : ((M (m - 1) (m - 1) : Nat) : Int) = dt15 a m := by
    have z := dg (m - 1) (by omega)
    rw [show m - 1 + 1 = m by omega] at z
    exact z
  have row : ∀ r, r < m → sZ15 (fun c => x c * bm15 a r r c) m = dt15 a m * bm15 a r r 32 := fun r hr => ba_t15 hx hr
  have tri : ∀ (g : Nat → Nat) (r : Nat), r < m → (∀ c, r < c → c < m → ((g c : Nat) : Int) = ((M r c : Nat) : Int) * x c) → x r * ((M r r : Nat) : Int) = ((M (m - 1) (m - 1) : Nat) : Int) * ((M r 32 : Nat) : Int) + ((sN15 g (r + 1) (m - (r + 1)) : Nat) : Int) := fun g r hr hg => by
    have e := sZ_t15 (f := fun c => x c * bm15 a r r c) (g := g) (r := r) (s := x r * ((M r r : Nat) : Int)) (k := m - (r + 1)) (fun i hi => by
      show x i * bm15 a r r i = 0
      rw [bm_v15 hi, Int.mul_zero]) (by
      show x r * bm15 a r r r = _
      rw [dg r hr, dt_s15]) (fun c hc => by
      show x (r + 1 + c) * bm15 a r r (r + 1 + c) = _
      rw [← of r (r + 1 + c) hr (by omega) (by omega), hg (r + 1 + c) (by omega) (by omega)]
      generalize ((M r (r + 1 + c) : Nat) : Int) = u
      generalize x (r + 1 + c) = v
      grind)
    rw [show r + 1 + (m - (r + 1)) = m by omega, row r hr, ← D, ← rt r hr] at e
    omega
  have nn : ∀ k r, r < m → m - 1 - r ≤ k → 0 ≤ x r := fun k => by
    induction k with
    | zero =>
      intro r hr hk
      have e := tri (fun _ => 0) r hr (fun c h1 h2 => by omega)
      rw [show m - (r + 1) = 0 by omega] at e
      have p := pos r hr
      have z : 0 ≤ x r * ((M r r : Nat) : Int) := by
        rw [e]
        exact Int.add_nonneg (Int.mul_nonneg (Int.natCast_nonneg _) (Int.natCast_nonneg _)) (Int.natCast_nonneg _)
      exact Int.nonneg_of_mul_nonneg_left z (by omega)
    | succ k ih =>
      intro r hr hk
      have e := tri (fun c => M r c * (x c).toNat) r hr (fun c h1 h2 => by
        have q := ih c h2 (by omega)
        rw [Int.natCast_mul, Int.toNat_of_nonneg q])
      have p := pos r hr
      have z : 0 ≤ x r * ((M r r : Nat) : Int) := by
        rw [e]
        exact Int.add_nonneg (Int.mul_nonneg (Int.natCast_nonneg _) (Int.natCast_nonneg _)) (Int.natCast_nonneg _)
      exact Int.nonneg_of_mul_nonneg_left z (by omega)
  have x0 : ∀ r, r < m → (((x r).toNat : Nat) : Int) = x r := fun r hr => Int.toNat_of_nonneg (nn m r hr (by omega))
  refine ⟨fun r => (x r).toNat, D, ?_, pos, fun r hr => ?_, fun i hi => ?_⟩
  · have e := tri (fun _ => 0) (m - 1) (by omega) (fun c h1 h2 => by omega)
    rw [show m - (m - 1 + 1) = 0 by omega] at e
    have p := pos (m - 1) (by omega)
    have z : x (m - 1) = ((M (m - 1) 32 : Nat) : Int) := by
      have e : x (m - 1) * ((M (m - 1) (m - 1) : Nat) : Int) = ((M (m - 1) (m - 1) : Nat) : Int) * ((M (m - 1) 32 : Nat) : Int) + ((0 : Nat) : Int) := e
      rw [Int.mul_comm] at e
      have e2 : ((M (m - 1) (m - 1) : Nat) : Int) * x (m - 1) = ((M (m - 1) (m - 1) : Nat) : Int) * ((M (m - 1) 32 : Nat) : Int) := by omega
      exact Int.eq_of_mul_eq_mul_left (by omega) e2
    show (x (m - 1)).toNat = M (m - 1) 32
    rw [z, Int.toNat_natCast]
  · have e := tri (fun c => M r c * (x c).toNat) r (by omega) (fun c h1 h2 => by rw [Int.natCast_mul, x0 c h2])
    have f : ((((x r).toNat * M r r : Nat)) : Int) = ((M (m - 1) (m - 1) * M r 32 + sN15 (fun c => M r c * (x c).toNat) (r + 1) (m - (r + 1)) : Nat) : Int) := by
      rw [Int.natCast_mul, x0 r (by omega), Int.natCast_add, Int.natCast_mul]
      exact e
    exact Int.ofNat_inj.mp f
  · have e := hx i hi
    rw [← D] at e
    rw [← e]
    exact sZ_c15 (fun c hc => by
      show (((x c).toNat : Nat) : Int) * a i c = x c * a i c
      rw [x0 c hc])

end
section
set_option maxHeartbeats 1600000
/-! the equations of visits have one solution -/
theorem sQ_sw15 {f : Nat → Nat → Rat} {n : Nat} : ∀ {m : Nat}, smQ (fun a => smQ (fun b => f a b) n) m = smQ (fun b => smQ (fun a => f a b) m) n
  | 0 => (smQ_0 (fun _ _ => rfl)).symm
  | m + 1 => by
    show smQ (fun a => smQ (fun b => f a b) n) m + smQ (fun b => f m b) n = smQ (fun b => smQ (fun a => f a b) m + f m b) n
    rw [smQ_add, sQ_sw15 (m := m)]
theorem sQ_le15 {f g : Nat → Rat} : ∀ {n : Nat}, (∀ i, i < n → f i ≤ g i) → smQ f n ≤ smQ g n
  | 0, _ => Rat.le_refl
  | n + 1, h => by
    have a := sQ_le15 (f := f) (g := g) (n := n) (fun i hi => h i (by omega))
    have b := h n (by omega)
    show smQ f n + f n ≤ smQ g n + g n
    grind
theorem sQ_sb15 {f g : Nat → Rat} {n : Nat} : smQ (fun i => f i - g i) n = smQ f n - smQ g n := by
  have a := smQ_add (f := fun i => f i - g i) (g := g) (n := n)
  have b := smQ_c (f := fun i => f i - g i + g i) (g := f) (n := n) (fun i _ => by grind)
  rw [b] at a
  grind
theorem sQ_z15 {f : Nat → Rat} {n : Nat} (h : ∀ i, i < n → 0 ≤ f i) (z : smQ f n ≤ 0) : ∀ i, i < n → f i = 0 := fun i hi => by
  have a := smQ_ge h hi
  have b := h i hi
  grind
def ab15 (q : Rat) : Rat := if 0 ≤ q then q else -q
theorem ab_n15 {q : Rat} : 0 ≤ ab15 q := by
  unfold ab15
  split <;> grind
theorem ab_015 {q : Rat} (h : ab15 q = 0) : q = 0 := by
  unfold ab15 at h
  split at h <;> grind
theorem ab_a15 {p q : Rat} : ab15 (p + q) ≤ ab15 p + ab15 q := by
  unfold ab15
  split <;> split <;> split <;> grind
theorem ab_m15 {p q : Rat} (h : 0 ≤ q) : ab15 (p * q) = ab15 p * q := by
  unfold ab15
  by_cases c : 0 ≤ p
  · rw [if_pos c, if_pos (Rat.mul_nonneg c h)]
  · rw [if_neg c]
    by_cases e : q = 0
    · rw [e, Rat.mul_zero, Rat.mul_zero]
      split <;> grind
    · have q0 : 0 < q := by grind
      have p0 : 0 < -p := by grind
      have m := Rat.mul_pos p0 q0
      rw [if_neg (by grind)]
      grind
theorem ab_s15 {f : Nat → Rat} : ∀ {n : Nat}, ab15 (smQ f n) ≤ smQ (fun i => ab15 (f i)) n
  | 0 => by
    show ab15 0 ≤ 0
    decide
  | n + 1 => by
    have a := ab_s15 (f := f) (n := n)
    have b := ab_a15 (p := smQ f n) (q := f n)
    show ab15 (smQ f n + f n) ≤ smQ (fun i => ab15 (f i)) n + ab15 (f n)
    grind
/-- from k one comes, in l steps, to a state that loses something -/
def lQ15 (P : Nat → Nat → Rat) (n : Nat) : Nat → Nat → Prop
  | 0, k => smQ (P k) n < 1
  | l + 1, k => ∃ r, r < n ∧ 0 < P k r ∧ lQ15 P n l r
/-- visits on a set of states: 0 elsewhere, and the equations hold -/
def vE15 (P : Nat → Nat → Rat) (n : Nat) (S : Nat → Prop) (x : Nat → Rat) : Prop := (∀ k, k < n → ¬ S k → x k = 0) ∧ (∀ j, j < n → S j → x j = (if j = 0 then 1 else 0) + smQ (fun k => x k * P k j) n) ∧ ∀ k j, k < n → j < n → S j → 0 < P k j → S k
theorem un_15 {P : Nat → Nat → Rat} {n : Nat} {S U : Nat → Prop} {x y : Nat → Rat} (p0 : ∀ k j, k < n → j < n → 0 ≤ P k j) (p1 : ∀ k, k < n → smQ (P k) n ≤ 1) (L : ∀ k, k < n → S k → ∃ l, lQ15 P n l k) (X : vE15 P n S x) (Y : vE15 P n U y) : ∀ j, j < n → S j → U j → x j = y j := by
  have ex : ∀ j, ∃ z : Rat, (S j ∧ U j → z = x j - y j) ∧ (¬ (S j ∧ U j) → z = 0) := fun j => by
    by_cases c : S j ∧ U j
    · exact ⟨x j - y j, fun _ => rfl, fun z => absurd c z⟩
    · exact ⟨0, fun z => absurd z c, fun _ => rfl⟩
  obtain ⟨d, hd⟩ := Classical.axiomOfChoice ex
  have eqn : ∀ j, j < n → S j → U j → d j = smQ (fun k => d k * P k j) n := fun j hj s u => by
    have e1 := X.2.1 j hj s
    have e2 := Y.2.1 j hj u
    have e3 := (hd j).1 ⟨s, u⟩
    have e4 : smQ (fun k => d k * P k j) n = smQ (fun k => x k * P k j - y k * P k j) n := smQ_c (fun k hk => by
      by_cases z : P k j = 0
      · rw [z, Rat.mul_zero, Rat.mul_zero, Rat.mul_zero]; grind
      · have q : 0 < P k j := by
          have := p0 k j hk hj
          grind
        rw [(hd k).1 ⟨X.2.2 k j hk hj s q, Y.2.2 k j hk hj u q⟩]
        grind)
    rw [e4, sQ_sb15, e3, e1, e2]
    grind
  have b1 : ∀ j, j < n → ab15 (d j) ≤ smQ (fun k => ab15 (d k) * P k j) n := fun j hj => by
    by_cases c : S j ∧ U j
    · have a := ab_s15 (f := fun k => d k * P k j) (n := n)
      rw [← eqn j hj c.1 c.2] at a
      have e : smQ (fun i => ab15 (d i * P i j)) n = smQ (fun k => ab15 (d k) * P k j) n := smQ_c (fun k hk => ab_m15 (p0 k j hk hj))
      rw [e] at a
      exact a
    · rw [(hd j).2 c]
      have a := smQ_nn (f := fun k => ab15 (d k) * P k j) (n := n) (fun k hk => Rat.mul_nonneg ab_n15 (p0 k j hk hj))
      have z : ab15 0 = 0 := by decide
      rw [z]
      exact a
  have sw := sQ_sw15 (f := fun j k => ab15 (d k) * P k j) (n := n) (m := n)
  have sk : smQ (fun k => smQ (fun j => ab15 (d k) * P k j) n) n = smQ (fun k => ab15 (d k) * smQ (P k) n) n := smQ_c (fun k hk => by
    have a := smQ_mul (f := P k) (c := ab15 (d k)) (n := n)
    have b := smQ_c (f := fun j => ab15 (d k) * P k j) (g := fun j => P k j * ab15 (d k)) (n := n) (fun j _ => Rat.mul_comm _ _)
    rw [b, a, Rat.mul_comm])
  have t1 := sQ_le15 b1
  have t2 : smQ (fun k => ab15 (d k) * smQ (P k) n) n ≤ smQ (fun k => ab15 (d k)) n := sQ_le15 (fun k hk => by
    have a := Rat.mul_le_mul_of_nonneg_left (p1 k hk) (ab_n15 (q := d k))
    rw [Rat.mul_one] at a
    exact a)
  have z1 : ∀ k, k < n → ab15 (d k) - ab15 (d k) * smQ (P k) n = 0 := sQ_z15 (fun k hk => by
    have a := Rat.mul_le_mul_of_nonneg_left (p1 k hk) (ab_n15 (q := d k))
    rw [Rat.mul_one] at a
    grind) (by
    rw [sQ_sb15]
    rw [sw, sk] at t1
    grind)
  have z2 : ∀ j, j < n → smQ (fun k => ab15 (d k) * P k j) n - ab15 (d j) = 0 := sQ_z15 (f := fun j => smQ (fun k => ab15 (d k) * P k j) n - ab15 (d j)) (fun j hj => by
    have a := b1 j hj
    grind) (by
    rw [sQ_sb15 (f := fun j => smQ (fun k => ab15 (d k) * P k j) n) (g := fun j => ab15 (d j)), sw, sk]
    grind)
  have fin : ∀ l k, k < n → lQ15 P n l k → ab15 (d k) = 0 := fun l => by
    induction l with
    | zero =>
      intro k hk h
      have h : smQ (P k) n < 1 := h
      have a := z1 k hk
      have b := ab_n15 (q := d k)
      have e : ab15 (d k) * (1 - smQ (P k) n) = 0 := by grind
      rcases Rat.mul_eq_zero.mp e with q | q
      · exact q
      · exfalso; grind
    | succ l ih =>
      intro k hk h
      obtain ⟨r, r1, r2, r3⟩ := h
      have a := ih r r1 r3
      have b := z2 r r1
      rw [a] at b
      have c : ab15 (d k) * P k r = 0 := sQ_z15 (f := fun k => ab15 (d k) * P k r) (fun k hk => Rat.mul_nonneg ab_n15 (p0 k r hk r1)) (by grind) k hk
      rcases Rat.mul_eq_zero.mp c with q | q
      · exact q
      · exfalso; grind
  intro j hj s u
  obtain ⟨l, hl⟩ := L j hj s
  have a := ab_015 (fin l j hj hl)
  have b := (hd j).1 ⟨s, u⟩
  grind
theorem vE_s15 {P : Nat → Nat → Rat} {n : Nat} {S M : Nat → Prop} {V V' : Nat → Rat} (E : vE15 P n S V) (hM : ∀ k, k < n → M k → ¬ S k) (h1 : ∀ k, k < n → ¬ M k → V' k = V k) (h2 : ∀ j, j < n → M j → V' j = (if j = 0 then 1 else 0) + smQ (fun k => V' k * P k j) n) (h3 : ∀ k j, k < n → j < n → (S j ∨ M j) → 0 < P k j → S k ∨ M k) (h4 : ∀ k j, k < n → j < n → M k → S j → P k j = 0) : vE15 P n (fun k => S k ∨ M k) V' := by
  refine ⟨fun k hk ne => by rw [h1 k hk (fun z => ne (Or.inr z))]; exact E.1 k hk (fun z => ne (Or.inl z)), fun j hj sj => ?_, h3⟩
  rcases sj with s | m
  · rw [h1 j hj (fun z => hM j hj z s), E.2.1 j hj s]
    congr 1
    refine smQ_c (fun k hk => ?_)
    by_cases c : M k
    · rw [h4 k j hk hj c s, Rat.mul_zero, Rat.mul_zero]
    · rw [h1 k hk c]
  · exact h2 j hj m
theorem vE_c15 {P : Nat → Nat → Rat} {n : Nat} {S S' : Nat → Prop} {V V' : Nat → Rat} (E : vE15 P n S V) (h : ∀ k, k < n → (S k ↔ S' k)) (e : ∀ k, k < n → V k = V' k) : vE15 P n S' V' := by
  refine ⟨fun k hk ne => (e k hk).symm.trans (E.1 k hk (fun z => ne ((h k hk).mp z))), fun j hj sj => ?_, fun k j hk hj sj p => (h k hk).mp (E.2.2 k j hk hj ((h j hj).mpr sj) p)⟩
  rw [← e j hj, E.2.1 j hj ((h j hj).mpr sj)]
  congr 1
  exact smQ_c (fun k hk => by rw [e k hk])

end
section
set_option maxHeartbeats 1600000
/-! the reference: what flows into a state, by its value -/
def vQ15 (σ : rS) (k : Nat) : Rat := mkRat (slV σ 102 (34 * k)) (slV σ 102 (34 * k + 17))
/-- what state k brings to state t with its first n nexts -/
def fp15 (σ : rS) (k : Nat) (t : Int32) (n : Nat) : Rat := if σ.2.2.1 96 k = 0 then 0 else vQ15 σ k * mkRat (wpI σ k t n) (tTI σ k).toNat
def fl15 (σ : rS) (k : Nat) (t : Int32) : Rat := fp15 σ k t (leN σ k)
def iF15 (σ : rS) (s : Nat) (t : Int32) : Rat := smQ (fun k => fl15 σ k t) s + (if t = 0 then 1 else 0)
theorem fp_015 {σ : rS} {k : Nat} {t : Int32} : fp15 σ k t 0 = 0 := by
  unfold fp15
  split
  · grind
  · show vQ15 σ k * mkRat (sI (fun d => wcI σ k t (loN σ k + d)) 0) _ = 0
    rw [show sI (fun d => wcI σ k t (loN σ k + d)) 0 = 0 from rfl, Rat.zero_mkRat, Rat.mul_zero]
theorem mk_a15 {a b : Int} {d : Nat} : mkRat (a + b) d = mkRat a d + mkRat b d := by
  rw [mk_d, mk_d, mk_d, Rat.intCast_add, Rat.add_mul]
theorem fp_s15 {σ : rS} {k n : Nat} {t : Int32} : fp15 σ k t (n + 1) = fp15 σ k t n + (if σ.2.2.1 96 k = 0 then 0 else vQ15 σ k * mkRat (wcI σ k t (loN σ k + n)) (tTI σ k).toNat) := by
  unfold fp15
  split
  · grind
  · show vQ15 σ k * mkRat (wpI σ k t n + wcI σ k t (loN σ k + n)) _ = _
    rw [mk_a15, Rat.mul_add]
/-- a next that brings nothing -/
theorem fp_n15 {σ : rS} {k n : Nat} {t : Int32} (h : wcI σ k t (loN σ k + n) = 0) : fp15 σ k t (n + 1) = fp15 σ k t n := by
  rw [fp_s15, h, Rat.zero_mkRat, Rat.mul_zero]
  split <;> exact Rat.add_zero _
theorem wc_015 {σ : rS} {s i : Nat} {t : Int32} (h : ¬ (σ.2.2.1 77 i = 0 ∧ σ.2.2.1 78 i = t)) : wcI σ s t i = 0 := if_neg h
theorem cj_15 {x y : Int32} (h0 : 0 ≤ x) (h1 : 0 ≤ y) (e : x.toNatClampNeg = y.toNatClampNeg) : x = y := by
  have a := cn_int h0
  have b := cn_int h1
  exact Int32.toInt_inj.mp (by omega)
theorem sumInflow_g5 {C : rCx} (hC : cOK C) (s E c e : Nat) {σ : rS} {a1 : Int32} {a2 : Int32} {Q : rS → Prop} (S9 : Rat) (h9 : hS σ S9) (hp : pOK σ ∧ s = (σ.1 70).toNatClampNeg ∧ (∀ k, k < s → σ.2.2.1 96 k ≠ 0 → vOK σ k) ∧ byO σ a2 ∧ siJ σ σ s c E ∧ 0 < E ∧ E * (byQ σ a2).den ≤ 65536 ^ e ∧ e ≤ 4200 ∧ c ≤ 1000000) (h : ∀ (σ' : rS), ((frS [0, 1, 2, 3, 4, 5, 6, 7, 8, 9, 10, 11, 12, 13, 14] σ σ' ∧ siJ σ σ' s (c + 20001) (E * (byQ σ a2).den)) ∧ (hS σ' (S9 + iF15 σ s a1 * byQ σ a2))) → Q σ') : cV C 5 m_sumInflow [.ref (co C), .int a1, .int a2] σ Q := by
  refine m_sumInflow_run hC ?_
  unfold w_sumInflow_0
  obtain ⟨hO, hn, hv, hb, J0, E0, hEb, he, hc⟩ := hp
  have F0 : 0 < E * (byQ σ a2).den := Nat.mul_pos E0 den0
  have bb := by_b hb
  unfold w_sumInflow_2
  refine ⟨fun n l1 l2 l3 τ => n = (σ.1 70 - l3).toNatClampNeg ∧ ((l1 = a1 ∧ l2 = a2 ∧ frS [0, 1, 2, 3, 4, 5, 6, 7, 8, 9, 10, 11, 12, 13, 14] σ τ ∧ 0 ≤ l3 ∧ l3 ≤ σ.1 70 ∧ ∃ d, d ≤ 20000 ∧ (l3 < σ.1 70 → d ≤ loN σ l3.toNatClampNeg) ∧ siJ σ τ s (c + d) (E * (byQ σ a2).den)) ∧ hS τ (S9 + smQ (fun k => fl15 σ k a1) l3.toNatClampNeg * byQ σ a2)), ⟨_, rfl, ?_⟩, ?_⟩
  · refine and_5 ?_ (fun o9 => ?_)  -- j1
    · clear h; exact ⟨rfl, rfl, frS_rf, by decide, hO.1.1.1, 0, by decide, fun _ => Nat.zero_le _, siJ_F J0 (Nat.dvd_mul_right ..)⟩
    · clear o9
      show hS σ (S9 + 0 * byQ σ a2)
      rw [Rat.zero_mul, Rat.add_zero]
      exact h9
  rintro n2 x2_1 x2_2 x2_3 σ2 ⟨hn2, i2, hE⟩
  obtain ⟨e1, e2, F, a0, a1', d, d1, d2, J⟩ := i2
  have e70 := F.1 70 (by decide)
  have e76 := F.2.2.1 76 (by decide) (by decide)
  rw [e70]
  refine ⟨fun c1 => ?_, fun c1 => ?_⟩
  · skip
    refine ⟨fun c2 => ?_, fun c2 => ?_⟩
    · skip
      refine h _ ?_
      · refine and_5 ?_ (fun o9 => ?_)  -- q2
        · clear h; exact ⟨F, siJ_mono J (by omega)⟩
        · clear o9
          have e : x2_3 = σ.1 70 := Int32.le_antisymm a1' c1
          unfold iF15
          rw [if_neg (fun z => c2 (e1.trans z)), Rat.add_zero, hn, ← e]
          exact hE
    · skip
      refine set_c hC  ?_ (fun σ_3 q4 => ?_)
      · clear h; exact ⟨by decide, by decide, by decide⟩  -- p3
      simp only [kn] at q4
      refine set_c hC  ?_ (fun σ_5 q6 => ?_)
      · clear h; exact ⟨by decide, by decide, by decide⟩  -- p4
      simp only [kn] at q6
      have g6 := nV_fr q6.1 (k := 6) (by decide) q4.2.1
      have R1 : hR σ_5 6 7 1 := ⟨g6.1, q6.2.1, by rw [g6.2.1, q4.2.2.1]; rfl, by rw [q6.2.2.1]; rfl⟩
      have F5 := frS_tr F (frS_tr (frS_mono (frS_of q4.1) (sub_of rfl)) (frS_mono (frS_of q6.1) (sub_of rfl)))
      have b5 := by_f (a := a2) (F5.2.2.1 93 (by decide) (by decide))
      refine takeTimes_c hC  ?_ (fun σ_7 q8 => ?_)
      · clear h; rw [(hR_q R1).1, e2]
        exact ⟨b5.2 hb, R1, by have := q4.2.2.2; have := g6.2.2; omega, by have := q6.2.2.2; omega⟩
      rw [(hR_q R1).1, e2, Rat.one_mul] at q8
      have R7 : hR σ_7 6 7 (byQ σ a2) := by rw [← b5.1]; exact q8.2
      have J7 := siJ_N q8.1 (by decide) (by decide) (siJ_N q6.1 (by decide) (by decide) (siJ_N q4.1 (by decide) (by decide) J))
      have A := siJ_add (k := 1) (D := (byQ σ a2).den) hO hn hv F0 hEb he (by omega) J7 R7 (by_vB hb) (by rw [Nat.one_mul]; exact Nat.dvd_refl _) (Nat.one_dvd _) (Nat.dvd_mul_left ..) (by decide) (by decide) den0 bb.2.2
      refine add_c hC  ?_ (fun σ_9 q10 => ?_)
      · clear h; exact A.1  -- p6
      refine h _ ?_
      · refine and_5 ?_ (fun o9 => ?_)  -- q7
        · clear h; exact ⟨frS_tr F5 (frS_tr (frS_mono (frS_of q8.1) (sub_of rfl)) (frS_mono q10.1 (sub_of rfl))), siJ_mono (A.2 _ q10.2) (by omega)⟩
        · clear o9
          have e : x2_3 = σ.1 70 := Int32.le_antisymm a1' c1
          have H7 := hS_N q8.1 (by decide) (by decide) (hS_N q6.1 (by decide) (by decide) (hS_N q4.1 (by decide) (by decide) hE))
          have B := q10.2
          rw [hS_add H7 R7, e, ← hn] at B
          unfold iF15
          rw [if_pos (e1.symm.trans c2)]
          have g : S9 + (smQ (fun k => fl15 σ k a1) s + 1) * byQ σ a2 = S9 + smQ (fun k => fl15 σ k a1) s * byQ σ a2 + byQ σ a2 := by
            rw [Rat.add_mul, Rat.one_mul, Rat.add_assoc]
          rw [g]
          exact B
  · skip
    have u := uk a0 c1 hO.1.1.2
    have st := ex_st hO.1 a0 u.2.2.2.2.1
    have tb := tT_b hO a0 u.2.2.2.2.1
    have as := cn_succ a0 (Int32.lt_trans u.2.2.2.2.2 (by decide))
    have ks : x2_3.toNatClampNeg < s := by rw [hn]; exact cn_lt a0 u.2.2.2.2.1
    have hi2 := Int32.le_trans st.2.2.1 hO.1.2.2.1.2
    have gb := gS_b hO hn hv ks
    refine ⟨ib_1001.mpr ?_, ?_⟩
    · clear h; exact ⟨a0, Int32.lt_trans u.2.2.2.2.2 (by decide)⟩  -- b8
    intro x11 hx11
    unfold w_sumInflow_18
    refine ⟨fun n l1 l2 l3 l4 τ => n = (σ.2.2.1 76 (x2_3.toNatClampNeg + 1) - l4).toNatClampNeg ∧ ((l1 = a1 ∧ l2 = a2 ∧ l3 = x2_3 ∧ frS [0, 1, 2, 3, 4, 5, 6, 7, 8, 9, 10, 11, 12, 13, 14] σ τ ∧ σ.2.2.1 76 x2_3.toNatClampNeg ≤ l4 ∧ l4 ≤ σ.2.2.1 76 (x2_3.toNatClampNeg + 1) ∧ siJ σ τ s (c + l4.toNatClampNeg) (E * (byQ σ a2).den)) ∧ hS τ (S9 + (smQ (fun k => fl15 σ k a1) x2_3.toNatClampNeg + fp15 σ x2_3.toNatClampNeg a1 (l4.toNatClampNeg - loN σ x2_3.toNatClampNeg)) * byQ σ a2)), ⟨_, rfl, ?_⟩, ?_⟩
    · refine and_5 ?_ (fun o9 => ?_)  -- j9
      · clear h; rw [hx11, e76]
        exact ⟨e1, e2, rfl, F, Int32.le_refl _, st.2.1, siJ_mono J (by have := d2 u.2.2.2.2.1; unfold loN at this; omega)⟩
      · clear o9
        rw [hx11, e76]
        show hS _ (S9 + (_ + fp15 σ x2_3.toNatClampNeg a1 ((σ.2.2.1 76 x2_3.toNatClampNeg).toNatClampNeg - (σ.2.2.1 76 x2_3.toNatClampNeg).toNatClampNeg)) * byQ σ a2)
        rw [Nat.sub_self, fp_015, Rat.add_zero]
        exact hE
    rintro n18 x18_1 x18_2 x18_3 x18_4 σ18 ⟨hn18, i18, hE⟩
    obtain ⟨f1, f2, f3, G, w1, w2, J2⟩ := i18
    have i0 := Int32.le_trans st.1.1 w1
    have g96 := G.2.2.1 96 (by decide) (by decide)
    have g76 := G.2.2.1 76 (by decide) (by decide)
    have g77 := G.2.2.1 77 (by decide) (by decide)
    have g78 := G.2.2.1 78 (by decide) (by decide)
    have g79 := G.2.2.1 79 (by decide) (by decide)
    have g80 := G.2.2.1 80 (by decide) (by decide)
    have g81 := G.2.2.1 81 (by decide) (by decide)
    have g83 := G.2.2.1 83 (by decide) (by decide)
    have g102 := G.2.2.1 102 (by decide) (by decide)
    have hi20 : x18_4.toNatClampNeg ≤ 20000 := cn_le (y := 20000) rfl (Int32.le_trans w2 hi2)
    rw [f3, g96, g76, g77, g78, st.2.2.2.1]
    refine ⟨ib_1000.mpr ?_, ?_⟩
    · clear h; exact ⟨a0, u.2.2.2.2.2⟩  -- b10
    refine ⟨fun c12 => ?_, fun c12 => ?_⟩
    · skip
      intro x13 hx13
      refine lp_b5 (cn_lt2 hn2 ?_ ?_) (fun d9 => ⟨rfl, ?_⟩)
      · clear h; rw [hx13]; exact u.1  -- d11
      · clear h; rw [hx13]; exact u.2.1  -- d12
      · refine and_5 ?_ (fun o9 => ?_)  -- i13
        · clear h; rw [hx13]
          exact ⟨f1, f2, G, u.2.2.1, u.2.2.2.1, x18_4.toNatClampNeg, hi20, fun _ => by rw [as]; unfold loN; exact cn_l w2 i0, J2⟩
        · clear o9
          rw [hx13, as]
          show hS _ (S9 + (smQ (fun k => fl15 σ k a1) x2_3.toNatClampNeg + fl15 σ x2_3.toNatClampNeg a1) * byQ σ a2)
          have z : ∀ n, fp15 σ x2_3.toNatClampNeg a1 n = 0 := fun n => by
            unfold fp15
            exact if_pos c12
          rw [z, Rat.add_zero] at hE
          unfold fl15
          rw [z, Rat.add_zero]
          exact hE
    · skip
      refine ⟨ib_1001.mpr ?_, ?_⟩
      · clear h; exact ⟨st.2.2.2.2.2.1, st.2.2.2.2.2.2⟩  -- b14
      refine ⟨fun c14 => ?_, fun c14 => ?_⟩
      · skip
        intro x15 hx15
        refine lp_b5 (cn_lt2 hn2 ?_ ?_) (fun d9 => ⟨rfl, ?_⟩)
        · clear h; rw [hx15]; exact u.1  -- d15
        · clear h; rw [hx15]; exact u.2.1  -- d16
        · refine and_5 ?_ (fun o9 => ?_)  -- i17
          · clear h; rw [hx15]
            exact ⟨f1, f2, G, u.2.2.1, u.2.2.2.1, x18_4.toNatClampNeg, hi20, fun _ => by rw [as]; unfold loN; exact cn_l w2 i0, J2⟩
          · clear o9
            have e : x18_4 = σ.2.2.1 76 (x2_3.toNatClampNeg + 1) := Int32.le_antisymm w2 c14
            rw [hx15, as]
            show hS _ (S9 + (smQ (fun k => fl15 σ k a1) x2_3.toNatClampNeg + fl15 σ x2_3.toNatClampNeg a1) * byQ σ a2)
            rw [e] at hE
            exact hE
      · skip
        have z := u2 i0 c14 hi2
        have is := cn_succ i0 (Int32.lt_trans z.2.2.2.2.2.2 (by decide))
        have lo := cn_l w1 st.1.1
        have hl := cn_lt i0 z.2.2.2.2.2.1
        have hd : x18_4.toNatClampNeg - loN σ x2_3.toNatClampNeg < leN σ x2_3.toNatClampNeg := by unfold leN loN; omega
        have el : loN σ x2_3.toNatClampNeg + (x18_4.toNatClampNeg - loN σ x2_3.toNatClampNeg) = x18_4.toNatClampNeg := by unfold loN; omega
        refine ⟨ib_20000.mpr ?_, ?_⟩
        · clear h; exact ⟨i0, z.2.2.2.2.2.2⟩  -- b18
        refine ⟨fun c16 => ?_, fun c16 => ?_⟩
        · skip
          intro x17 hx17
          refine lp_b5 (cn_lt2 hn18 ?_ ?_) (fun d9 => ⟨rfl, ?_⟩)
          · clear h; rw [hx17]; exact z.1  -- d19
          · clear h; rw [hx17]; exact z.2.1  -- d20
          · refine and_5 ?_ (fun o9 => ?_)  -- i21
            · clear h; rw [hx17]
              exact ⟨f1, f2, rfl, G, Int32.le_trans w1 z.2.2.2.1, z.2.2.2.2.1, siJ_mono J2 (by rw [is]; omega)⟩
            · clear o9
              rw [hx17, is, show x18_4.toNatClampNeg + 1 - loN σ x2_3.toNatClampNeg = (x18_4.toNatClampNeg - loN σ x2_3.toNatClampNeg) + 1 by unfold loN; omega, fp_n15 (by rw [el]; exact wc_015 (fun y => c16 y.1))]
              exact hE
        · skip
          refine ⟨ib_20000.mpr ?_, ?_⟩
          · clear h; exact ⟨i0, z.2.2.2.2.2.2⟩  -- b22
          refine ⟨fun c18 => ?_, fun c18 => ?_⟩
          · skip
            intro x19 hx19
            refine lp_b5 (cn_lt2 hn18 ?_ ?_) (fun d9 => ⟨rfl, ?_⟩)
            · clear h; rw [hx19]; exact z.1  -- d23
            · clear h; rw [hx19]; exact z.2.1  -- d24
            · refine and_5 ?_ (fun o9 => ?_)  -- i25
              · clear h; rw [hx19]
                exact ⟨f1, f2, rfl, G, Int32.le_trans w1 z.2.2.2.1, z.2.2.2.2.1, siJ_mono J2 (by rw [is]; omega)⟩
              · clear o9
                rw [hx19, is, show x18_4.toNatClampNeg + 1 - loN σ x2_3.toNatClampNeg = (x18_4.toNatClampNeg - loN σ x2_3.toNatClampNeg) + 1 by unfold loN; omega, fp_n15 (by rw [el]; exact wc_015 (fun y => c18 (y.2.trans f1.symm)))]
                exact hE
          · skip
            refine isTaken_c hC  ?_ (fun r20 q22 => ?_)
            · clear h; exact ⟨a0, u.2.2.2.2.2⟩  -- p26
            have tk := q22.2
            rw [rd, rd, rd, g81, g76, g83] at tk
            refine ⟨fun c23 => ?_, fun c23 => ?_⟩
            · skip
              intro x24 hx24
              refine lp_b5 (cn_lt2 hn18 ?_ ?_) (fun d9 => ⟨rfl, ?_⟩)
              · clear h; rw [hx24]; exact z.1  -- d27
              · clear h; rw [hx24]; exact z.2.1  -- d28
              · refine and_5 ?_ (fun o9 => ?_)  -- i29
                · clear h; rw [hx24]
                  exact ⟨f1, f2, rfl, G, Int32.le_trans w1 z.2.2.2.1, z.2.2.2.2.1, siJ_mono J2 (by rw [is]; omega)⟩
                · clear o9
                  have nt : ¬ (σ.2.2.1 81 x2_3.toNatClampNeg = 0 ∨ x18_4 = σ.2.2.1 76 x2_3.toNatClampNeg + σ.2.2.1 83 x2_3.toNatClampNeg) := fun y => tk.mpr (Or.inr y) c23
                  rw [hx24, is, show x18_4.toNatClampNeg + 1 - loN σ x2_3.toNatClampNeg = (x18_4.toNatClampNeg - loN σ x2_3.toNatClampNeg) + 1 by unfold loN; omega, fp_n15 (by
                    rw [el]
                    unfold wcI twI
                    split
                    · rw [if_neg (fun y => nt (Or.inl y)), if_neg (fun y => nt (Or.inr (cj_15 i0 (by
                        have q := hO.2 x2_3 a0 u.2.2.2.2.1 (by rw [rd]; exact fun y => nt (Or.inl y))
                        have s1 := (hO.1.2.2.2.1 x2_3 a0 u.2.2.2.2.1).1
                        rw [rd, rd, rd, st.2.2.2.1] at q
                        rw [rd, rd, st.2.2.2.1] at s1
                        exact (sub_n s1.1 s1.2.1 (Int32.le_trans s1.2.2 hO.1.2.2.1.2) q.1 q.2).2.2.1) y)))]
                    · rfl)]
                  exact hE
            · skip
              refine loadVisits_c hC  ?_ (fun σ_25 q26 => ?_)
              · clear h; have V := vOK_f g102 (hv x2_3.toNatClampNeg ks c12)
                exact ⟨a0, u.2.2.2.2.2, V.1, V.2.1⟩
              have V := hv x2_3.toNatClampNeg ks c12
              have e6 := q26.2.2.2.1
              have e7 := q26.2.2.2.2.1
              rw [(sl_f (m := 16) g102).1] at e6 e7
              have k79 := (q26.1.2.2.1 79 (by decide) (by decide)).trans g79
              have k80 := (q26.1.2.2.1 80 (by decide) (by decide)).trans g80
              have k81 := (q26.1.2.2.1 81 (by decide) (by decide)).trans g81
              refine weightOf_c hC  ?_ (fun r27 q29 => ?_)
              · clear h; exact ⟨a0, u.2.2.2.2.2, i0, z.2.2.2.2.2.2⟩  -- p31
              rw [rd, rd, k81, k79] at q29
              have W := wc_w (σ := σ) (s := x2_3.toNatClampNeg) (t := σ.2.2.1 78 x18_4.toNatClampNeg) (i := x18_4) c16 rfl ((tk.mp c23).resolve_left (by decide)) q29.1 q29.2
              have wb := wc_b hO a0 u.2.2.2.2.1 (t := σ.2.2.1 78 x18_4.toNatClampNeg) hd
              have wl := tw_le hO a0 u.2.2.2.2.1 hd
              rw [el] at wb wl
              refine totalOf_c hC  ?_ (fun r30 q32 => ?_)
              · clear h; exact ⟨a0, u.2.2.2.2.2⟩  -- p32
              have T := tot_I q32
              rw [tT_f k80 k81] at T
              have W0 : 0 ≤ r27.toInt := by rw [W]; exact wb.1
              have W1 : r27.toInt ≤ tTI σ x2_3.toNatClampNeg := by rw [W]; exact Int.le_trans wb.2 wl
              have K := ld_q V e6 e7 T tb.1 W0 W1 c12
              refine scale_c hC  ?_ (fun σ_33 q34 => ?_)
              · clear h; exact ⟨q26.2.1, q26.2.2.1, by rw [e7]; exact V.2.2, l64_0 rfl W0, l64_1 T tb.1, by have := q26.2.2.2.2.2.1; omega, by have := q26.2.2.2.2.2.2; omega⟩  -- p33
              have le1 := Rat.mul_le_mul_of_nonneg_left K.2.2.2.1 K.1
              rw [Rat.mul_one] at le1
              have pl := pl_of (a := 19) (b := 16) q34.2 gb.1 K.2.2.2.2 (Nat.lt_of_le_of_lt gb.2 (Nat.pow_lt_pow_right (by decide) (by decide))) (Rat.le_trans le1 K.2.1)
              have F33 := frS_tr G (frS_tr (frS_mono (frS_of q26.1) (sub_of rfl)) (frS_mono (frS_of q34.1) (sub_of rfl)))
              have b33 := by_f (a := a2) (F33.2.2.1 93 (by decide) (by decide))
              refine takeTimes_c hC  ?_ (fun σ_35 q36 => ?_)
              · clear h; rw [(hR_q q34.2).1, f2]
                exact ⟨b33.2 hb, q34.2, by have := pl.2; omega, by have := pl.1; omega⟩
              rw [(hR_q q34.2).1, f2] at q36
              have R35 : hR σ_35 6 7 (fQ σ_25 6 7 * mkRat r27.toInt r30.toInt.toNat * byQ σ a2) := by rw [← b33.1]; exact q36.2
              have J35 := siJ_N q36.1 (by decide) (by decide) (siJ_N q34.1 (by decide) (by decide) (siJ_N q26.1 (by decide) (by decide) J2))
              have A := siJ_add (k := gS σ x2_3.toNatClampNeg) (D := (byQ σ a2).den) hO hn hv F0 hEb he (by omega) J35 R35 (by unfold vB; rw [Rat.natCast_mul]; exact pr_le K.1 bb.1 K.2.1 K.2.2.2.1 bb.2.1) (Nat.dvd_trans den_mul (Nat.mul_dvd_mul K.2.2.2.2 (Nat.dvd_refl _))) (prS_dvd ks) (Nat.dvd_mul_left ..) gb.1 gb.2 den0 bb.2.2
              refine add_c hC  ?_ (fun σ_37 q38 => ?_)
              · clear h; exact A.1  -- p35
              intro x39 hx39
              refine lp_b5 (cn_lt2 hn18 ?_ ?_) (fun d9 => ⟨rfl, ?_⟩)
              · clear h; rw [hx39]; exact z.1  -- d36
              · clear h; rw [hx39]; exact z.2.1  -- d37
              · refine and_5 ?_ (fun o9 => ?_)  -- i38
                · clear h; rw [hx39, is, ← Nat.add_assoc]
                  exact ⟨f1, f2, rfl, frS_tr F33 (frS_tr (frS_mono (frS_of q36.1) (sub_of rfl)) (frS_mono q38.1 (sub_of rfl))), Int32.le_trans w1 z.2.2.2.1, z.2.2.2.2.1, A.2 _ q38.2⟩
                · clear o9
                  have H35 := hS_N q36.1 (by decide) (by decide) (hS_N q34.1 (by decide) (by decide) (hS_N q26.1 (by decide) (by decide) hE))
                  have B := q38.2
                  rw [hS_add H35 R35] at B
                  have ev : fQ σ_25 6 7 = vQ15 σ x2_3.toNatClampNeg := by
                    unfold fQ vQ15
                    rw [e6, e7]
                  have et : σ.2.2.1 78 x18_4.toNatClampNeg = a1 := c18.trans f1
                  rw [hx39, is, show x18_4.toNatClampNeg + 1 - loN σ x2_3.toNatClampNeg = (x18_4.toNatClampNeg - loN σ x2_3.toNatClampNeg) + 1 by unfold loN; omega, fp_s15, if_neg c12, el]
                  rw [ev, W, et, T] at B
                  generalize fp15 σ x2_3.toNatClampNeg a1 (x18_4.toNatClampNeg - loN σ x2_3.toNatClampNeg) = p at B ⊢
                  generalize vQ15 σ x2_3.toNatClampNeg * mkRat (wcI σ x2_3.toNatClampNeg a1 x18_4.toNatClampNeg) (tTI σ x2_3.toNatClampNeg).toNat = q at B ⊢
                  have g : S9 + (smQ (fun k => fl15 σ k a1) x2_3.toNatClampNeg + (p + q)) * byQ σ a2 = S9 + (smQ (fun k => fl15 σ k a1) x2_3.toNatClampNeg + p) * byQ σ a2 + q * byQ σ a2 := by
                    rw [← Rat.add_assoc, Rat.add_mul, ← Rat.add_assoc]
                  rw [g]
                  exact B

end
section
set_option maxHeartbeats 1600000
/-! the reference: the chain of all states -/
/-- all states as members -/
def ix15 (σ : rS) : rS := (σ.1, σ.2.1, fun j => if j = 99 then (fun i => Int32.ofNat i) else σ.2.2.1 j, σ.2.2.2)
abbrev pR15 (σ : rS) (s : Nat) : Nat → Nat → Rat := rP (ix15 σ) s
theorem ix_r15 {σ : rS} {g : Nat} (h : g ≠ 99) : (ix15 σ).2.2.1 g = σ.2.2.1 g := if_neg h
theorem ix_n15 {σ : rS} {k : Nat} (h : k ≤ 67108864) : mN (ix15 σ) k = k := by
  show (Int32.ofNat k).toNatClampNeg = k
  exact cl_5 h
theorem ix_p15 {σ : rS} (h : pOK σ) : pOK (ix15 σ) := pOK_o h (fun _ _ => rfl) (fun k hk => ix_r15 (by omega))
theorem ix_m15 {σ : rS} {s : Nat} (h : pOK σ) (hs : s = (σ.1 70).toNatClampNeg) : mbO (ix15 σ) s := by
  have s1 : s ≤ 1000 := by rw [hs]; exact cn_le (y := 1000) rfl h.1.1.2
  have c := cn_int h.1.1.1
  have hv : ∀ a, a < s → (Int32.ofNat a).toInt = (a : Int) := fun a ha => ofn_i (by omega)
  refine ⟨fun a ha => ⟨?_, ?_⟩, fun a b ha hb e => ?_⟩
  · show (0 : Int32) ≤ Int32.ofNat a
    rw [lei, t0i, hv a ha]
    omega
  · show Int32.ofNat a < σ.1 70
    rw [lti, hv a ha]
    omega
  · have e : Int32.ofNat a = Int32.ofNat b := e
    have q := congrArg Int32.toInt e
    rw [hv a ha, hv b hb] at q
    omega
theorem ix_c15 {σ : rS} : cnE (ix15 σ) = cnE σ := cnE_o rfl (fun k hk => ix_r15 (by omega))
theorem lq_c15 {P : Nat → Nat → Rat} {s : Nat} (h : ∀ i, i < s → P i s + smQ (P i) s = 1) : ∀ {n i : Nat}, i < s → cEx P s s n i → lQ15 P s n i
  | 0, i, hi, c => by
    have c : 0 < P i s := c
    have e := h i hi
    show smQ (P i) s < 1
    grind
  | n + 1, i, _, ⟨j, j1, j2, j3⟩ => ⟨j, j1, j2, lq_c15 h j1 j3⟩
theorem gP_15 {σ : rS} {s : Nat} (h : pOK σ) (hs : s = (σ.1 70).toNatClampNeg) : (∀ k j, k < s → j < s → 0 ≤ pR15 σ s k j) ∧ (∀ k, k < s → smQ (pR15 σ s k) s ≤ 1) ∧ ∀ k, k < s → cnE σ k → ∃ l, lQ15 (pR15 σ s) s l k := by
  have hp := ix_p15 h
  have hM := ix_m15 h hs
  have s1 : s ≤ 1000 := by rw [hs]; exact cn_le (y := 1000) rfl h.1.1.2
  refine ⟨fun k j hk hj => rP_nn hp hM hk (Or.inl hj), fun k hk => ?_, fun k hk c => ?_⟩
  · have e := rP_1 hp hM hk
    have z := rP_nn (j := s) hp hM hk (Or.inr rfl)
    show smQ (rP (ix15 σ) s k) s ≤ 1
    grind
  · have e : ∃ n, cEx (rP (ix15 σ) s) s s n k := by
      rw [← ix_c15] at c
      rcases c with z | ⟨t, _, ⟨l, z1⟩, z2⟩
      · exact ⟨0, rP_end hp hM hk (by rw [ix_n15 (by omega)]; exact z)⟩
      · exact cx_path hp hM z2 hk (by rw [ix_n15 (by omega)]; exact z1)
    obtain ⟨n, hn⟩ := e
    exact ⟨n, lq_c15 (fun i hi => rP_1 hp hM hi) hk hn⟩
/-- the odds in the states' own words -/
theorem pR_v15 {σ : rS} {s k j : Nat} (hk : k ≤ 67108864) (hj : j < s) : pR15 σ s k j = mkRat (wKI σ k (Int32.ofNat j)) (tTI σ k).toNat := by
  show mkRat (rK (ix15 σ) s k j) (riT (ix15 σ) k) = _
  unfold rK riT
  rw [if_neg (by omega), ix_n15 hk]
  rfl
/-- where there are odds there is a link -/
theorem sI_p15 {f : Nat → Int} : ∀ {n : Nat}, 0 < sI f n → ∃ i, i < n ∧ 0 < f i
  | 0, h => absurd h (Int.lt_irrefl 0)
  | n + 1, h => by
    by_cases c : 0 < f n
    · exact ⟨n, by omega, c⟩
    · have h : 0 < sI f n + f n := h
      obtain ⟨i, i1, i2⟩ := sI_p15 (f := f) (n := n) (by omega)
      exact ⟨i, by omega, i2⟩
theorem mk_q15 {a : Int} {d : Nat} (d0 : 0 < d) (h : 0 < mkRat a d) : 0 < a := by
  have i := Rat.inv_pos.mpr (nq0 d0)
  rw [mk_d] at h
  refine Decidable.byContradiction (fun c => ?_)
  have z : (a : Rat) ≤ 0 := by
    have y : (a : Rat) ≤ ((0 : Int) : Rat) := Rat.intCast_le_intCast.mpr (by omega)
    exact y
  have w := Rat.mul_le_mul_of_nonneg_right z (Rat.le_of_lt i)
  rw [Rat.zero_mul] at w
  grind
theorem pe_15 {σ : rS} {s k j : Nat} (h : pOK σ) (hs : s = (σ.1 70).toNatClampNeg) (hk : k < s) (hj : j < s) (p : 0 < pR15 σ s k j) : edN σ 1 95 1 k j := by
  have s1 : s ≤ 1000 := by rw [hs]; exact cn_le (y := 1000) rfl h.1.1.2
  have kM := (ix_m15 h hs).1 k hk
  have k0 : (0 : Int32) ≤ Int32.ofNat k := kM.1
  have k1 : Int32.ofNat k < σ.1 70 := kM.2
  have ek : (Int32.ofNat k).toNatClampNeg = k := cl_5 (by omega)
  have tb := tT_b h k0 k1
  have st := ex_st h.1 k0 k1
  rw [ek] at tb st
  rw [pR_v15 (by omega) hj] at p
  have w := mk_q15 (by omega) p
  obtain ⟨d, d1, d2⟩ := sI_p15 (f := fun d => wcI σ k (Int32.ofNat j) (loN σ k + d)) w
  have c : σ.2.2.1 77 (loN σ k + d) = 0 ∧ σ.2.2.1 78 (loN σ k + d) = Int32.ofNat j := by
    refine Decidable.byContradiction (fun z => ?_)
    have e : wcI σ k (Int32.ofNat j) (loN σ k + d) = 0 := if_neg z
    rw [e] at d2
    omega
  have t : 0 < twI σ k (loN σ k + d) := by
    have e : wcI σ k (Int32.ofNat j) (loN σ k + d) = twI σ k (loN σ k + d) := if_pos c
    rw [e] at d2
    exact d2
  have lo := cn_int st.1.1
  have hi := cn_int (x := σ.2.2.1 76 (k + 1)) (Int32.le_trans st.1.1 st.2.1)
  have h20 := Int32.le_trans st.2.2.1 h.1.2.2.1.2
  rw [lei, show (20000 : Int32).toInt = 20000 from rfl] at h20
  have dl : loN σ k + d < (σ.2.2.1 76 (k + 1)).toNatClampNeg := by
    unfold leN at d1
    omega
  have ll : loN σ k = (σ.2.2.1 76 k).toNatClampNeg := rfl
  have ei : (Int32.ofNat (loN σ k + d)).toNatClampNeg = loN σ k + d := cl_5 (by omega)
  have vi : (Int32.ofNat (loN σ k + d)).toInt = ((loN σ k + d : Nat) : Int) := ofn_i (by omega)
  refine ⟨Int32.ofNat (loN σ k + d), by rw [lei, vi]; omega, by rw [lti, vi]; omega, by rw [rd, ei]; exact c.1, by rw [rd, ei, c.2]; exact cl_5 (by omega), Or.inr ?_, Or.inl (by decide)⟩
  by_cases z : σ.2.2.1 81 k = 0
  · exact Or.inl z
  · right
    unfold twI at t
    rw [if_neg z] at t
    have y : loN σ k + d = (σ.2.2.1 76 k + σ.2.2.1 83 k).toNatClampNeg := by
      refine Decidable.byContradiction (fun q => ?_)
      rw [if_neg q] at t
      omega
    have pl := h.2 (Int32.ofNat k) k0 k1 (by rw [rd, ek]; exact z)
    have s1' := (h.1.2.2.2.1 (Int32.ofNat k) k0 k1).1
    have as : (Int32.ofNat k + 1).toNatClampNeg = k + 1 := by
      have q := cn_succ k0 (Int32.lt_trans (Int32.lt_of_lt_of_le k1 h.1.1.2) (by decide))
      rw [ek] at q
      exact q
    rw [rd, rd, rd, ek, as] at pl
    rw [rd, rd, ek, as] at s1'
    have sn := sub_n s1'.1 s1'.2.1 (Int32.le_trans s1'.2.2 h.1.2.2.1.2) pl.1 pl.2
    exact cj_15 (by rw [lei, t0i, vi]; omega) sn.2.2.1 (by rw [ei]; exact y)
/-- sums over members as sums over states -/
theorem rx_15 {f : Nat → Rat} {g : Nat → Nat} {s : Nat} : ∀ {m : Nat} {d : Nat → Rat}, (∀ r, r < m → g r < s) → (∀ a b, a < m → b < m → g a = g b → a = b) → (∀ k, k < s → (∃ r, r < m ∧ g r = k) → d k = f k) → (∀ k, k < s → ¬ (∃ r, r < m ∧ g r = k) → d k = 0) → smQ (fun r => f (g r)) m = smQ d s
  | 0, d, _, _, _, h => (smQ_0 (fun k hk => h k hk (fun ⟨r, hr, _⟩ => absurd hr (Nat.not_lt_zero r)))).symm
  | m + 1, d, h1, h2, h3, h4 => by
    have ih := rx_15 (f := f) (g := g) (s := s) (m := m) (d := fun k => if k = g m then 0 else d k) (fun r hr => h1 r (by omega)) (fun a b ha hb => h2 a b (by omega) (by omega)) (fun k hk ⟨r, hr, e⟩ => by
      show (if k = g m then 0 else d k) = f k
      rw [if_neg (fun z => by have := h2 r m (by omega) (by omega) (e.trans z); omega)]
      exact h3 k hk ⟨r, by omega, e⟩) (fun k hk n => by
      show (if k = g m then 0 else d k) = 0
      by_cases z : k = g m
      · rw [if_pos z]
      · rw [if_neg z]
        exact h4 k hk (fun ⟨r, hr, e⟩ => n ⟨r, by
          by_cases q : r = m
          · rw [q] at e
            exact absurd e.symm z
          · omega, e⟩))
    have one : ∀ {n : Nat}, smQ d n = smQ (fun k => if k = g m then 0 else d k) n + (if g m < n then d (g m) else 0) := fun {n} => by
      induction n with
      | zero => show (0 : Rat) = 0 + 0; rw [Rat.add_zero]
      | succ n ih =>
        show smQ d n + d n = smQ (fun k => if k = g m then 0 else d k) n + (if n = g m then 0 else d n) + (if g m < n + 1 then d (g m) else 0)
        rw [ih]
        by_cases c : n = g m
        · rw [if_pos c, if_neg (by omega), if_pos (by omega), c]
        · rw [if_neg c]
          by_cases e : g m < n
          · rw [if_pos e, if_pos (by omega)]
            grind
          · rw [if_neg e, if_neg (by omega)]
            grind
    show smQ (fun r => f (g r)) m + f (g m) = smQ d s
    rw [ih, one (n := s), if_pos (h1 m (by omega)), h3 (g m) (h1 m (by omega)) ⟨m, by omega, rfl⟩]
noncomputable def bg15 (σ : rS) : Prop := ∃ k, k < (σ.1 70).toNatClampNeg ∧ cnE σ k ∧ Tr (edN σ 1 95 1) k k ∧ 32 < ct8 (fun m => Tr (edN σ 1 95 1) k m ∧ Tr (edN σ 1 95 1) m k) (σ.1 70).toNatClampNeg

end
section
set_option maxHeartbeats 1600000
/-! the reference: a ring's visits, by their values -/
theorem cmb_r15 {P : Nat → Nat → Rat} {m k : Nat} {α : Nat → Rat} {β : Rat} {x : Nat → Rat} (h1 : P k k = 1 - elS P m k) (h : α k * elS P m k = smQ (fun r => α r * P r k) k + β * x k) : cmb P α β x (k + 1) k = 0 := by
  have e0 : smQ (fun r => α r * (dl r k - P r k)) k = smQ (fun r => α r * P r k) k * (-1) := by
    rw [← smQ_mul]
    refine smQ_c (fun r hr => ?_)
    show α r * (dl r k - P r k) = α r * P r k * -1
    unfold dl
    rw [if_neg (by omega)]
    grind
  unfold cmb
  rw [smQ_s, e0]
  have d : dl k k = 1 := if_pos rfl
  rw [d, h1]
  generalize smQ (fun r => α r * P r k) k = A at h ⊢
  generalize elS P m k = S at h ⊢
  grind
/-- what visitFrom finds solves the equations -/
theorem vs_c15 {P : Nat → Nat → Rat} {m a : Nat} {v : Nat → Rat} (M : Mk P m m) (H : vsI P m a v) : ∀ n, n ≤ m → ∀ J, m - n ≤ J → J < m → cmb P v 1 (dl a) m J = 0 := fun n => by
  induction n with
  | zero => intro _ J h1 h2; omega
  | succ n ih =>
    intro hn J h1 h2
    have I := ih (by omega)
    by_cases c : m - n ≤ J
    · exact I J c h2
    · have eJ : J = m - 1 - n := by omega
      have q := cmb_n M (n := n) (by omega) I J (Or.inl (by omega))
      have Mn := Mk_n M (n := n) (by omega)
      rw [show m - n = J + 1 by omega] at q Mn
      rw [q]
      have S := Mk_S Mn
      have hv := H J h2
      rw [show m - 1 - J = n by omega] at hv
      exact cmb_r15 S.2 (by rw [Rat.one_mul]; exact hv)
theorem vs_e15 {P : Nat → Nat → Rat} {m a : Nat} {v : Nat → Rat} (M : Mk P m m) (H : vsI P m a v) {J : Nat} (hJ : J < m) : v J = dl a J + smQ (fun r => v r * P r J) m := by
  have z := vs_c15 M H m (Nat.le_refl _) J (by omega) hJ
  unfold cmb at z
  have e : smQ (fun r => v r * (dl r J - P r J)) m = v J - smQ (fun r => v r * P r J) m := by
    have a1 := smQ_c (f := fun r => v r * (dl r J - P r J)) (g := fun r => v r * dl r J - v r * P r J) (n := m) (fun r _ => by grind)
    have a2 := sQ_sb15 (f := fun r => v r * dl r J) (g := fun r => v r * P r J) (n := m)
    rw [a1, a2]
    have a3 : ∀ n, smQ (fun r => v r * dl r J) n = if J < n then v J else 0 := fun n => by
      induction n with
      | zero => rfl
      | succ n ih =>
        show smQ (fun r => v r * dl r J) n + v n * dl n J = _
        rw [ih]
        unfold dl
        by_cases c : J < n
        · rw [if_pos c, if_neg (show ¬ n = J by omega), if_pos (show J < n + 1 by omega), Rat.mul_zero, Rat.add_zero]
        · by_cases d : n = J
          · rw [if_neg c, if_pos d, if_pos (by omega), Rat.mul_one, Rat.zero_add, d]
          · rw [if_neg c, if_neg d, if_neg (by omega), Rat.mul_zero, Rat.add_zero]
    rw [a3, if_pos hJ]
  rw [e, Rat.one_mul] at z
  generalize smQ (fun r => v r * P r J) m = A at z ⊢
  grind
/-- sums of what goes out from each -/
theorem rs_15 {P : Nat → Nat → Rat} {m : Nat} {v : Nat → Nat → Rat} {i : Nat → Rat} (h : ∀ a J, a < m → J < m → v a J = dl a J + smQ (fun r => v a r * P r J) m) : ∀ J, J < m → smQ (fun a => i a * v a J) m = i J + smQ (fun r => smQ (fun a => i a * v a r) m * P r J) m := fun J hJ => by
  have e1 := smQ_c (f := fun a => i a * v a J) (g := fun a => i a * dl a J + smQ (fun r => i a * v a r * P r J) m) (n := m) (fun a ha => by
    show i a * v a J = i a * dl a J + smQ (fun r => i a * v a r * P r J) m
    have q := smQ_mul (f := fun r => v a r * P r J) (c := i a) (n := m)
    have q2 := smQ_c (f := fun r => i a * v a r * P r J) (g := fun r => v a r * P r J * i a) (n := m) (fun r _ => by grind)
    have hh := h a J ha hJ
    rw [q2, q]
    generalize smQ (fun r => v a r * P r J) m = A at hh ⊢
    rw [hh]
    grind)
  have e2 := smQ_add (f := fun a => i a * dl a J) (g := fun a => smQ (fun r => i a * v a r * P r J) m) (n := m)
  have e3 : ∀ n, smQ (fun a => i a * dl a J) n = if J < n then i J else 0 := fun n => by
    induction n with
    | zero => rfl
    | succ n ih =>
      show smQ (fun a => i a * dl a J) n + i n * dl n J = _
      rw [ih]
      unfold dl
      by_cases c : J < n
      · rw [if_pos c, if_neg (show ¬ n = J by omega), if_pos (show J < n + 1 by omega), Rat.mul_zero, Rat.add_zero]
      · by_cases d : n = J
        · rw [if_neg c, if_pos d, if_pos (by omega), Rat.mul_one, Rat.zero_add, d]
        · rw [if_neg c, if_neg d, if_neg (by omega), Rat.mul_zero, Rat.add_zero]
  have e4 := sQ_sw15 (f := fun a r => i a * v a r * P r J) (n := m) (m := m)
  have e5 := smQ_c (f := fun r => smQ (fun a => i a * v a r * P r J) m) (g := fun r => smQ (fun a => i a * v a r) m * P r J) (n := m) (fun r _ => smQ_mul (f := fun a => i a * v a r) (c := P r J) (n := m))
  rw [e1, e2, e3, if_pos hJ, e4, e5]
theorem iF_e15 {σ τ : rS} {s : Nat} {t : Int32} (h96 : ∀ k, k < s → τ.2.2.1 96 k = σ.2.2.1 96 k) (h102 : ∀ k, k < s → σ.2.2.1 96 k ≠ 0 → vQ15 τ k = vQ15 σ k) (hr : ∀ g, g = 76 ∨ g = 77 ∨ g = 78 ∨ g = 79 ∨ g = 80 ∨ g = 81 ∨ g = 83 → τ.2.2.1 g = σ.2.2.1 g) : iF15 τ s t = iF15 σ s t := by
  unfold iF15
  congr 1
  refine smQ_c (fun k hk => ?_)
  unfold fl15 fp15 wpI wcI twI tTI leN loN
  rw [h96 k hk, hr 76 (by decide), hr 77 (by decide), hr 78 (by decide), hr 79 (by decide), hr 80 (by decide), hr 81 (by decide), hr 83 (by decide)]
  by_cases c : σ.2.2.1 96 k = 0
  · rw [if_pos c, if_pos c]
  · rw [if_neg c, if_neg c, h102 k hk c]
/-- a state's visits as they are kept -/
def vR15 (σ : rS) (k : Nat) (q : Rat) : Prop := slV σ 102 (34 * k) = q.num.natAbs ∧ slV σ 102 (34 * k + 17) = q.den ∧ 0 ≤ q
theorem vR_q15 {σ : rS} {k : Nat} {q : Rat} (h : vR15 σ k q) : vQ15 σ k = q := by
  have n0 : 0 ≤ q.num := Rat.num_nonneg.mpr h.2.2
  unfold vQ15
  rw [h.1, h.2.1, Int.natAbs_of_nonneg n0]
  exact Rat.mkRat_self q
theorem vR_e15 {σ τ : rS} {k : Nat} {q : Rat} (h : ∀ i, 34 * k ≤ i → i < 34 * k + 34 → τ.2.2.1 102 i = σ.2.2.1 102 i) (hv : vOK σ k) (H : vR15 σ k q) : vR15 τ k q := by
  have a := slc_e (c := 34 * k) (fun i h1 h2 => h i (by omega) (by omega)) hv.1
  have b := slc_e (c := 34 * k + 17) (fun i h1 h2 => h i (by omega) (by omega)) hv.2.1
  exact ⟨a.2.trans H.1, b.2.trans H.2.1, H.2.2⟩
theorem vR_f15 {σ τ : rS} {k : Nat} {q : Rat} (h : τ.2.2.1 102 = σ.2.2.1 102) (H : vR15 σ k q) : vR15 τ k q := by
  unfold vR15 at *
  rw [(sl_f (m := 16) h).1, (sl_f (m := 16) h).1]
  exact H
theorem vQ_e15 {σ τ : rS} {k : Nat} (h : ∀ i, 34 * k ≤ i → i < 34 * k + 34 → τ.2.2.1 102 i = σ.2.2.1 102 i) (hv : vOK σ k) : vQ15 τ k = vQ15 σ k := by
  have a := slc_e (c := 34 * k) (fun i h1 h2 => h i (by omega) (by omega)) hv.1
  have b := slc_e (c := 34 * k + 17) (fun i h1 h2 => h i (by omega) (by omega)) hv.2.1
  unfold vQ15
  rw [a.2, b.2]
theorem vs_g15 {P : Nat → Nat → Rat} {m a : Nat} {v w : Nat → Rat} (h : vsI P m a v) (e : ∀ k, k < m → w k = v k) : vsI P m a w := fun k hk => by
  have q := h k hk
  rw [e k hk, q]
  congr 1
  exact smQ_c (fun r hr => by rw [e r (by omega)])
theorem ft_l15 {τ : rS} {p : Rat} (h : hS τ p) (o4 : numO τ 4) (o5 : numO τ 5) : (nL τ 4 ≤ 16 ∧ nL τ 5 ≤ 16) ↔ ftW8 p := by
  obtain ⟨N4, N5, _⟩ := hS_n8 h
  unfold ftW8
  rw [← N4, ← N5]
  exact ⟨fun z => ⟨nV_lt o4 z.1, nV_lt o5 z.2⟩, fun z => ⟨nL_lt o4 z.1, nL_lt o5 z.2⟩⟩
theorem nl_c15 {τ : rS} {j : Int32} {k : Nat} (e : j.toNatClampNeg = k) (o : numO τ k) (h : 16 < rd τ 91 j) : ¬ nL τ k ≤ 16 := fun z => by
  rw [lti, show (16 : Int32).toInt = 16 from rfl] at h
  unfold rd at h
  rw [e] at h
  have c := cnk (x := τ.2.2.1 91 k) (by omega)
  have z : (τ.2.2.1 91 k).toNatClampNeg ≤ 16 := z
  omega
/-- what a ring's state b comes to -/
def xr15 (σ ρ : rS) (m s b : Nat) : Rat := smQ (fun a => iF15 σ s (σ.2.2.1 99 a) * sQ ρ (1152 + 32 * a + b)) m
def eR15 (σ : rS) (m s : Nat) (x : Nat → Rat) : Prop := ∀ b, b < m → x b = iF15 σ s (σ.2.2.1 99 b) + smQ (fun r => x r * rP σ m r b) m
def nm15 (σ τ : rS) (m : Nat) : Prop := ∀ k, (∀ b, b < m → mN σ b ≠ k) → ∀ i, 34 * k ≤ i → i < 34 * k + 34 → τ.2.2.1 102 i = σ.2.2.1 102 i
def K15 (σ ρ τ : rS) (m s : Nat) (l1 l2 : Int32) : Prop := eR15 σ m s (xr15 σ ρ m s) ∧ τ.2.2.1 93 = ρ.2.2.1 93 ∧ τ.2.2.1 96 = σ.2.2.1 96 ∧ nm15 σ τ m ∧ (l1 ≠ 0 → ∀ b, b < l2.toNatClampNeg → b < m → ftW8 (xr15 σ ρ m s b) ∧ vR15 τ (mN σ b) (xr15 σ ρ m s b)) ∧ (l1 = 0 → ∃ b, b < m ∧ ¬ ftW8 (xr15 σ ρ m s b))
def RS15 (σ τ : rS) (m s : Nat) (v : Int32) : Prop := (∃ x : Nat → Rat, eR15 σ m s x ∧ ((v ≠ 0 ∧ ∀ b, b < m → ftW8 (x b) ∧ vR15 τ (mN σ b) (x b)) ∨ (v = 0 ∧ ∃ b, b < m ∧ ¬ ftW8 (x b)))) ∧ nm15 σ τ m
def mk15 (σ τ : rS) (n : Nat) : Prop := ∀ k, τ.2.2.1 96 k ≠ 0 ↔ σ.2.2.1 96 k ≠ 0 ∨ ∃ b, b < n ∧ mN σ b = k
theorem K_R15 {σ ρ τ : rS} {m s : Nat} {l1 l2 : Int32} (h : K15 σ ρ τ m s l1 l2) (e : l1 ≠ 0 → m ≤ l2.toNatClampNeg) : RS15 σ τ m s l1 ∧ mk15 σ τ 0 := by
  obtain ⟨h1, h2, h3, h4, h5, h6⟩ := h
  refine ⟨⟨⟨xr15 σ ρ m s, h1, ?_⟩, h4⟩, fun k => by rw [h3]; exact ⟨fun z => Or.inl z, fun z => z.elim (fun y => y) (fun ⟨b, hb, _⟩ => absurd hb (Nat.not_lt_zero b))⟩⟩
  by_cases c : l1 = 0
  · exact Or.inr ⟨c, h6 c⟩
  · exact Or.inl ⟨c, fun b hb => h5 c b (by have := e c; omega) hb⟩
theorem solveRing_g5 {C : rCx} (hC : cOK C) (m s : Nat) {σ : rS}  {Q : Int32 → rS → Prop} (hD9 : ∀ b, b < m → σ.2.2.1 96 (mN σ b) = 0) (hp : pOK σ ∧ 0 < σ.1 100 ∧ σ.1 100 ≤ 32 ∧ m = (σ.1 100).toNatClampNeg ∧ mbO σ m ∧ (∀ r, r < m → cnE σ (mN σ r)) ∧ s = (σ.1 70).toNatClampNeg ∧ (∀ k, k < s → vOK σ k)) (h : ∀ (v : Int32) (σ' : rS), ((frV σ σ' ∧ nb v ∧ (v ≠ 0 → ∀ k, k < s → vOK σ' k)) ∧ (RS15 σ σ' m s v ∧ mk15 σ σ' m)) → Q v σ') : cI C 7 m_solveRing [.ref (co C)] σ Q := by
  refine m_solveRing_run hC ?_
  unfold w_solveRing_0
  obtain ⟨hO, h0, h1, hm, hM, hEc, hs, hv⟩ := hp
  have m32 : m ≤ 32 := by rw [hm]; exact cn_le (y := 32) rfl h1
  have h1k : σ.1 100 ≤ 1000 := Int32.le_trans h1 (by decide)
  have hh125 : ∀ (l1 : Int32) (l2 : Int32) (τ : rS), ((frV σ τ ∧ nb l1 ∧ 0 ≤ l2 ∧ l2 ≤ σ.1 100 ∧ (l1 ≠ 0 → ∀ k, k < s → vOK τ k)) ∧ RS15 σ τ m s l1 ∧ mk15 σ τ l2.toNatClampNeg) → w_solveRing_125 C Q  l1 l2 τ := by
    intro z1 z2 τi hinit
    unfold w_solveRing_125
    refine ⟨fun n l1 l2 τ => n = (σ.1 100 - l2).toNatClampNeg ∧ ((frV σ τ ∧ nb l1 ∧ 0 ≤ l2 ∧ l2 ≤ σ.1 100 ∧ (l1 ≠ 0 → ∀ k, k < s → vOK τ k)) ∧ RS15 σ τ m s l1 ∧ mk15 σ τ l2.toNatClampNeg), ⟨_, rfl, hinit⟩, ?_⟩
    clear hinit
    rintro n125 x125_1 x125_2 σ125 ⟨hn125, i125, hE⟩
    obtain ⟨F, n1, a0, a1, V⟩ := i125
    have e100 := F.1 100 (by decide)
    have e99 := F.2.2.1 99 (by decide) (by decide) (by decide) (by decide) (by decide)
    rw [e100, e99]
    refine ⟨fun c1 => ?_, fun c1 => ?_⟩
    · skip
      refine ⟨?_, h _ _ ?_⟩
      · clear h; exact n1  -- b1
      · refine and_5 ?_ (fun o9 => ?_)  -- q2
        · clear h; exact ⟨F, n1, V⟩
        · clear o9
          have e : x125_2 = σ.1 100 := Int32.le_antisymm a1 c1
          rw [e, ← hm] at hE
          exact hE
    · skip
      have u := uk a0 c1 h1k
      have am : x125_2.toNatClampNeg < m := by rw [hm]; exact cn_lt a0 u.2.2.2.2.1
      have k := hM.1 x125_2.toNatClampNeg am
      have k1 := Int32.lt_of_lt_of_le k.2 hO.1.1.2
      refine ⟨ib_1000.mpr ?_, ?_⟩
      · clear h; exact ⟨a0, u.2.2.2.2.2⟩  -- b3
      refine ⟨ib_1000.mpr ?_, ?_⟩
      · clear h; exact ⟨k.1, k1⟩  -- b4
      intro σ_2 hσ_2
      intro x3 hx3
      refine lp_b5 (cn_lt2 hn125 ?_ ?_) (fun d9 => ⟨rfl, ?_⟩)
      · clear h; rw [hx3]; exact u.1  -- d5
      · clear h; rw [hx3]; exact u.2.1  -- d6
      · refine and_5 ?_ (fun o9 => ?_)  -- i7
        · clear h; rw [hx3, hσ_2]
          exact ⟨frV_tr F frV_1, n1, u.2.2.1, u.2.2.2.1, fun z k hk => vOK_f (ri3 (by decide)) (V z k hk)⟩
        · clear o9
          rw [hx3, cn_succ a0 (Int32.lt_trans u.2.2.2.2.2 (by decide)), hσ_2]
          obtain ⟨⟨⟨x, x1, x2⟩, h4⟩, hk⟩ := hE
          refine ⟨⟨⟨x, x1, ?_⟩, fun k hk i i1 i2 => by rw [ri3 (by decide)]; exact h4 k hk i i1 i2⟩, fun k => ?_⟩
          · rcases x2 with ⟨y1, y2⟩ | y
            · exact Or.inl ⟨y1, fun b hb => ⟨(y2 b hb).1, vR_f15 (ri3 (by decide)) (y2 b hb).2⟩⟩
            · exact Or.inr y
          · rw [ri34, if_pos rfl]
            by_cases c : k = mN σ x125_2.toNatClampNeg
            · have n1' : (vp_nar .boolean 1 : Int32) ≠ 0 := by decide
              rw [if_pos (show k = (σ.2.2.1 99 x125_2.toNatClampNeg).toNatClampNeg from c)]
              exact ⟨fun _ => Or.inr ⟨x125_2.toNatClampNeg, by omega, c.symm⟩, fun _ => n1'⟩
            · rw [if_neg (show ¬ k = (σ.2.2.1 99 x125_2.toNatClampNeg).toNatClampNeg from c), hk k]
              refine or_congr Iff.rfl ⟨fun ⟨b, b1, b2⟩ => ⟨b, by omega, b2⟩, fun ⟨b, b1, b2⟩ => ⟨b, ?_, b2⟩⟩
              by_cases z : b = x125_2.toNatClampNeg
              · rw [z] at b2
                exact absurd b2.symm c
              · omega
  refine layRing_c hC m ?_ (fun σ_4 q5 => ?_)
  · clear h; exact ⟨hO, h0, h1, hm, hM⟩  -- p8
  have e4 := q5.1.1 100 (by decide)
  refine foldRing_c hC (P := rP σ m) (T := riT σ) (K := rK σ m) (m := m) ?_ (fun σ_6 q7 => ?_)
  · clear h; rw [e4]; exact ⟨h0, h1, hm, rP_Mk hO hM hEc, rP_whl hO hM, q5.2⟩  -- p9
  unfold w_solveRing_10
  refine ⟨fun n l1 τ => n = (σ.1 100 - l1).toNatClampNeg ∧ ((frK [0, 1, 2, 3, 4, 5, 6, 7, 8, 9, 10, 11, 12, 13, 14] 0 (260 * 2176) σ τ ∧ 0 ≤ l1 ∧ l1 ≤ σ.1 100 ∧ fdJ τ (rP σ m) m (stF m m) 0 ∧ ∀ a k, a < l1.toNatClampNeg → k < m → ∃ q, hL τ (1152 + 32 * a + k) q) ∧ ∀ a, a < l1.toNatClampNeg → vsI (rP σ m) m a (fun k => sQ τ (1152 + 32 * a + k))), ⟨_, rfl, ?_⟩, ?_⟩
  · refine and_5 ?_ (fun o9 => ?_)  -- j10
    · clear h; have F6 : frK [0, 1, 2, 3, 4, 5, 6, 7, 8, 9, 10, 11, 12, 13, 14] 0 (260 * 2176) σ σ_6 := frK_tr (frK_w q5.1 (sub_of rfl) (by omega) (by omega)) (frK_w q7.1 (fun k hk => hk) (by omega) (by omega))
      exact ⟨F6, by decide, Int32.le_of_lt h0, q7.2, fun a k ha => absurd ha (Nat.not_lt_zero a)⟩
    · clear o9
      exact fun a ha => absurd ha (Nat.not_lt_zero a)
  rintro n10 x10_1 σ10 ⟨hn10, i10, hE⟩
  obtain ⟨F, a0, a1, J, H⟩ := i10
  have e100 := F.1 100 (by decide)
  rw [e100]
  refine ⟨fun c8 => ?_, fun c8 => ?_⟩
  · skip
    unfold w_solveRing_33
    refine ⟨fun n l1 l2 τ => n = (σ.1 100 - l2).toNatClampNeg ∧ ((frV σ τ ∧ nb l1 ∧ 0 ≤ l2 ∧ l2 ≤ σ.1 100 ∧ (∀ a k, a < m → k < m → ∃ q, hL τ (1152 + 32 * a + k) q) ∧ (l1 ≠ 0 → ∀ k, k < s → vOK τ k)) ∧ K15 σ σ10 τ m s l1 l2), ⟨_, rfl, ?_⟩, ?_⟩
    · refine and_5 ?_ (fun o9 => ?_)  -- j11
      · clear h; have e : x10_1 = σ.1 100 := Int32.le_antisymm a1 c8
        rw [e, ← hm] at H
        exact ⟨frV_K F, nb_1, by decide, Int32.le_of_lt h0, H, fun _ k hk => vOK_f (F.2.2.1 102 (by decide) (by decide) (by decide)) (hv k hk)⟩
      · clear o9
        have e : x10_1 = σ.1 100 := Int32.le_antisymm a1 c8
        rw [e, ← hm] at hE
        have M := rP_Mk hO hM hEc
        refine ⟨fun b hb => rs_15 (v := fun a J => sQ σ10 (1152 + 32 * a + J)) (i := fun a => iF15 σ s (σ.2.2.1 99 a)) (fun a J ha hJ => vs_e15 M (hE a ha) hJ) b hb, rfl, F.2.2.1 96 (by decide) (by decide) (by decide), fun k _ i _ _ => by rw [F.2.2.1 102 (by decide) (by decide) (by decide)], fun _ b hb => absurd hb (Nat.not_lt_zero b), fun z => absurd z (by decide)⟩
    rintro n33 x33_1 x33_2 σ33 ⟨hn33, i33, hE⟩
    have hj106 : ∀ (l2 : Int32) (s0 : Int32) (τ : rS), ((l2 = x33_2 ∧ nb s0 ∧ ¬ σ.1 100 ≤ x33_2 ∧ x33_1 ≠ 0 ∧ frV σ τ ∧ frS [0, 1, 2, 3, 4, 5, 6, 7, 8, 9, 10, 11, 12, 13, 14] σ33 τ ∧ numO τ 4 ∧ numO τ 5 ∧ 0 < nV τ 5 ∧ (s0 ≠ 0 → nL τ 4 ≤ 16 ∧ nL τ 5 ≤ 16)) ∧ K15 σ σ10 σ33 m s x33_1 x33_2 ∧ (hS τ (xr15 σ σ10 m s x33_2.toNatClampNeg) ∧ 0 ≤ xr15 σ σ10 m s x33_2.toNatClampNeg) ∧ (s0 ≠ 0 ↔ ftW8 (xr15 σ σ10 m s x33_2.toNatClampNeg))) → w_solveRing_106 C Q (fun l1' l2' τ => ∃ k < n33, (fun n l1 l2 τ => n = (σ.1 100 - l2).toNatClampNeg ∧ ((frV σ τ ∧ nb l1 ∧ 0 ≤ l2 ∧ l2 ≤ σ.1 100 ∧ (∀ a k, a < m → k < m → ∃ q, hL τ (1152 + 32 * a + k) q) ∧ (l1 ≠ 0 → ∀ k, k < s → vOK τ k)) ∧ K15 σ σ10 τ m s l1 l2)) k l1' l2' τ) l2 s0 τ := by
      rintro y106_2 y106_s0 τ106 ⟨j106, hE⟩
      unfold w_solveRing_106
      obtain ⟨G, n33', b0, b1, H33, V33⟩ := i33
      obtain ⟨y1, y2, y3, y4, Fy, Sy, o4, o5, p5, L⟩ := j106
      have v := uk b0 y3 h1k
      have bm : x33_2.toNatClampNeg < m := by rw [hm]; exact cn_lt b0 v.2.2.2.2.1
      have k := hM.1 x33_2.toNatClampNeg bm
      have k1 := Int32.lt_of_lt_of_le k.2 hO.1.1.2
      have e99 := Fy.2.2.1 99 (by decide) (by decide) (by decide) (by decide) (by decide)
      rw [e99, y1]
      refine ⟨ib_1000.mpr ?_, ?_⟩
      · clear h; exact ⟨b0, v.2.2.2.2.2⟩  -- b12
      refine keepVisits_c hC  ?_ (fun σ_9 q10 => ?_)
      · clear h; exact ⟨k.1, k1, o4, o5⟩  -- p13
      intro x11 hx11
      refine lp_b5 (cn_lt2 hn33 ?_ ?_) (fun d9 => ⟨rfl, ?_⟩)
      · clear h; rw [hx11]; exact v.1  -- d14
      · clear h; rw [hx11]; exact v.2.1  -- d15
      · refine and_5 ?_ (fun o9 => ?_)  -- i16
        · clear h; rw [hx11]
          refine ⟨frV_tr Fy (frV_R q10.1), y2, v.2.2.1, v.2.2.2.1, fun a k ha hk => ?_, fun z k hk => ?_⟩
          · obtain ⟨q, hq⟩ := H33 a k ha hk
            exact ⟨q, hL_e (fun i _ _ => by rw [q10.1.2.2.1 93 (by decide), Sy.2.2.1 93 (by decide) (by decide)]) hq⟩
          · by_cases e : k = (σ.2.2.1 99 x33_2.toNatClampNeg).toNatClampNeg
            · have l := L z
              have s4 := q10.2.1 l.1
              have s5 := q10.2.2 l.2
              rw [e]
              exact ⟨s4.1, s5.1, by rw [s5.2]; exact p5⟩
            · exact vOK_e (fun i i1 i2 => q10.1.2.2.2.2 i (by omega)) (vOK_f (Sy.2.2.1 102 (by decide) (by decide)) (V33 y4 k hk))
        · clear o9
          obtain ⟨⟨k1', k2, k3, k4, k5, k6⟩, ⟨s1, s2⟩, s3⟩ := hE
          have as := cn_succ b0 (Int32.lt_trans v.2.2.2.2.2 (by decide))
          rw [hx11]
          unfold K15
          rw [as]
          refine ⟨k1', ?_, ?_, fun k hk i i1 i2 => ?_, fun z b hb hbm => ?_, fun z => ⟨x33_2.toNatClampNeg, bm, fun y => s3.mpr y z⟩⟩
          · rw [q10.1.2.2.1 93 (by decide), Sy.2.2.1 93 (by decide) (by decide)]; exact k2
          · rw [q10.1.2.2.1 96 (by decide), Sy.2.2.1 96 (by decide) (by decide)]; exact k3
          · have ne := hk x33_2.toNatClampNeg bm
            unfold mN at ne
            rw [q10.1.2.2.2.2 i (by omega), Sy.2.2.1 102 (by decide) (by decide)]
            exact k4 k hk i i1 i2
          · by_cases c : b = x33_2.toNatClampNeg
            · have l := L z
              have s4 := q10.2.1 l.1
              have s5 := q10.2.2 l.2
              obtain ⟨N4, N5, _⟩ := hS_n8 s1
              rw [c]
              exact ⟨s3.mp z, s4.2.trans N4, s5.2.trans N5, s2⟩
            · have y := k5 y4 b (by omega) hbm
              refine ⟨y.1, ?_⟩
              have kb := hM.1 b hbm
              have ks : mN σ b < s := by rw [hs]; exact cn_lt kb.1 kb.2
              have ne : mN σ b ≠ (σ.2.2.1 99 x33_2.toNatClampNeg).toNatClampNeg := fun e => c (hM.2 _ _ hbm bm (cj_15 kb.1 k.1 e))
              refine vR_e15 (σ := σ33) (fun i i1 i2 => ?_) (V33 y4 _ ks) y.2
              rw [q10.1.2.2.2.2 i (by omega), Sy.2.2.1 102 (by decide) (by decide)]
    obtain ⟨G, n33', b0, b1, H33, V33⟩ := i33
    have g100 := G.1 100 (by decide)
    rw [g100]
    refine ⟨fun c12 => ?_, fun c12 => ?_⟩
    · skip
      refine hh125 _ _ _ ?_
      · refine and_5 ?_ (fun o9 => ?_)  -- j17
        · clear h; exact ⟨G, n33', by decide, Int32.le_of_lt h0, V33⟩
        · clear o9
          have e : x33_2 = σ.1 100 := Int32.le_antisymm b1 c12
          exact K_R15 hE (fun _ => by rw [e, ← hm]; exact Nat.le_refl _)
    · skip
      refine ⟨fun c13 => ?_, fun c13 => ?_⟩
      · skip
        refine hh125 _ _ _ ?_
        · refine and_5 ?_ (fun o9 => ?_)  -- j18
          · clear h; exact ⟨G, n33', by decide, Int32.le_of_lt h0, V33⟩
          · clear o9
            exact K_R15 hE (fun z => absurd c13 z)
      · skip
        refine clearSum_c hC  (fun σ_14 q15 => ?_)
        unfold w_solveRing_51
        refine ⟨fun n l2 l3 τ => n = (σ.1 100 - l3).toNatClampNeg ∧ ((l2 = x33_2 ∧ 0 ≤ l3 ∧ l3 ≤ σ.1 100 ∧ frV σ τ ∧ frS [0, 1, 2, 3, 4, 5, 6, 7, 8, 9, 10, 11, 12, 13, 14] σ33 τ ∧ siJ σ33 τ s (20001 * l3.toNatClampNeg) (prS (rgD σ33 x33_2.toNatClampNeg) l3.toNatClampNeg)) ∧ K15 σ σ10 σ33 m s x33_1 x33_2 ∧ hS τ (smQ (fun a => iF15 σ s (σ.2.2.1 99 a) * sQ σ10 (1152 + 32 * a + x33_2.toNatClampNeg)) l3.toNatClampNeg)), ⟨_, rfl, ?_⟩, ?_⟩
        · refine and_5 ?_ (fun o9 => ⟨hE, q15.2⟩)  -- j19
          clear h; exact ⟨rfl, by decide, Int32.le_of_lt h0, frV_tr G (frV_S q15.1), frS_mono q15.1 (sub_of rfl), siJ_0 q15.2⟩
        rintro n51 x51_2 x51_3 σ51 ⟨hn51, i51, hE⟩
        obtain ⟨f1, w0, w1, Fv, Fs, J⟩ := i51
        have h100 := Fv.1 100 (by decide)
        have h99 := Fv.2.2.1 99 (by decide) (by decide) (by decide) (by decide) (by decide)
        have hJ := J
        obtain ⟨S, S1, S2, -, -⟩ := hJ
        have R := hS_nn S1 S2
        rw [h100, h99, f1]
        refine ⟨fun c16 => ?_, fun c16 => ?_⟩
        · skip
          refine isLong_c hC  ?_ (fun r17 q19 => ?_)
          · clear h; exact ⟨by decide, by decide⟩  -- p20
          refine ⟨fun c20 => ?_, fun c20 => ?_⟩
          · skip
            refine hj106 _ _ _ ?_
            · refine and_5 ?_ (fun o9 => ?_)  -- k21
              · clear h; exact ⟨rfl, nb_0, c12, c13, Fv, Fs, R.1, R.2.1, (hR_q R).2, fun z => absurd rfl z⟩
              · clear o9
                have e : x51_3 = σ.1 100 := Int32.le_antisymm w1 c16
                have hE2 := hE.2
                rw [e, ← hm] at hE2
                have x0 : 0 ≤ xr15 σ σ10 m s x33_2.toNatClampNeg := by
                  unfold xr15
                  rw [← hS_u8 S1 hE2]
                  exact S2
                refine ⟨hE.1, ⟨hE2, x0⟩, fun z => absurd rfl z, fun z => ?_⟩
                exact absurd ((ft_l15 hE2 R.1 R.2.1).mpr z).1 (nl_c15 rfl R.1 (q19.2.mp c20))
          · skip
            refine isLong_c hC  ?_ (fun r21 q23 => ?_)
            · clear h; exact ⟨by decide, by decide⟩  -- p22
            refine ⟨fun c24 => ?_, fun c24 => ?_⟩
            · skip
              refine hj106 _ _ _ ?_
              · refine and_5 ?_ (fun o9 => ?_)  -- k23
                · clear h; exact ⟨rfl, nb_0, c12, c13, Fv, Fs, R.1, R.2.1, (hR_q R).2, fun z => absurd rfl z⟩
                · clear o9
                  have e : x51_3 = σ.1 100 := Int32.le_antisymm w1 c16
                  have hE2 := hE.2
                  rw [e, ← hm] at hE2
                  have x0 : 0 ≤ xr15 σ σ10 m s x33_2.toNatClampNeg := by
                    unfold xr15
                    rw [← hS_u8 S1 hE2]
                    exact S2
                  refine ⟨hE.1, ⟨hE2, x0⟩, fun z => absurd rfl z, fun z => ?_⟩
                  exact absurd ((ft_l15 hE2 R.1 R.2.1).mpr z).2 (nl_c15 rfl R.2.1 (q23.2.mp c24))
            · skip
              refine hj106 _ _ _ ?_
              · refine and_5 ?_ (fun o9 => ?_)  -- k24
                · clear h; exact ⟨rfl, nb_1, c12, c13, Fv, Fs, R.1, R.2.1, (hR_q R).2, fun _ => ⟨cn_le (x := σ51.2.2.1 91 4) (y := 16) rfl (Int32.not_lt.mp (fun z => q19.2.mpr z c20)), cn_le (x := σ51.2.2.1 91 5) (y := 16) rfl (Int32.not_lt.mp (fun z => q23.2.mpr z c24))⟩⟩
                · clear o9
                  have e : x51_3 = σ.1 100 := Int32.le_antisymm w1 c16
                  have hE2 := hE.2
                  rw [e, ← hm] at hE2
                  have x0 : 0 ≤ xr15 σ σ10 m s x33_2.toNatClampNeg := by
                    unfold xr15
                    rw [← hS_u8 S1 hE2]
                    exact S2
                  exact ⟨hE.1, ⟨hE2, x0⟩, fun _ => (ft_l15 hE2 R.1 R.2.1).mp ⟨cn_le (x := σ51.2.2.1 91 4) (y := 16) rfl (Int32.not_lt.mp (fun z => q19.2.mpr z c20)), cn_le (x := σ51.2.2.1 91 5) (y := 16) rfl (Int32.not_lt.mp (fun z => q23.2.mpr z c24))⟩, fun _ => by decide⟩
        · skip
          have v := uk b0 c12 h1k
          have bm : x33_2.toNatClampNeg < m := by rw [hm]; exact cn_lt b0 v.2.2.2.2.1
          have b32 : x33_2 < 32 := Int32.lt_of_lt_of_le v.2.2.2.2.1 h1
          have w := uk w0 c16 h1k
          have wm : x51_3.toNatClampNeg < m := by rw [hm]; exact cn_lt w0 w.2.2.2.2.1
          have w32 : x51_3 < 32 := Int32.lt_of_lt_of_le w.2.2.2.2.1 h1
          have ws := cn_succ w0 (Int32.lt_trans w.2.2.2.2.2 (by decide))
          have ir := ixr (c := 1152) (by decide) (by decide) w0 w32 b0 b32
          have ir2 : (1152 + 32 * x51_3 + x33_2).toNatClampNeg = 1152 + 32 * x51_3.toNatClampNeg + x33_2.toNatClampNeg := ir.2
          have r93 := Fs.2.2.1 93 (by decide) (by decide)
          obtain ⟨q, hq⟩ := H33 x51_3.toNatClampNeg x33_2.toNatClampNeg wm bm
          have hq2 : hL σ51 (1152 + 32 * x51_3.toNatClampNeg + x33_2.toNatClampNeg) q := hL_e (fun i _ _ => by rw [r93]) hq
          have bq : byQ σ51 (1152 + 32 * x51_3 + x33_2) = q := by
            unfold byQ
            rw [if_neg (fun z => by have := ir.1.1; rw [z] at this; exact absurd this (by decide)), ir2]
            exact hL_q hq2
          have bo : byO σ51 (1152 + 32 * x51_3 + x33_2) := Or.inr ⟨ir.1.1, ir.1.2, by rw [ir2, hL_q hq2]; exact hq2⟩
          have dq : rgD σ33 x33_2.toNatClampNeg x51_3.toNatClampNeg = q.den := by unfold rgD; rw [hL_q hq]
          have ps : prS (rgD σ33 x33_2.toNatClampNeg) (x51_3.toNatClampNeg + 1) = prS (rgD σ33 x33_2.toNatClampNeg) x51_3.toNatClampNeg * q.den := by rw [← dq]; rfl
          have pb : prS (rgD σ33 x33_2.toNatClampNeg) (x51_3.toNatClampNeg + 1) ≤ 65536 ^ (129 * (x51_3.toNatClampNeg + 1)) := prS_le (fun i hi => by
            obtain ⟨q', hq'⟩ := H33 i x33_2.toNatClampNeg (by omega) bm
            have vl := sl_lt (M := 129) rfl hq'.2.1
            rw [hq'.2.2.2] at vl
            unfold rgD
            rw [hL_q hq']
            exact Nat.le_of_lt vl)
          have gg := gS_S Fs
          refine ⟨ib_1000.mpr ?_, ?_⟩
          · clear h; exact ⟨w0, w.2.2.2.2.2⟩  -- b25
          refine sumInflow_g5 hC s (prS (rgD σ33 x33_2.toNatClampNeg) x51_3.toNatClampNeg) (20001 * x51_3.toNatClampNeg) (129 * (x51_3.toNatClampNeg + 1)) _ hE.2 ?_ (fun σ_25 q26 => ?_)
          · clear h; rw [bq]
            exact ⟨pOK_V hO Fv, by rw [Fv.1 70 (by decide)]; exact hs, fun k hk _ => vOK_f (Fs.2.2.1 102 (by decide) (by decide)) (V33 c13 k hk), bo, siJ_g gg J, prS_pos (fun i _ => den0), by rw [← ps]; exact pb, by omega, by omega⟩
          obtain ⟨q26, z9⟩ := q26
          have zi := z9
          rw [bq] at q26
          intro x27 hx27
          refine lp_b5 (cn_lt2 hn51 ?_ ?_) (fun d9 => ⟨rfl, ?_⟩)
          · clear h; rw [hx27]; exact w.1  -- d27
          · clear h; rw [hx27]; exact w.2.1  -- d28
          · refine and_5 ?_ (fun o9 => ?_)  -- i29
            · clear h; rw [hx27, ws, ps, show 20001 * (x51_3.toNatClampNeg + 1) = 20001 * x51_3.toNatClampNeg + 20001 by omega]
              exact ⟨rfl, w.2.2.1, w.2.2.2.1, frV_tr Fv (frV_S q26.1), frS_tr Fs q26.1, siJ_g gg.symm q26.2⟩
            · clear o9
              obtain ⟨k1', k2, k3, k4, k5, k6⟩ := hE.1
              have eq : q = sQ σ10 (1152 + 32 * x51_3.toNatClampNeg + x33_2.toNatClampNeg) := by
                rw [← hL_q hq]
                unfold sQ slV
                rw [k2]
              have ei : iF15 σ51 s (σ.2.2.1 99 x51_3.toNatClampNeg) = iF15 σ s (σ.2.2.1 99 x51_3.toNatClampNeg) := iF_e15 (fun k _ => by rw [Fs.2.2.1 96 (by decide) (by decide), k3]) (fun k hk c => by
                rw [vQ_e15 (σ := σ33) (fun i _ _ => by rw [Fs.2.2.1 102 (by decide) (by decide)]) (V33 c13 k hk)]
                exact vQ_e15 (fun i i1 i2 => k4 k (fun b hb e => c (by rw [← e]; exact hD9 b hb)) i i1 i2) (hv k hk)) (fun g hg => Fv.2.2.1 g (by omega) (by omega) (by omega) (by omega) (by omega))
              rw [bq, ei, eq] at zi
              rw [hx27, ws]
              exact ⟨hE.1, zi⟩
  · skip
    have u := uk a0 c8 h1k
    have as := cn_succ a0 (Int32.lt_trans u.2.2.2.2.2 (by decide))
    refine visitFrom_c hC (P := rP σ m) (T := riT σ) (K := rK σ m) (m := m) ?_ (fun σ_28 q29 => ?_)
    · clear h; rw [e100]; exact ⟨h0, h1, hm, rP_Mk hO hM hEc, rP_whl hO hM, J, a0, u.2.2.2.2.1⟩  -- p30
    intro x30 hx30
    refine lp_b5 (cn_lt2 hn10 ?_ ?_) (fun d9 => ⟨rfl, ?_⟩)
    · clear h; rw [hx30]; exact u.1  -- d31
    · clear h; rw [hx30]; exact u.2.1  -- d32
    · refine and_5 ?_ (fun o9 => ?_)  -- i33
      · clear h; rw [hx30, as]
        refine ⟨frK_tr F (frK_w q29.1 (fun k hk => hk) (by omega) (by omega)), u.2.2.1, u.2.2.2.1, fdJ_kp m32 q29.2.1 J, fun a k ha hk => ?_⟩
        by_cases e : a = x10_1.toNatClampNeg
        · obtain ⟨v, -, hv2⟩ := q29.2.2
          rw [e]
          exact ⟨v k, hv2 k hk⟩
        · obtain ⟨q, hq⟩ := H a k (by omega) hk
          exact ⟨q, q29.2.1 _ _ (Or.inr ⟨by omega, by omega⟩) hq⟩
      · clear o9
        rw [hx30, as]
        intro a ha
        by_cases e : a = x10_1.toNatClampNeg
        · obtain ⟨v, v1, hv2⟩ := q29.2.2
          rw [e]
          exact vs_g15 v1 (fun k hk => hL_q (hv2 k hk))
        · have al : a < x10_1.toNatClampNeg := by omega
          refine vs_g15 (hE a al) (fun k hk => ?_)
          obtain ⟨q, hq⟩ := H a k al hk
          rw [hL_q hq]
          exact hL_q (q29.2.1 _ _ (Or.inr ⟨by omega, by omega⟩) hq)

end
