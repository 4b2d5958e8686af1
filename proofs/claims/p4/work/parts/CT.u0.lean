set_option maxHeartbeats 1600000
/-! the mathematics of a ring's elimination -/
theorem sgI_ad9 {f g : Nat → Int} : ∀ {n : Nat}, sgI (fun i => f i + g i) n = sgI f n + sgI g n
  | 0 => rfl
  | n + 1 => by
    have a := sgI_ad9 (f := f) (g := g) (n := n)
    show sgI (fun i => f i + g i) n + (f n + g n) = (sgI f n + f n) + (sgI g n + g n)
    omega
theorem sgI_mu9 {f : Nat → Int} {c : Int} : ∀ {n : Nat}, sgI (fun i => c * f i) n = c * sgI f n
  | 0 => (Int.mul_zero c).symm
  | n + 1 => by
    have a := sgI_mu9 (f := f) (c := c) (n := n)
    show sgI (fun i => c * f i) n + c * f n = c * (sgI f n + f n)
    rw [a, Int.mul_add]
theorem sgI_le9 {f g : Nat → Int} : ∀ {n : Nat}, (∀ i, i < n → f i ≤ g i) → sgI f n ≤ sgI g n
  | 0, _ => Int.le_refl _
  | n + 1, h => by
    have a := sgI_le9 (f := f) (g := g) (n := n) (fun i hi => h i (Nat.lt_succ_of_lt hi))
    have b := h n (Nat.lt_succ_self n)
    show sgI f n + f n ≤ sgI g n + g n
    omega
theorem sgI_sw9 {f : Nat → Nat → Int} {m : Nat} : ∀ {n : Nat}, sgI (fun i => sgI (f i) m) n = sgI (fun j => sgI (fun i => f i j) n) m
  | 0 => (sgI_z (f := fun j => sgI (fun i => f i j) 0) (fun _ _ => rfl)).symm
  | n + 1 => by
    have a := sgI_sw9 (f := f) (m := m) (n := n)
    have b := sgI_ad9 (f := fun j => sgI (fun i => f i j) n) (g := f n) (n := m)
    show sgI (fun i => sgI (f i) m) n + sgI (f n) m = sgI (fun j => sgI (fun i => f i j) n + f n j) m
    rw [b, a]
theorem sgI_p9 {f : Nat → Int} {n : Nat} (h : ∀ i, i < n → 0 ≤ f i) : 0 ≤ sgI f n := by
  have a := sgI_le9 (f := fun _ => 0) (g := f) (n := n) h
  have b := sgI_z (f := fun _ => (0 : Int)) (n := n) (fun _ _ => rfl)
  omega
/-- one place alone -/
theorem sgI_i9 {j n : Nat} {c : Int} (h : j < n) : sgI (fun i => if i = j then c else 0) n = c := by
  have a := sgI_up (f := fun _ => (0 : Int)) (g := fun i => if i = j then c else 0) (d := c) h (fun i _ hne => if_neg hne) (by rw [if_pos rfl]; omega)
  have b := sgI_z (f := fun _ => (0 : Int)) (n := n) (fun _ _ => rfl)
  omega
theorem sgI_on9 {f : Nat → Int} {j n : Nat} (h : j < n) (p : ∀ i, i < n → 0 ≤ f i) : f j ≤ sgI f n := by
  have a := sgI_le9 (f := fun i => if i = j then f j else 0) (g := f) (n := n) (fun i hi => by
    by_cases e : i = j
    · rw [if_pos e, e]; exact Int.le_refl _
    · rw [if_neg e]; exact p i hi)
  rw [sgI_i9 h] at a
  exact a
/-- at most one place -/
theorem sgI_am9 {t : Nat → Nat} {m x : Nat} {c : Int} (c0 : 0 ≤ c) (inj : ∀ i j, i < m → j < m → t i = t j → i = j) : sgI (fun i => if x = t i then c else 0) m ≤ c := by
  by_cases h : ∃ i, i < m ∧ x = t i
  · obtain ⟨j, hj, e⟩ := h
    have a := sgI_eq (f := fun i => if x = t i then c else 0) (g := fun i => if i = j then c else 0) (n := m) (fun i hi => by
      by_cases z : i = j
      · rw [if_pos z, z, if_pos e]
      · rw [if_neg z, if_neg (fun q => z (inj i j hi hj (by rw [← q, e])))])
    rw [a, sgI_i9 hj]
    exact Int.le_refl _
  · have a := sgI_z (f := fun i => if x = t i then c else 0) (n := m) (fun i hi => if_neg (fun q => h ⟨i, hi, q⟩))
    rw [a]
    exact c0
/-- onto, so one to one -/
theorem inj_9 {n : Nat} {f : Nat → Nat} (hf : ∀ i, i < n → f i < n) (hs : ∀ s, s < n → ∃ i, i < n ∧ f i = s) (i j : Nat) (hi : i < n) (hj : j < n) (e : f i = f j) : i = j := by
  by_cases z : i = j
  · exact z
  exfalso
  have sw := sgI_sw9 (f := fun k s => if s = f k then (1 : Int) else 0) (m := n) (n := n)
  have l : sgI (fun k => sgI (fun s => if s = f k then (1 : Int) else 0) n) n = sgI (fun _ => (1 : Int)) n := sgI_eq (fun k hk => sgI_i9 (hf k hk))
  have r : sgI (fun s => 1 + if s = f i then (1 : Int) else 0) n ≤ sgI (fun s => sgI (fun k => if s = f k then (1 : Int) else 0) n) n := sgI_le9 (fun s hs9 => by
    by_cases q : s = f i
    · rw [if_pos q]
      have a := sgI_le9 (f := fun k => (if k = i then (1 : Int) else 0) + if k = j then 1 else 0) (g := fun k => if s = f k then (1 : Int) else 0) (n := n) (fun k hk => by
        by_cases k1 : k = i
        · rw [if_pos k1, if_neg (by omega), if_pos (by rw [k1, q])]
          decide
        · by_cases k2 : k = j
          · rw [if_neg k1, if_pos k2, if_pos (by rw [k2, q, e])]
            decide
          · rw [if_neg k1, if_neg k2]
            split <;> decide)
      rw [sgI_ad9, sgI_i9 hi, sgI_i9 hj] at a
      exact a
    · rw [if_neg q]
      obtain ⟨k0, h0, e0⟩ := hs s hs9
      have a := sgI_on9 (f := fun k => if s = f k then (1 : Int) else 0) h0 (fun k _ => by split <;> decide)
      rw [if_pos e0.symm] at a
      exact a)
  rw [sgI_ad9, sgI_i9 (hf i hi)] at r
  rw [l] at sw
  rw [← sw] at r
  omega
/-- what leads to different places weighs no more than all -/
theorem col_9 {m L : Nat} {c w : Nat → Int} {t g : Nat → Nat} (w0 : ∀ e, e < L → 0 ≤ w e) (inj : ∀ i j, i < m → j < m → t i = t j → i = j) (hc : ∀ i, i < m → c i = 0 ∨ ∃ e, e < L ∧ c i = w e ∧ g e = t i) : sgI c m ≤ sgI w L := by
  have a := sgI_le9 (f := c) (g := fun i => sgI (fun e => if g e = t i then w e else 0) L) (n := m) (fun i hi => by
    have p : ∀ e, e < L → 0 ≤ (if g e = t i then w e else 0) := fun e he => by
      split
      · exact w0 e he
      · exact Int.le_refl _
    rcases hc i hi with h | ⟨e, he, h1, h2⟩
    · rw [h]; exact sgI_p9 p
    · have q := sgI_on9 (f := fun e => if g e = t i then w e else 0) he p
      rw [if_pos h2] at q
      rw [h1]
      exact q)
  rw [sgI_sw9 (f := fun i e => if g e = t i then w e else 0)] at a
  exact Int.le_trans a (sgI_le9 (fun e he => sgI_am9 (w0 e he) inj))
/-- quotients of a sum -/
theorem sgI_dv9 {f : Nat → Int} {q : Int} (hq : 0 ≤ q) : ∀ {n : Nat}, sgI (fun i => f i / q) n ≤ sgI f n / q
  | 0 => by
    show (0 : Int) ≤ 0 / q
    rw [Int.zero_ediv]
    exact Int.le_refl _
  | n + 1 => by
    have a := sgI_dv9 (f := f) (q := q) hq (n := n)
    show sgI (fun i => f i / q) n + f n / q ≤ (sgI f n + f n) / q
    by_cases z : q = 0
    · subst z
      simp only [Int.ediv_zero] at a ⊢
      omega
    · refine Int.le_trans (Int.add_le_add_right a _) ?_
      refine Int.le_ediv_of_mul_le (by omega) ?_
      rw [Int.add_mul]
      exact Int.add_le_add (Int.ediv_mul_le _ z) (Int.ediv_mul_le _ z)
/-- what stands in a column but for its own place -/
def cS9 (M : Nat → Nat → Nat) (p m j : Nat) : Int := sgI (fun i => if p ≤ i ∧ i ≠ j then (M i j : Int) else 0) m
def nB9 (M : Nat → Nat → Nat) (p q i j : Nat) : Nat := (if i = j then M p p * M i j - M i p * M p j else M p p * M i j + M i p * M p j) / q
/-- one step -/
def eM9 (M : Nat → Nat → Nat) (m p q : Nat) : Nat → Nat → Nat := fun i j => if (p < i ∧ i < m) ∧ p < j ∧ (j < m ∨ j = 32) then nB9 M p q i j else M i j
theorem cS9_g {M : Nat → Nat → Nat} {p m j i : Nat} (h1 : p ≤ i) (h2 : i < m) (h3 : i ≠ j) : (M i j : Int) ≤ cS9 M p m j := by
  have a := sgI_on9 (f := fun i => if p ≤ i ∧ i ≠ j then (M i j : Int) else 0) h2 (fun k _ => by split <;> omega)
  rw [if_pos ⟨h1, h3⟩] at a
  exact a
theorem ab_9 {a b c d s t : Int} (a0 : 0 ≤ a) (b0 : 0 ≤ b) (hs : s + b ≤ d) (ht : t + c ≤ a) : a * s + b * t ≤ a * d - b * c := by
  have h1 : a * s ≤ a * (d - b) := Int.mul_le_mul_of_nonneg_left (by omega) a0
  have h2 : b * t ≤ b * (a - c) := Int.mul_le_mul_of_nonneg_left (by omega) b0
  rw [Int.mul_sub] at h1 h2
  rw [Int.mul_comm b a] at h2
  omega
theorem dom_9 {M : Nat → Nat → Nat} {m p q j : Nat} (H : ∀ j, p ≤ j → j < m → cS9 M p m j ≤ M j j) (h1 : p < j) (h2 : j < m) : cS9 (eM9 M m p q) (p + 1) m j ≤ eM9 M m p q j j ∧ M j p * M p j ≤ M p p * M j j := by
  have s1 : cS9 M p m j = sgI (fun i => if p + 1 ≤ i ∧ i ≠ j then (M i j : Int) else 0) m + M p j := sgI_up (j := p) (by omega) (fun i _ hne => by
    by_cases z : p + 1 ≤ i ∧ i ≠ j
    · rw [if_pos z, if_pos ⟨by omega, z.2⟩]
    · rw [if_neg z, if_neg (fun y => z ⟨by omega, y.2⟩)]) (by rw [if_pos ⟨by omega, by omega⟩, if_neg (by omega)]; omega)
  have s2 : cS9 M p m p = sgI (fun i => if p + 1 ≤ i ∧ i ≠ j then (M i p : Int) else 0) m + M j p := sgI_up (j := j) h2 (fun i _ hne => by
    by_cases z : p + 1 ≤ i ∧ i ≠ j
    · rw [if_pos z, if_pos ⟨by omega, by omega⟩]
    · rw [if_neg z, if_neg (fun y => z ⟨by omega, hne⟩)]) (by rw [if_pos ⟨by omega, by omega⟩, if_neg (by omega)]; omega)
  have Hj := H j (by omega) h2
  have Hp := H p (by omega) (by omega)
  have s3 : sgI (fun i => if p + 1 ≤ i ∧ i ≠ j then (((M p p * M i j + M i p * M p j : Nat) : Nat) : Int) else 0) m = (M p p : Int) * sgI (fun i => if p + 1 ≤ i ∧ i ≠ j then (M i j : Int) else 0) m + (M p j : Int) * sgI (fun i => if p + 1 ≤ i ∧ i ≠ j then (M i p : Int) else 0) m := by
    rw [← sgI_mu9, ← sgI_mu9, ← sgI_ad9]
    refine sgI_eq (fun i _ => ?_)
    by_cases z : p + 1 ≤ i ∧ i ≠ j
    · rw [if_pos z, if_pos z, if_pos z, Int.natCast_add, Int.natCast_mul, Int.natCast_mul, Int.mul_comm (M i p : Int)]
    · rw [if_neg z, if_neg z, if_neg z, Int.mul_zero, Int.mul_zero]; rfl
  have s4 := ab_9 (a := (M p p : Int)) (b := (M p j : Int)) (c := (M j p : Int)) (d := (M j j : Int)) (s := sgI (fun i => if p + 1 ≤ i ∧ i ≠ j then (M i j : Int) else 0) m) (t := sgI (fun i => if p + 1 ≤ i ∧ i ≠ j then (M i p : Int) else 0) m) (by omega) (by omega) (by omega) (by omega)
  rw [← s3] at s4
  have s5 : 0 ≤ sgI (fun i => if p + 1 ≤ i ∧ i ≠ j then (((M p p * M i j + M i p * M p j : Nat) : Nat) : Int) else 0) m := sgI_p9 (fun i _ => by split <;> omega)
  have le : M j p * M p j ≤ M p p * M j j := by
    have e1 : ((M j p * M p j : Nat) : Int) = (M p j : Int) * (M j p : Int) := by rw [Int.natCast_mul, Int.mul_comm]
    have e2 : ((M p p * M j j : Nat) : Int) = (M p p : Int) * (M j j : Int) := Int.natCast_mul _ _
    omega
  refine ⟨?_, le⟩
  have ej : eM9 M m p q j j = (M p p * M j j - M j p * M p j) / q := by
    unfold eM9 nB9
    rw [if_pos ⟨⟨h1, h2⟩, h1, Or.inl h2⟩, if_pos rfl]
  have ec : cS9 (eM9 M m p q) (p + 1) m j = sgI (fun i => (if p + 1 ≤ i ∧ i ≠ j then (((M p p * M i j + M i p * M p j : Nat) : Nat) : Int) else 0) / (q : Int)) m := by
    refine sgI_eq (fun i hi => ?_)
    by_cases z : p + 1 ≤ i ∧ i ≠ j
    · rw [if_pos z, if_pos z]
      unfold eM9 nB9
      rw [if_pos ⟨⟨by omega, hi⟩, h1, Or.inl h2⟩, if_neg z.2]
      exact Int.natCast_ediv _ _
    · rw [if_neg z, if_neg z, Int.zero_ediv]
  rw [ec, ej]
  refine Int.le_trans (sgI_dv9 (Int.natCast_nonneg q)) ?_
  rw [Int.natCast_ediv]
  by_cases z : q = 0
  · rw [z, show ((0 : Nat) : Int) = 0 from rfl, Int.ediv_zero, Int.ediv_zero]
    exact Int.le_refl _
  · refine Int.ediv_le_ediv (by omega) (Int.le_trans s4 ?_)
    rw [Int.ofNat_sub le, Int.natCast_mul, Int.natCast_mul, Int.mul_comm (M j p : Int)]
    exact Int.le_refl _
/-- an elimination on its way -/
def bz9 (M : Nat → Nat → Nat) (m p q X D : Nat) : Prop := q ≤ D ^ p ∧ (∀ j, p ≤ j → j < m → cS9 M p m j ≤ M j j ∧ M j j ≤ D * q) ∧ (∀ i, p ≤ i → i < m → M i 32 ≤ q * 2 ^ p * X) ∧ (∀ r c, r < p → r ≤ c → c < m → M r c ≤ D ^ (r + 1)) ∧ ∀ r, r < p → M r 32 ≤ D ^ r * 2 ^ r * X
theorem bz9_e {M : Nat → Nat → Nat} {m p q X D i j : Nat} (H : bz9 M m p q X D) (h1 : p ≤ i) (h2 : i < m) (h3 : p ≤ j) (h4 : j < m) : M i j ≤ M j j ∧ M j j ≤ D ^ (p + 1) := by
  obtain ⟨H1, H2, _⟩ := H
  have a := H2 j h3 h4
  refine ⟨?_, ?_⟩
  · by_cases z : i = j
    · rw [z]; exact Nat.le_refl _
    · have b := cS9_g (M := M) h1 h2 z
      omega
  · rw [Nat.pow_succ, Nat.mul_comm]
    exact Nat.le_trans a.2 (Nat.mul_le_mul_left _ H1)
theorem eM9_o {M : Nat → Nat → Nat} {m p q i j : Nat} (h : i ≤ p) : eM9 M m p q i j = M i j := by
  unfold eM9
  exact if_neg (fun z => by omega)
theorem bz9_s {M : Nat → Nat → Nat} {m p q X D : Nat} (hm : m ≤ 32) (hp : p < m) (H : bz9 M m p q X D) : bz9 (eM9 M m p q) m (p + 1) (M p p) X D := by
  have E := fun i j h1 h2 h3 h4 => bz9_e (i := i) (j := j) H h1 h2 h3 h4
  obtain ⟨H1, H2, H3, H4, H5⟩ := H
  have pp := (E p p (Nat.le_refl _) hp (Nat.le_refl _) hp).2
  refine ⟨pp, fun j h1 h2 => ⟨(dom_9 (q := q) (fun j a b => (H2 j a b).1) (by omega) h2).1, ?_⟩, fun i h1 h2 => ?_, fun r c h1 h2 h3 => ?_, fun r h1 => ?_⟩
  · unfold eM9 nB9
    rw [if_pos ⟨⟨by omega, h2⟩, by omega, Or.inl h2⟩, if_pos rfl]
    refine Nat.div_le_of_le_mul (Nat.le_trans (Nat.sub_le _ _) ?_)
    rw [← Nat.mul_assoc, Nat.mul_comm q D, Nat.mul_comm (M p p)]
    exact Nat.mul_le_mul_right _ (H2 j (by omega) h2).2
  · unfold eM9 nB9
    rw [if_pos ⟨⟨by omega, h2⟩, by omega, Or.inr rfl⟩, if_neg (by omega)]
    refine Nat.div_le_of_le_mul ?_
    have a1 : M p p * M i 32 ≤ M p p * (q * 2 ^ p * X) := Nat.mul_le_mul_left _ (H3 i (by omega) h2)
    have a2 : M i p * M p 32 ≤ M p p * (q * 2 ^ p * X) := Nat.mul_le_mul (E i p (by omega) h2 (Nat.le_refl _) hp).1 (H3 p (Nat.le_refl _) hp)
    have e : q * (M p p * 2 ^ (p + 1) * X) = M p p * (q * 2 ^ p * X) + M p p * (q * 2 ^ p * X) := by
      rw [← Nat.two_mul, Nat.pow_succ]
      simp only [Nat.mul_assoc, Nat.mul_comm, Nat.mul_left_comm]
    rw [e]
    exact Nat.add_le_add a1 a2
  · rw [eM9_o (by omega)]
    by_cases z : r = p
    · rw [z]
      have b := E p c (Nat.le_refl _) hp (by omega) h3
      exact Nat.le_trans b.1 b.2
    · exact H4 r c (by omega) h2 h3
  · rw [eM9_o (by omega)]
    by_cases z : r = p
    · rw [z]
      exact Nat.le_trans (H3 p (Nat.le_refl _) hp) (Nat.mul_le_mul_right _ (Nat.mul_le_mul_right _ H1))
    · exact H5 r (by omega)
/-- how long cells may be -/
theorem dp_9 {n : Nat} (h : n ≤ 32) : 8000000 ^ n < pB9 24 := by
  have a : 8000000 ^ n ≤ 8000000 ^ 32 := Nat.pow_le_pow_right (by decide) h
  have b : 8000000 ^ 32 < pB9 24 := by unfold pB9; decide
  exact Nat.lt_of_le_of_lt a b
