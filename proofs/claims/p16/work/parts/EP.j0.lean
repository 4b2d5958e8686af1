set_option maxHeartbeats 1600000
/-! the class: what its constructors leave, by a log of steps (0: an object at i of type t; 1: finished; 2: a row at i; 3: a row becomes a field's; 4: a reference, 5: a number, 6: a row's number stored) -/
def lgT9 : List (Nat × Nat × Nat × Nat) → Nat → Nat
  | [], _ => 0
  | e :: L, b => if (e.1 = 0 ∨ e.1 = 2) ∧ b = e.2.1 then e.2.2.1 else if e.1 = 1 ∧ b = e.2.1 then lgT9 L b - 40 else lgT9 L b
def lgN9 : List (Nat × Nat × Nat × Nat) → Nat → Nat
  | [], _ => 0
  | e :: L, b => if (e.1 = 0 ∨ e.1 = 2) ∧ b = e.2.1 then e.2.2.2 else lgN9 L b
def lgI9 : List (Nat × Nat × Nat × Nat) → Nat → Nat → Nat
  | [], _, _ => 0
  | e :: L, f, b => if e.1 = 0 ∧ b = e.2.1 then 0 else if e.1 = 5 ∧ f = e.2.1 ∧ b = e.2.2.1 then e.2.2.2 else lgI9 L f b
def lgR9 : List (Nat × Nat × Nat × Nat) → Nat → Nat → Nat
  | [], _, _ => 0
  | e :: L, f, b => if e.1 = 0 ∧ b = e.2.1 then 0 else if (e.1 = 3 ∨ e.1 = 4) ∧ f = e.2.1 ∧ b = e.2.2.1 then e.2.2.2 else lgR9 L f b
def lgA9 : List (Nat × Nat × Nat × Nat) → Nat → Nat → Nat
  | [], _, _ => 0
  | e :: L, b, j => if e.1 = 2 ∧ b = e.2.1 then 0 else if e.1 = 6 ∧ b = e.2.1 ∧ j = e.2.2.1 then e.2.2.2 else lgA9 L b j
def lgO9 : List (Nat × Nat × Nat × Nat) → Nat → Nat × Nat
  | [], _ => (0, 0)
  | e :: L, b => if e.1 = 2 ∧ b = e.2.1 then (0, 0) else if e.1 = 3 ∧ b = e.2.2.2 then (e.2.1, e.2.2.1) else lgO9 L b
def lgS9 : List (Nat × Nat × Nat × Nat) → Nat
  | [] => 0
  | e :: L => lgS9 L + (if e.1 = 0 then nN (e.2.2.1 - 40) else if e.1 = 2 then e.2.2.2 else 0)
def upk9 (k r : Nat) : Nat := if r = 0 then 0 else k + r
/-- a state is the log's, its places moved by k -/
def lgH9 (k : Nat) (κ : zS) (n : Nat) (L : List (Nat × Nat × Nat × Nat)) : Prop := zn κ = k + n ∧ (∀ b, 0 < b → zT κ (k + b) = lgT9 L b) ∧ (∀ b, 0 < b → zN κ (k + b) = lgN9 L b) ∧ (∀ f b, 0 < b → zI κ f (k + b) = Int32.ofNat (lgI9 L f b)) ∧ (∀ f b, 0 < b → zR κ f (k + b) = upk9 k (lgR9 L f b)) ∧ (∀ b j, 0 < b → zA κ (k + b) j = Int32.ofNat (lgA9 L b j)) ∧ (∀ b j, 0 < b → zQ κ (k + b) j = none) ∧ (∀ b, 0 < b → zO κ (k + b) = ((lgO9 L b).1, upk9 k (lgO9 L b).2)) ∧ (∀ b, b ≤ k → zT κ b = 0) ∧ zc κ + 1 = n ∧ zs κ = lgS9 L
theorem lgT_e9 {e : Nat × Nat × Nat × Nat} {L : List (Nat × Nat × Nat × Nat)} {b : Nat} (h0 : ¬ ((e.1 = 0 ∨ e.1 = 2) ∧ b = e.2.1)) (h1 : ¬ (e.1 = 1 ∧ b = e.2.1)) : lgT9 (e :: L) b = lgT9 L b := (if_neg h0).trans (if_neg h1)
theorem lgN_e9 {e : Nat × Nat × Nat × Nat} {L : List (Nat × Nat × Nat × Nat)} {b : Nat} (h0 : ¬ ((e.1 = 0 ∨ e.1 = 2) ∧ b = e.2.1)) : lgN9 (e :: L) b = lgN9 L b := if_neg h0
theorem lgI_e9 {e : Nat × Nat × Nat × Nat} {L : List (Nat × Nat × Nat × Nat)} {f b : Nat} (h0 : ¬ (e.1 = 0 ∧ b = e.2.1)) (h1 : ¬ (e.1 = 5 ∧ f = e.2.1 ∧ b = e.2.2.1)) : lgI9 (e :: L) f b = lgI9 L f b := (if_neg h0).trans (if_neg h1)
theorem lgR_e9 {e : Nat × Nat × Nat × Nat} {L : List (Nat × Nat × Nat × Nat)} {f b : Nat} (h0 : ¬ (e.1 = 0 ∧ b = e.2.1)) (h1 : ¬ ((e.1 = 3 ∨ e.1 = 4) ∧ f = e.2.1 ∧ b = e.2.2.1)) : lgR9 (e :: L) f b = lgR9 L f b := (if_neg h0).trans (if_neg h1)
theorem lgA_e9 {e : Nat × Nat × Nat × Nat} {L : List (Nat × Nat × Nat × Nat)} {b j : Nat} (h0 : ¬ (e.1 = 2 ∧ b = e.2.1)) (h1 : ¬ (e.1 = 6 ∧ b = e.2.1 ∧ j = e.2.2.1)) : lgA9 (e :: L) b j = lgA9 L b j := (if_neg h0).trans (if_neg h1)
theorem lgO_e9 {e : Nat × Nat × Nat × Nat} {L : List (Nat × Nat × Nat × Nat)} {b : Nat} (h0 : ¬ (e.1 = 2 ∧ b = e.2.1)) (h1 : ¬ (e.1 = 3 ∧ b = e.2.2.2)) : lgO9 (e :: L) b = lgO9 L b := (if_neg h0).trans (if_neg h1)
theorem lg_no9 {k n ci : Nat} {κ : zS} {L : List (Nat × Nat × Nat × Nat)} (H : lgH9 k κ n L) : lgH9 k (noo κ ci) (n + 1) ((0, n, 40 + ci, 0) :: L) := by
  obtain ⟨h1, h2, h3, h4, h5, h6, h7, h8, h9, h10, h11⟩ := H
  have nz : ∀ b, b ≠ n → k + b ≠ zn κ := fun b hb => by omega
  have c1 : ¬ ((0 : Nat) = 1) := by decide
  refine ⟨?_, fun b hb => ?_, fun b hb => ?_, fun f b hb => ?_, fun f b hb => ?_, fun b j hb => ?_, h7, fun b hb => ?_, fun b hb => ?_, ?_, ?_⟩
  · show zn κ + 1 = k + (n + 1)
    omega
  · show (if k + b = zn κ then 40 + ci else zT κ (k + b)) = _
    by_cases e : b = n
    · rw [if_pos (by omega)]
      exact (if_pos ⟨Or.inl rfl, e⟩).symm
    · rw [if_neg (nz b e), h2 b hb]
      exact (lgT_e9 (fun z => e z.2) (fun z => e z.2)).symm
  · show (if k + b = zn κ then 0 else zN κ (k + b)) = _
    by_cases e : b = n
    · rw [if_pos (by omega)]
      exact (if_pos ⟨Or.inl rfl, e⟩).symm
    · rw [if_neg (nz b e), h3 b hb]
      exact (lgN_e9 (fun z => e z.2)).symm
  · show (if k + b = zn κ then 0 else zI κ f (k + b)) = _
    by_cases e : b = n
    · have q : lgI9 ((0, n, 40 + ci, 0) :: L) f b = 0 := if_pos ⟨rfl, e⟩
      rw [if_pos (by omega), q]
      rfl
    · rw [if_neg (nz b e), h4 f b hb]
      exact congrArg Int32.ofNat (lgI_e9 (fun z => e z.2) (fun z => by have y := z.1; dsimp only at y; omega)).symm
  · show (if k + b = zn κ then 0 else zR κ f (k + b)) = _
    by_cases e : b = n
    · have q : lgR9 ((0, n, 40 + ci, 0) :: L) f b = 0 := if_pos ⟨rfl, e⟩
      rw [if_pos (by omega), q]
      rfl
    · rw [if_neg (nz b e), h5 f b hb]
      exact congrArg (upk9 k) (lgR_e9 (fun z => e z.2) (fun z => by have y := z.1; dsimp only at y; omega)).symm
  · exact (h6 b j hb).trans (congrArg Int32.ofNat (lgA_e9 (fun z => by have y := z.1; dsimp only at y; omega) (fun z => by have y := z.1; dsimp only at y; omega)).symm)
  · rw [lgO_e9 (L := L) (b := b) (fun z => by have y := z.1; dsimp only at y; omega) (fun z => by have y := z.1; dsimp only at y; omega)]
    exact h8 b hb
  · show (if b = zn κ then 40 + ci else zT κ b) = 0
    rw [if_neg (by omega)]
    exact h9 b hb
  · show zc κ + 1 + 1 = n + 1
    omega
  · show zs κ + nN ci = lgS9 L + nN (40 + ci - 40)
    rw [h11, Nat.add_sub_cancel_left]
theorem lg_na9 {k n t m : Nat} {κ : zS} {L : List (Nat × Nat × Nat × Nat)} (H : lgH9 k κ n L) : lgH9 k (na κ t m) (n + 1) ((2, n, t, m) :: L) := by
  obtain ⟨h1, h2, h3, h4, h5, h6, h7, h8, h9, h10, h11⟩ := H
  have nz : ∀ b, b ≠ n → k + b ≠ zn κ := fun b hb => by omega
  refine ⟨?_, fun b hb => ?_, fun b hb => ?_, fun f b hb => ?_, fun f b hb => ?_, fun b j hb => ?_, fun b j hb => ?_, fun b hb => ?_, fun b hb => ?_, ?_, ?_⟩
  · show zn κ + 1 = k + (n + 1)
    omega
  · show (if k + b = zn κ then t else zT κ (k + b)) = _
    by_cases e : b = n
    · rw [if_pos (by omega)]
      exact (if_pos ⟨Or.inr rfl, e⟩).symm
    · rw [if_neg (nz b e), h2 b hb]
      exact (lgT_e9 (fun z => e z.2) (fun z => e z.2)).symm
  · show (if k + b = zn κ then m else zN κ (k + b)) = _
    by_cases e : b = n
    · rw [if_pos (by omega)]
      exact (if_pos ⟨Or.inr rfl, e⟩).symm
    · rw [if_neg (nz b e), h3 b hb]
      exact (lgN_e9 (fun z => e z.2)).symm
  · exact (h4 f b hb).trans (congrArg Int32.ofNat (lgI_e9 (fun z => by have y := z.1; dsimp only at y; omega) (fun z => by have y := z.1; dsimp only at y; omega)).symm)
  · exact (h5 f b hb).trans (congrArg (upk9 k) (lgR_e9 (fun z => by have y := z.1; dsimp only at y; omega) (fun z => by have y := z.1; dsimp only at y; omega)).symm)
  · show (if k + b = zn κ then fun _ => 0 else zA κ (k + b)) j = _
    by_cases e : b = n
    · have q : lgA9 ((2, n, t, m) :: L) b j = 0 := if_pos ⟨rfl, e⟩
      rw [if_pos (by omega), q]
      rfl
    · rw [if_neg (nz b e), h6 b j hb]
      exact congrArg Int32.ofNat (lgA_e9 (fun z => e z.2) (fun z => by have y := z.1; dsimp only at y; omega)).symm
  · show (if k + b = zn κ then fun _ => none else zQ κ (k + b)) j = none
    by_cases e : b = n
    · rw [if_pos (by omega)]
    · rw [if_neg (nz b e)]
      exact h7 b j hb
  · show (if k + b = zn κ then (0, 0) else zO κ (k + b)) = _
    by_cases e : b = n
    · have q : lgO9 ((2, n, t, m) :: L) b = (0, 0) := if_pos ⟨rfl, e⟩
      rw [if_pos (by omega), q]
      rfl
    · rw [if_neg (nz b e), h8 b hb, lgO_e9 (L := L) (b := b) (e := (2, n, t, m)) (fun z => e z.2) (fun z => by have y := z.1; dsimp only at y; omega)]
  · show (if b = zn κ then t else zT κ b) = 0
    rw [if_neg (by omega)]
    exact h9 b hb
  · show zc κ + 1 + 1 = n + 1
    omega
  · show zs κ + m = lgS9 L + m
    rw [h11]
theorem lg_nf9 {k n w : Nat} {κ : zS} {L : List (Nat × Nat × Nat × Nat)} (hw : 0 < w) (H : lgH9 k κ n L) : lgH9 k (nff κ (k + w)) n ((1, w, 0, 0) :: L) := by
  obtain ⟨h1, h2, h3, h4, h5, h6, h7, h8, h9, h10, h11⟩ := H
  refine ⟨h1, fun b hb => ?_, fun b hb => ?_, fun f b hb => ?_, fun f b hb => ?_, fun b j hb => ?_, h7, fun b hb => ?_, fun b hb => ?_, h10, ?_⟩
  · show (if k + b = k + w then zT κ (k + w) - 40 else zT κ (k + b)) = _
    by_cases e : b = w
    · rw [if_pos (by omega), h2 w hw]
      refine Eq.trans ?_ (Eq.trans (if_neg (fun z => by have y := z.1; dsimp only at y; omega)) (if_pos ⟨rfl, e⟩)).symm
      rw [e]
    · rw [if_neg (by omega), h2 b hb]
      exact (lgT_e9 (fun z => e z.2) (fun z => e z.2)).symm
  · exact (h3 b hb).trans (lgN_e9 (fun z => by have y := z.1; dsimp only at y; omega)).symm
  · exact (h4 f b hb).trans (congrArg Int32.ofNat (lgI_e9 (fun z => by have y := z.1; dsimp only at y; omega) (fun z => by have y := z.1; dsimp only at y; omega)).symm)
  · exact (h5 f b hb).trans (congrArg (upk9 k) (lgR_e9 (fun z => by have y := z.1; dsimp only at y; omega) (fun z => by have y := z.1; dsimp only at y; omega)).symm)
  · exact (h6 b j hb).trans (congrArg Int32.ofNat (lgA_e9 (fun z => by have y := z.1; dsimp only at y; omega) (fun z => by have y := z.1; dsimp only at y; omega)).symm)
  · rw [lgO_e9 (L := L) (b := b) (fun z => by have y := z.1; dsimp only at y; omega) (fun z => by have y := z.1; dsimp only at y; omega)]
    exact h8 b hb
  · show (if b = k + w then zT κ (k + w) - 40 else zT κ b) = 0
    rw [if_neg (by omega)]
    exact h9 b hb
  · exact h11
theorem lg_ur9 {k n f a v : Nat} {κ : zS} {L : List (Nat × Nat × Nat × Nat)} (hv : 0 < v) (H : lgH9 k κ n L) : lgH9 k (ur κ f (k + a) (k + v)) n ((4, f, a, v) :: L) := by
  obtain ⟨h1, h2, h3, h4, h5, h6, h7, h8, h9, h10, h11⟩ := H
  refine ⟨h1, fun b hb => ?_, fun b hb => ?_, fun g b hb => ?_, fun g b hb => ?_, fun b j hb => ?_, h7, fun b hb => ?_, h9, h10, h11⟩
  · exact (h2 b hb).trans (lgT_e9 (fun z => by have y := z.1; dsimp only at y; omega) (fun z => by have y := z.1; dsimp only at y; omega)).symm
  · exact (h3 b hb).trans (lgN_e9 (fun z => by have y := z.1; dsimp only at y; omega)).symm
  · exact (h4 g b hb).trans (congrArg Int32.ofNat (lgI_e9 (fun z => by have y := z.1; dsimp only at y; omega) (fun z => by have y := z.1; dsimp only at y; omega)).symm)
  · show (if g = f ∧ k + b = k + a then k + v else zR κ g (k + b)) = _
    by_cases e : g = f ∧ b = a
    · have q : lgR9 ((4, f, a, v) :: L) g b = v := (if_neg (fun z => by have y := z.1; dsimp only at y; omega)).trans (if_pos ⟨Or.inr rfl, e⟩)
      rw [if_pos ⟨e.1, by omega⟩, q]
      unfold upk9
      rw [if_neg (by omega)]
    · rw [if_neg (fun z => e ⟨z.1, by omega⟩), h5 g b hb]
      exact congrArg (upk9 k) (lgR_e9 (fun z => by have y := z.1; dsimp only at y; omega) (fun z => e z.2)).symm
  · exact (h6 b j hb).trans (congrArg Int32.ofNat (lgA_e9 (fun z => by have y := z.1; dsimp only at y; omega) (fun z => by have y := z.1; dsimp only at y; omega)).symm)
  · rw [lgO_e9 (L := L) (b := b) (fun z => by have y := z.1; dsimp only at y; omega) (fun z => by have y := z.1; dsimp only at y; omega)]
    exact h8 b hb
theorem lg_uo9 {k n f a r : Nat} {κ : zS} {L : List (Nat × Nat × Nat × Nat)} (ha : 0 < a) (hr : 0 < r) (H : lgH9 k κ n L) : lgH9 k (uo κ f (k + a) (k + r)) n ((3, f, a, r) :: L) := by
  obtain ⟨h1, h2, h3, h4, h5, h6, h7, h8, h9, h10, h11⟩ := H
  refine ⟨h1, fun b hb => ?_, fun b hb => ?_, fun g b hb => ?_, fun g b hb => ?_, fun b j hb => ?_, h7, fun b hb => ?_, h9, h10, h11⟩
  · exact (h2 b hb).trans (lgT_e9 (fun z => by have y := z.1; dsimp only at y; omega) (fun z => by have y := z.1; dsimp only at y; omega)).symm
  · exact (h3 b hb).trans (lgN_e9 (fun z => by have y := z.1; dsimp only at y; omega)).symm
  · exact (h4 g b hb).trans (congrArg Int32.ofNat (lgI_e9 (fun z => by have y := z.1; dsimp only at y; omega) (fun z => by have y := z.1; dsimp only at y; omega)).symm)
  · show (if g = f ∧ k + b = k + a then k + r else zR κ g (k + b)) = _
    by_cases e : g = f ∧ b = a
    · have q : lgR9 ((3, f, a, r) :: L) g b = r := (if_neg (fun z => by have y := z.1; dsimp only at y; omega)).trans (if_pos ⟨Or.inl rfl, e⟩)
      rw [if_pos ⟨e.1, by omega⟩, q]
      unfold upk9
      rw [if_neg (by omega)]
    · rw [if_neg (fun z => e ⟨z.1, by omega⟩), h5 g b hb]
      exact congrArg (upk9 k) (lgR_e9 (fun z => by have y := z.1; dsimp only at y; omega) (fun z => e z.2)).symm
  · exact (h6 b j hb).trans (congrArg Int32.ofNat (lgA_e9 (fun z => by have y := z.1; dsimp only at y; omega) (fun z => by have y := z.1; dsimp only at y; omega)).symm)
  · show (if k + b = k + r then (f, k + a) else zO κ (k + b)) = _
    by_cases e : b = r
    · have q : lgO9 ((3, f, a, r) :: L) b = (f, a) := (if_neg (fun z => by have y := z.1; dsimp only at y; omega)).trans (if_pos ⟨rfl, e⟩)
      rw [if_pos (by omega), q]
      unfold upk9
      rw [if_neg (show ¬ a = 0 by omega)]
    · rw [if_neg (by omega), h8 b hb, lgO_e9 (L := L) (b := b) (e := (3, f, a, r)) (fun z => by have y := z.1; dsimp only at y; omega) (fun z => e z.2)]
theorem lg_ui9 {k n f a x : Nat} {κ : zS} {L : List (Nat × Nat × Nat × Nat)} (H : lgH9 k κ n L) : lgH9 k (ui κ f (k + a) (Int32.ofNat x)) n ((5, f, a, x) :: L) := by
  obtain ⟨h1, h2, h3, h4, h5, h6, h7, h8, h9, h10, h11⟩ := H
  refine ⟨h1, fun b hb => ?_, fun b hb => ?_, fun g b hb => ?_, fun g b hb => ?_, fun b j hb => ?_, h7, fun b hb => ?_, h9, h10, h11⟩
  · exact (h2 b hb).trans (lgT_e9 (fun z => by have y := z.1; dsimp only at y; omega) (fun z => by have y := z.1; dsimp only at y; omega)).symm
  · exact (h3 b hb).trans (lgN_e9 (fun z => by have y := z.1; dsimp only at y; omega)).symm
  · show (if g = f ∧ k + b = k + a then Int32.ofNat x else zI κ g (k + b)) = _
    by_cases e : g = f ∧ b = a
    · have q : lgI9 ((5, f, a, x) :: L) g b = x := (if_neg (fun z => by have y := z.1; dsimp only at y; omega)).trans (if_pos ⟨rfl, e⟩)
      rw [if_pos ⟨e.1, by omega⟩, q]
    · rw [if_neg (fun z => e ⟨z.1, by omega⟩), h4 g b hb]
      exact congrArg Int32.ofNat (lgI_e9 (fun z => by have y := z.1; dsimp only at y; omega) (fun z => e z.2)).symm
  · exact (h5 g b hb).trans (congrArg (upk9 k) (lgR_e9 (fun z => by have y := z.1; dsimp only at y; omega) (fun z => by have y := z.1; dsimp only at y; omega)).symm)
  · exact (h6 b j hb).trans (congrArg Int32.ofNat (lgA_e9 (fun z => by have y := z.1; dsimp only at y; omega) (fun z => by have y := z.1; dsimp only at y; omega)).symm)
  · rw [lgO_e9 (L := L) (b := b) (fun z => by have y := z.1; dsimp only at y; omega) (fun z => by have y := z.1; dsimp only at y; omega)]
    exact h8 b hb
theorem lg_ua9 {k n r j x : Nat} {κ : zS} {L : List (Nat × Nat × Nat × Nat)} (H : lgH9 k κ n L) : lgH9 k (ua κ (k + r) j (Int32.ofNat x)) n ((6, r, j, x) :: L) := by
  obtain ⟨h1, h2, h3, h4, h5, h6, h7, h8, h9, h10, h11⟩ := H
  refine ⟨h1, fun b hb => ?_, fun b hb => ?_, fun g b hb => ?_, fun g b hb => ?_, fun b i hb => ?_, h7, fun b hb => ?_, h9, h10, h11⟩
  · exact (h2 b hb).trans (lgT_e9 (fun z => by have y := z.1; dsimp only at y; omega) (fun z => by have y := z.1; dsimp only at y; omega)).symm
  · exact (h3 b hb).trans (lgN_e9 (fun z => by have y := z.1; dsimp only at y; omega)).symm
  · exact (h4 g b hb).trans (congrArg Int32.ofNat (lgI_e9 (fun z => by have y := z.1; dsimp only at y; omega) (fun z => by have y := z.1; dsimp only at y; omega)).symm)
  · exact (h5 g b hb).trans (congrArg (upk9 k) (lgR_e9 (fun z => by have y := z.1; dsimp only at y; omega) (fun z => by have y := z.1; dsimp only at y; omega)).symm)
  · show (if k + b = k + r then upd (zA κ (k + r)) j (Int32.ofNat x) else zA κ (k + b)) i = _
    by_cases e : b = r
    · rw [if_pos (by omega)]
      show (if i = j then Int32.ofNat x else zA κ (k + r) i) = _
      by_cases y : i = j
      · have q : lgA9 ((6, r, j, x) :: L) b i = x := (if_neg (fun z => by have y := z.1; dsimp only at y; omega)).trans (if_pos ⟨rfl, e, y⟩)
        rw [if_pos y, q]
      · rw [if_neg y, ← e, h6 b i hb]
        exact congrArg Int32.ofNat (lgA_e9 (fun z => by have y := z.1; dsimp only at y; omega) (fun z => y z.2.2)).symm
    · rw [if_neg (by omega), h6 b i hb]
      exact congrArg Int32.ofNat (lgA_e9 (fun z => by have y := z.1; dsimp only at y; omega) (fun z => e z.2.1)).symm
  · rw [lgO_e9 (L := L) (b := b) (fun z => by have y := z.1; dsimp only at y; omega) (fun z => by have y := z.1; dsimp only at y; omega)]
    exact h8 b hb
/-- a row, a number, a fraction, a hoard, a web made for a field -/
theorem lg_mr9 {k n f a t m : Nat} {κ : zS} {L : List (Nat × Nat × Nat × Nat)} (ha : 0 < a) (hn : 0 < n) (H : lgH9 k κ n L) : lgH9 k (mkr9 κ f (k + a) t m) (n + 1) ((3, f, a, n) :: (2, n, t, m) :: L) := by
  have q := lg_uo9 (f := f) ha hn (lg_na9 (t := t) (m := m) H)
  rw [← H.1] at q
  exact q
theorem lg_mn9 {k n f a l : Nat} {m : Int32} {κ : zS} {L : List (Nat × Nat × Nat × Nat)} (hl : (if m < (2 : Int32) then (2 : Int32) else m).toNatClampNeg = l) (hn : 0 < n) (H : lgH9 k κ n L) : lgH9 k (mkn9 κ m f (k + a)) (n + 2) ((4, f, a, n) :: (1, n, 0, 0) :: (3, nuLimbs, n, n + 1) :: (2, n + 1, 20, l) :: (0, n, 48, 0) :: L) := by
  have h1 := lg_no9 (ci := 8) H
  have h2 := lg_mr9 (f := nuLimbs) (t := 20) (m := l) hn (Nat.succ_pos n) h1
  have h3 := lg_ur9 (f := f) (a := a) hn (lg_nf9 hn h2)
  rw [← H.1] at h3
  unfold mkn9
  rw [hl]
  exact h3
theorem lg_pu9 {k n x r : Nat} {κ : zS} {L : List (Nat × Nat × Nat × Nat)} (hr : lgR9 L nuLimbs x = r) (h0 : 0 < r) (hx : 0 < x) (H : lgH9 k κ n L) : lgH9 k (pu9 κ (k + x)) n ((5, nuLength, x, 1) :: (6, r, 1, 0) :: (6, r, 0, 1) :: L) := by
  have e : zR κ nuLimbs (k + x) = k + r := by
    rw [H.2.2.2.2.1 nuLimbs x hx, hr]
    exact if_neg (by omega)
  have q := lg_ui9 (f := nuLength) (a := x) (x := 1) (lg_ua9 (r := r) (j := 1) (x := 0) (lg_ua9 (r := r) (j := 0) (x := 1) H))
  unfold pu9
  rw [e]
  exact q
theorem lg_mR9 {k n f a l : Nat} {m : Int32} {κ : zS} {L : List (Nat × Nat × Nat × Nat)} (hl : (if m < (2 : Int32) then (2 : Int32) else m).toNatClampNeg = l) (hn : 0 < n) (H : lgH9 k κ n L) : lgH9 k (mkR9 κ m f (k + a)) (n + 5) ((4, f, a, n) :: (1, n, 0, 0) :: (5, nuLength, n + 3, 1) :: (6, n + 4, 1, 0) :: (6, n + 4, 0, 1) :: (4, raBottom, n, n + 3) :: (1, n + 3, 0, 0) :: (3, nuLimbs, n + 3, n + 4) :: (2, n + 4, 20, l) :: (0, n + 3, 48, 0) :: (4, raTop, n, n + 1) :: (1, n + 1, 0, 0) :: (3, nuLimbs, n + 1, n + 2) :: (2, n + 2, 20, l) :: (0, n + 1, 48, 0) :: (0, n, 51, 0) :: L) := by
  have h1 := lg_no9 (ci := 11) H
  have h2 := lg_mn9 (f := raTop) (a := n) hl (Nat.succ_pos n) h1
  have h3 := lg_mn9 (f := raBottom) (a := n) hl (Nat.succ_pos (n + 2)) h2
  have e : zR (mkn9 (mkn9 (noo κ 11) m raTop (k + n)) m raBottom (k + n)) raBottom (k + n) = k + (n + 3) := by
    rw [h3.2.2.2.2.1 raBottom n hn]
    have q : lgR9 ((4, raBottom, n, n + 1 + 2) :: (1, n + 1 + 2, 0, 0) :: (3, nuLimbs, n + 1 + 2, n + 1 + 2 + 1) :: (2, n + 1 + 2 + 1, 20, l) :: (0, n + 1 + 2, 48, 0) :: (4, raTop, n, n + 1) :: (1, n + 1, 0, 0) :: (3, nuLimbs, n + 1, n + 1 + 1) :: (2, n + 1 + 1, 20, l) :: (0, n + 1, 48, 0) :: (0, n, 51, 0) :: L) raBottom n = n + 3 := (if_neg (fun z => by have y := z.1; dsimp only at y; omega)).trans (if_pos ⟨Or.inr rfl, rfl, rfl⟩)
    rw [q]
    exact if_neg (by omega)
  have h4 := lg_pu9 (x := n + 3) (r := n + 4) (by
    refine (lgR_e9 (fun z => by have y := z.1; dsimp only at y; omega) (fun z => by have y := z.2.1; dsimp only at y; exact absurd y (by decide))).trans ?_
    refine (lgR_e9 (fun z => by have y := z.1; dsimp only at y; omega) (fun z => by have y := z.1; dsimp only at y; omega)).trans ?_
    exact (if_neg (fun z => by have y := z.1; dsimp only at y; omega)).trans (if_pos ⟨Or.inl rfl, rfl, rfl⟩)) (by omega) (by omega) h3
  have h5 := lg_ur9 (f := f) (a := a) hn (lg_nf9 hn h4)
  unfold mkR9 iRa9
  rw [H.1, e]
  exact h5
theorem lg_ok9 {k n w ci : Nat} {κ : zS} {L : List (Nat × Nat × Nat × Nat)} (H : lgH9 k κ n L) (hw : 0 < w) (h : ∀ p ∈ zRT, p.1 / 100 = ci → 0 < lgR9 L p.1 w ∧ lgT9 L (lgR9 L p.1 w) = p.2 ∧ (20 ≤ p.2 → lgO9 L (lgR9 L p.1 w) = (p.1, w))) (hz : ∀ f ∈ zZT, f / 100 = ci → lgI9 L f w = 0) : zOk κ (k + w) ci := by
  refine ⟨fun f t h1 h2 => ?_, fun f h1 h2 => ?_⟩
  · obtain ⟨g1, g2, g3⟩ := h (f, t) (d_lk h1) h2
    have e : zR κ f (k + w) = k + lgR9 L f w := by
      rw [H.2.2.2.2.1 f w hw]
      exact if_neg (fun z => absurd g1 (by show ¬ 0 < lgR9 L f w; omega))
    rw [e, H.2.1 _ g1]
    refine ⟨g2, fun h20 => ?_⟩
    rw [H.2.2.2.2.2.2.2.1 _ g1, g3 h20]
    show (f, upk9 k w) = (f, k + w)
    unfold upk9
    rw [if_neg (by omega)]
  · rw [H.2.2.2.1 f w hw, hz f h1 h2]
    exact nb_0
theorem lg_t9 {k n w f r t : Nat} {κ : zS} {L : List (Nat × Nat × Nat × Nat)} (H : lgH9 k κ n L) (hw : 0 < w) (h : lgR9 L f w = r ∧ 0 < r ∧ lgT9 L r = t) : zR κ f (k + w) = k + r ∧ zT κ (zR κ f (k + w)) = t := by
  have e : zR κ f (k + w) = k + r := by
    rw [H.2.2.2.2.1 f w hw, h.1]
    exact if_neg (by omega)
  rw [e, H.2.1 _ h.2.1]
  exact ⟨rfl, h.2.2⟩
