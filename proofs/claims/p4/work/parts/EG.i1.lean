set_option maxHeartbeats 1600000
/-! the class: what a row made for a field is -/
theorem mkr_n9 {κ : zS} {f a t n : Nat} : zn (mkr9 κ f a t n) = zn κ + 1 ∧ zc (mkr9 κ f a t n) = zc κ + 1 ∧ zs (mkr9 κ f a t n) = zs κ + n ∧ zI (mkr9 κ f a t n) = zI κ := ⟨rfl, rfl, rfl, rfl⟩
theorem mkr_r9 {κ : zS} {f a t n : Nat} : zR (mkr9 κ f a t n) f a = zn κ ∧ ∀ g b, ¬ (g = f ∧ b = a) → zR (mkr9 κ f a t n) g b = zR κ g b := ⟨if_pos ⟨rfl, rfl⟩, fun _ _ h => if_neg h⟩
theorem mkr_t9 {κ : zS} {f a t n : Nat} : zT (mkr9 κ f a t n) (zn κ) = t ∧ ∀ b, b ≠ zn κ → zT (mkr9 κ f a t n) b = zT κ b := ⟨if_pos rfl, fun _ h => if_neg h⟩
theorem mkr_l9 {κ : zS} {f a t n : Nat} : zN (mkr9 κ f a t n) (zn κ) = n ∧ ∀ b, b ≠ zn κ → zN (mkr9 κ f a t n) b = zN κ b := ⟨if_pos rfl, fun _ h => if_neg h⟩
theorem mkr_o9 {κ : zS} {f a t n : Nat} : zO (mkr9 κ f a t n) (zn κ) = (f, a) ∧ ∀ b, b ≠ zn κ → zO (mkr9 κ f a t n) b = zO κ b := ⟨if_pos rfl, fun _ h => (if_neg h).trans (if_neg h)⟩
theorem mkr_a9 {κ : zS} {f a t n : Nat} : zA (mkr9 κ f a t n) (zn κ) = (fun _ => 0) ∧ zQ (mkr9 κ f a t n) (zn κ) = (fun _ => none) ∧ ∀ b, b ≠ zn κ → zA (mkr9 κ f a t n) b = zA κ b ∧ zQ (mkr9 κ f a t n) b = zQ κ b := ⟨if_pos rfl, if_pos rfl, fun _ h => ⟨if_neg h, if_neg h⟩⟩
/-- what of an object's rows is known: the field, the row's place, its length -/
def rwK9 (κ : zS) (a : Nat) (l : List (Nat × Nat × Nat × Nat)) : Prop := ∀ q ∈ l, zR κ q.1 a = q.2.2.1 ∧ zT κ q.2.2.1 = q.2.1 ∧ zN κ q.2.2.1 = q.2.2.2 ∧ zO κ q.2.2.1 = (q.1, a) ∧ zA κ q.2.2.1 = (fun _ => 0) ∧ q.2.2.1 < zn κ
theorem rwK_s9 {κ : zS} {f a t n : Nat} {l : List (Nat × Nat × Nat × Nat)} (H : rwK9 κ a l) (hf : ∀ q ∈ l, q.1 ≠ f) : rwK9 (mkr9 κ f a t n) a ((f, t, zn κ, n) :: l) := by
  intro q hq
  rcases List.mem_cons.mp hq with e | e
  · rw [e]
    exact ⟨mkr_r9.1, mkr_t9.1, mkr_l9.1, mkr_o9.1, mkr_a9.1, Nat.lt_succ_self _⟩
  · obtain ⟨h1, h2, h3, h4, h5, h6⟩ := H q e
    have ne : q.2.2.1 ≠ zn κ := Nat.ne_of_lt h6
    refine ⟨(mkr_r9.2 _ _ (fun z => hf q e z.1)).trans h1, (mkr_t9.2 _ ne).trans h2, (mkr_l9.2 _ ne).trans h3, (mkr_o9.2 _ ne).trans h4, (mkr_a9.2.2 _ ne).1.trans h5, Nat.lt_succ_of_lt h6⟩
theorem rwK_09 {κ : zS} {a : Nat} : rwK9 κ a [] := fun _ h => by cases h
