set_option maxHeartbeats 1600000
/-! the class: the Solver's whole joins a number -/
def jnR9 : Nat → Prop := fun r => r = 1 ∨ r = 9 ∨ r = 10
/-- what Ca_join needs of the Solver's whole and a number of another role -/
theorem jn_p {ρ : Nat → Nat} {κ : zS} {a w r : Nat} (N : nmI ρ κ) (I : soI ρ κ a) (hw : ρ w = r) (hr : nmR r) (h : r ≠ 1 ∧ r ≠ 9 ∧ r ≠ 10) (p1 : nuN κ (zR κ soWhole a) < pB9 2000) (p2 : nuN κ w < pB9 100) : ((nuI κ (zR κ soWhole a) 6500 ∧ nuI κ w 30000000 ∧ nuI κ (zR κ caSpare (zR κ soCalc a)) 6500) ∧ caI κ (zR κ soCalc a) 6500 ∧ (¬ caS κ (zR κ soCalc a) (zR κ soWhole a) ∧ ¬ caS κ (zR κ soCalc a) w ∧ ¬ caS κ (zR κ soCalc a) (zR κ caSpare (zR κ soCalc a))) ∧ (zR κ soWhole a ≠ w ∧ zR κ soWhole a ≠ zR κ caSpare (zR κ soCalc a) ∧ w ≠ zR κ caSpare (zR κ soCalc a)) ∧ (nuN κ (zR κ soWhole a) < 2147483648 ^ 2000 ∧ nuN κ w < 2147483648 ^ 2000) ∧ (2000 + 1 + (2000 + 1) / 2 + 2 ≤ 6500 ∧ nuK κ (zR κ soWhole a) + nuK κ w + (nuK κ (zR κ soWhole a) + nuK κ w) / 2 + 1 ≤ 6500 ∧ 6500 ≤ 30000000) ∧ (nuK κ (zR κ soWhole a) + nuK κ w + (nuK κ (zR κ soWhole a) + nuK κ w) / 2 + 1 ≤ 6500 ∧ 6500 ≤ 30000000) ∧ 6500 ≤ 30000000 ∧ 2000 ≤ 16000) := by
  have h1 := I.1.1
  have h9 := I.2.2.2
  have m1 : nmR 1 := Or.inl ⟨by decide, by decide⟩
  have m9 : nmR 9 := Or.inl ⟨by decide, by decide⟩
  have g1 := nm_g N h1 m1 (by decide)
  have g9 := nm_g N h9 m9 (by decide)
  have gw := nm_g N hw hr h.2.2
  have k1 : nuK κ (zR κ soWhole a) ≤ 2000 := nuK_lt g1.1 p1
  have kw : nuK κ w ≤ 100 := nuK_lt gw.1 p2
  have lw : nuN κ w < pB9 2000 := Nat.lt_of_lt_of_le p2 (Nat.pow_le_pow_right (by decide) (by decide))
  clear p2
  exact ⟨⟨g1.1, gw.2.1, g9.1⟩, so_ca N I, ⟨so_o I h1 (by decide), so_o I hw h.2.2, so_o I h9 (by decide)⟩, ⟨ro_n h1 hw (Ne.symm h.1), ro_n h1 h9 (by decide), ro_n hw h9 h.2.1⟩, ⟨p1, lw⟩, ⟨by decide, by omega, by decide⟩, ⟨by omega, by decide⟩, by decide, by decide⟩
/-- and what it leaves -/
theorem jn_q {C : zC} {n0 a L : Nat} {ρ : Nat → Nat} {κ τ : zS} (W : zW C n0 κ) (N : nmI ρ κ) (I : soI ρ κ a) (q : (zF (caF (fun b => caS κ (zR κ soCalc a) b ∨ b = zR κ soWhole a ∨ b = zR κ caSpare (zR κ soCalc a)) (zR κ soCalc a)) κ τ ∧ caI τ (zR κ soCalc a) 6500 ∧ ∀ b, caS τ (zR κ soCalc a) b → caS κ (zR κ soCalc a) b) ∧ nuI τ (zR κ caSpare (zR κ soCalc a)) 6500 ∧ nuI τ (zR κ soWhole a) 6500 ∧ nuN τ (zR κ soWhole a) = L) : (nmI ρ τ ∧ soI ρ τ a) ∧ zF (soF ρ jnR9 (zR κ soCalc a)) κ τ ∧ zR τ soWhole a = zR κ soWhole a := by
  have h1 := I.1.1
  have h9 := I.2.2.2
  obtain ⟨⟨Z, K, S⟩, Is, Iw, V⟩ := q
  refine ⟨nm_ca9 W N I Z K S (fun b z => ?_), soF_c (fun b z => ?_) Z, caF_r Z (by decide)⟩
  · rcases z with z | z | z
    · exact Or.inl z
    · right
      rw [z, h1]
      exact ⟨by decide, Iw⟩
    · right
      rw [z, h9]
      exact ⟨by decide, Is⟩
  · rcases z with z | z | z
    · rw [I.2.2.1 b z]
      exact Or.inr (Or.inr rfl)
    · rw [z, h1]
      exact Or.inl rfl
    · rw [z, h9]
      exact Or.inr (Or.inl rfl)
