set_option maxHeartbeats 1600000
/-! the class: Ratio: putZero, putOne, copy, fits, scale -/
def raF (t b a : Nat) : Nat → Nat → Prop := fun f x => (oo2 t b x ∧ (f = nuLimbs ∨ f = nuLength)) ∨ (x = a ∧ f = raSign)
/-- a fraction in order -/
def raJ (κ : zS) (a c : Nat) : Prop := nuI κ (zR κ raTop a) c ∧ nuI κ (zR κ raBottom a) c ∧ zR κ raTop a ≠ zR κ raBottom a
def raC (κ : zS) (a c : Nat) : Prop := nuC κ (zR κ raTop a) c ∧ nuC κ (zR κ raBottom a) c ∧ zR κ raTop a ≠ zR κ raBottom a
/-- its sign, what is above the line, what is below -/
def raV (κ : zS) (a : Nat) (s : Int) (t b : Nat) : Prop := (zI κ raSign a).toInt = s ∧ nuN κ (zR κ raTop a) = t ∧ nuN κ (zR κ raBottom a) = b
theorem raF_n {t b a : Nat} {P : Nat → Prop} {κ τ : zS} (Z : zF (nuFp P) κ τ) (h : ∀ x, P x → x = t ∨ x = b) : zF (raF t b a) κ τ := Z.mono (fun f x z => Or.inl ⟨h x z.1, z.2⟩)
theorem raF_1 {t b a : Nat} {κ τ : zS} (Z : zF (nuF t) κ τ) : zF (raF t b a) κ τ := Z.mono (fun f x z => Or.inl ⟨Or.inl z.1, z.2⟩)
theorem raF_2 {t b a : Nat} {κ τ : zS} (Z : zF (nuF b) κ τ) : zF (raF t b a) κ τ := Z.mono (fun f x z => Or.inl ⟨Or.inr z.1, z.2⟩)
theorem raF_s {t b a : Nat} {κ τ : zS} {v : Int32} (e : τ = ui κ raSign a v) : zF (raF t b a) κ τ := by
  rw [e]
  exact zF_ui (Or.inr ⟨rfl, rfl⟩)
theorem raF_r {t b a f x : Nat} {κ τ : zS} (Z : zF (raF t b a) κ τ) (h1 : f ≠ nuLimbs) (h2 : f ≠ nuLength) (h3 : f ≠ raSign) : zR τ f x = zR κ f x := Z.r (fun z => by
  rcases z with ⟨_, z | z⟩ | ⟨_, z⟩
  · exact h1 z
  · exact h2 z
  · exact h3 z)
theorem nuF_i {x a : Nat} {κ τ : zS} (Z : zF (nuF x) κ τ) : zI τ raSign a = zI κ raSign a := Z.i (fun z => z.2.elim (fun y => absurd y (by decide)) (fun y => absurd y (by decide)))
theorem ui_s {κ τ : zS} {a z c : Nat} {v : Int32} (e : τ = ui κ raSign a v) : zR τ = zR κ ∧ zN τ = zN κ ∧ zA τ = zA κ ∧ zI τ raSign a = v ∧ (nuI κ z c → nuI τ z c) ∧ nuN τ z = nuN κ z ∧ (nuB κ z c → nuB τ z c) ∧ nuK τ z = nuK κ z := by
  have i9 : (if nuLength = raSign ∧ z = a then v else zI κ nuLength z) = zI κ nuLength z := if_neg (fun y => absurd y.1 (by decide))
  have i : zI τ nuLength z = zI κ nuLength z := by rw [e]; exact i9
  have r : zR τ = zR κ := by rw [e]; rfl
  have n : zN τ = zN κ := by rw [e]; rfl
  have aa : zA τ = zA κ := by rw [e]; rfl
  refine ⟨r, n, aa, by rw [e]; exact if_pos ⟨rfl, rfl⟩, fun h => ?_, ?_, fun h => ?_, ?_⟩
  · unfold nuI nuB nuZ
    rw [i, r, n, aa]
    exact h
  · unfold nuN
    rw [i, r, aa]
  · unfold nuB
    rw [i, r, n, aa]
    exact h
  · unfold nuK
    rw [i]
theorem Ra_putZero_c {C : zC} {n0 : Nat} {a0 : Nat} {κ : zS} {Q : zS → Prop} (W : zW C n0 κ) (Ta0 : zT κ a0 = 11) (c9 : Nat) (hp : raC κ a0 c9) (h : ∀ (κ' : zS), (zF (raF (zR κ raTop a0) (zR κ raBottom a0) a0) κ κ' ∧ raJ κ' a0 c9 ∧ raV κ' a0 0 0 1) → Q κ') : zRun C 1 mRa_putZero [.ref a0] κ (oV Q noX) := by
  refine Ra_putZero_run W Ta0 ?_
  replace W := W.lo (Nat.le_trans W.1.2.1 W.1.2.2) (Nat.le_refl (zn κ))
  unfold w_Ra_putZero_0
  obtain ⟨ct, cb, ne⟩ := hp
  intro κ_1 hκ_1
  intro W2
  intro T3
  have u := ui_s (z := 0) (c := 0) hκ_1
  have R1 := u.1
  have N1 := u.2.1
  refine Nu_put_c W2 T3 c9 ?_ (fun κ_4 q5 => ?_)
  · rw [R1, N1]
    exact ⟨⟨by decide, by decide⟩, ct⟩
  rw [R1] at q5
  obtain ⟨F4, ⟨R4, N4⟩, I4, V4⟩ := q5
  have eb : zR κ_4 raBottom a0 = (zR κ raBottom a0) := by rw [R4]
  have T4 : zT κ_4 (zR κ raTop a0) = 8 := F4.t (by rw [R1] at T3; exact T3) (by decide)
  intro W6
  intro M7
  intro T8
  refine Nu_put_c W6 T8 c9 ?_ (fun κ_9 q10 => ?_)
  · rw [eb, R4, N4, N1]
    exact ⟨⟨by decide, by decide⟩, cb⟩
  intro W11
  intro M12
  refine h _ ?_
  · rw [eb] at q10
    obtain ⟨F9, ⟨R9, N9⟩, I9, V9⟩ := q10
    have bt := nuB_z (c := c9) W6 T4 F9 (fun z => ne z.1) (fun z => ne z.1)
    have rr : zR κ_9 = zR κ := R9.trans R4
    have si : zI κ_9 raSign a0 = 0 := (nuF_i F9).trans ((nuF_i F4).trans u.2.2.2.1)
    refine ⟨((raF_s hκ_1).tr (raF_1 F4)).tr (raF_2 F9), ?_, ?_⟩
    · unfold raJ
      rw [rr]
      exact ⟨bt.2.1 I4, I9, ne⟩
    · unfold raV
      rw [rr, si, bt.2.2.1, V4, V9]
      exact ⟨rfl, rfl, rfl⟩

theorem Ra_putOne_c {C : zC} {n0 : Nat} {a0 : Nat} {κ : zS} {Q : zS → Prop} (W : zW C n0 κ) (Ta0 : zT κ a0 = 11) (c9 : Nat) (hp : raC κ a0 c9) (h : ∀ (κ' : zS), (zF (raF (zR κ raTop a0) (zR κ raBottom a0) a0) κ κ' ∧ raJ κ' a0 c9 ∧ raV κ' a0 1 1 1) → Q κ') : zRun C 1 mRa_putOne [.ref a0] κ (oV Q noX) := by
  refine Ra_putOne_run W Ta0 ?_
  replace W := W.lo (Nat.le_trans W.1.2.1 W.1.2.2) (Nat.le_refl (zn κ))
  unfold w_Ra_putOne_0
  obtain ⟨ct, cb, ne⟩ := hp
  intro κ_1 hκ_1
  intro W2
  intro T3
  have u := ui_s (z := 0) (c := 0) hκ_1
  have R1 := u.1
  have N1 := u.2.1
  refine Nu_put_c W2 T3 c9 ?_ (fun κ_4 q5 => ?_)
  · rw [R1, N1]
    exact ⟨⟨by decide, by decide⟩, ct⟩
  rw [R1] at q5
  obtain ⟨F4, ⟨R4, N4⟩, I4, V4⟩ := q5
  have eb : zR κ_4 raBottom a0 = (zR κ raBottom a0) := by rw [R4]
  have T4 : zT κ_4 (zR κ raTop a0) = 8 := F4.t (by rw [R1] at T3; exact T3) (by decide)
  intro W6
  intro M7
  intro T8
  refine Nu_put_c W6 T8 c9 ?_ (fun κ_9 q10 => ?_)
  · rw [eb, R4, N4, N1]
    exact ⟨⟨by decide, by decide⟩, cb⟩
  intro W11
  intro M12
  refine h _ ?_
  · rw [eb] at q10
    obtain ⟨F9, ⟨R9, N9⟩, I9, V9⟩ := q10
    have bt := nuB_z (c := c9) W6 T4 F9 (fun z => ne z.1) (fun z => ne z.1)
    have rr : zR κ_9 = zR κ := R9.trans R4
    have si : zI κ_9 raSign a0 = 1 := (nuF_i F9).trans ((nuF_i F4).trans u.2.2.2.1)
    refine ⟨((raF_s hκ_1).tr (raF_1 F4)).tr (raF_2 F9), ?_, ?_⟩
    · unfold raJ
      rw [rr]
      exact ⟨bt.2.1 I4, I9, ne⟩
    · unfold raV
      rw [rr, si, bt.2.2.1, V4, V9]
      exact ⟨rfl, rfl, rfl⟩

theorem Ra_copy_c {C : zC} {n0 : Nat} {a0 : Nat} {a1 : Nat} {κ : zS} {Q : zS → Prop} (W : zW C n0 κ) (Ta0 : zT κ a0 = 11) (Ta1 : zT κ a1 = 11) (c9 : Nat) (hp : raC κ a0 c9 ∧ raJ κ a1 30000000 ∧ ((zR κ raTop a0) ≠ (zR κ raTop a1) ∧ (zR κ raTop a0) ≠ (zR κ raBottom a1) ∧ (zR κ raBottom a0) ≠ (zR κ raTop a1) ∧ (zR κ raBottom a0) ≠ (zR κ raBottom a1)) ∧ (nuK κ (zR κ raTop a1) + nuK κ (zR κ raTop a1) / 2 + 1 ≤ c9 ∧ nuK κ (zR κ raBottom a1) + nuK κ (zR κ raBottom a1) / 2 + 1 ≤ c9) ∧ c9 ≤ 30000000) (h : ∀ (κ' : zS), (zF (raF (zR κ raTop a0) (zR κ raBottom a0) a0) κ κ' ∧ raJ κ' a0 c9 ∧ raV κ' a0 ((zI κ raSign a1).toInt) (nuN κ (zR κ raTop a1)) (nuN κ (zR κ raBottom a1))) → Q κ') : zRun C 2 mRa_copy [.ref a0, .ref a1] κ (oV Q noX) := by
  refine Ra_copy_run W Ta0 Ta1 ?_
  replace W := W.lo (Nat.le_trans W.1.2.1 W.1.2.2) (Nat.le_refl (zn κ))
  unfold w_Ra_copy_0
  obtain ⟨⟨ct, cb, ne⟩, ⟨It, Ib, ne1⟩, ⟨m1, m2, m3, m4⟩, ⟨p1, p2⟩, p3⟩ := hp
  intro κ_1 hκ_1
  intro W2
  intro T3
  intro T4
  have u := ui_s (z := (zR κ raTop a1)) (c := 30000000) hκ_1
  have v := ui_s (z := (zR κ raBottom a1)) (c := 30000000) hκ_1
  have R1 := u.1
  have N1 := u.2.1
  have Tb : zT κ_1 (zR κ raBottom a0) = 8 := by
    have := ty_raBottom W2 (show zT κ_1 a0 = 11 by rw [hκ_1]; exact Ta0)
    rw [R1] at this
    exact this
  have Tb1 : zT κ_1 (zR κ raBottom a1) = 8 := by
    have := ty_raBottom W2 (show zT κ_1 a1 = 11 by rw [hκ_1]; exact Ta1)
    rw [R1] at this
    exact this
  refine Nu_copy_c W2 T3 T4 c9 30000000 ?_ (fun κ_5 q6 => ?_)
  · rw [R1, N1, u.2.2.2.2.2.2.2]
    exact ⟨ct, (u.2.2.2.2.1 It).1, m1, p1, p3⟩
  rw [R1] at q6 T3 T4
  obtain ⟨F5, B5, V5, K5, Z5⟩ := q6
  have eb : zR κ_5 raBottom a0 = (zR κ raBottom a0) := (nuF_r F5 (by decide) (by decide)).trans (by rw [R1])
  have eb1 : zR κ_5 raBottom a1 = (zR κ raBottom a1) := (nuF_r F5 (by decide) (by decide)).trans (by rw [R1])
  have et : zR κ_5 raTop a0 = (zR κ raTop a0) := (nuF_r F5 (by decide) (by decide)).trans (by rw [R1])
  have ub := nu_z W2 Tb F5 (fun z => ne z.1.symm) (fun z => ne z.1.symm)
  have b1 := nuB_z (c := 30000000) W2 Tb1 F5 (fun z => m2 z.1.symm) (fun z => m2 z.1.symm)
  rw [R1] at ub
  have T5 : zT κ_5 (zR κ raTop a0) = 8 := F5.t T3 (by decide)
  intro W7
  intro M8
  intro T9
  intro T10
  refine Nu_copy_c W7 T9 T10 c9 30000000 ?_ (fun κ_11 q12 => ?_)
  · rw [eb, eb1, b1.2.2.2, v.2.2.2.2.2.2.2, ub.2.1, ub.2.2.2, N1]
    exact ⟨cb, (b1.2.1 (v.2.2.2.2.1 Ib)).1, m4, p2, p3⟩
  intro W13
  intro M14
  refine h _ ?_
  · rw [eb, eb1] at q12
    obtain ⟨F11, B11, V11, K11, Z11⟩ := q12
    have bt := nuB_z (c := c9) W7 T5 F11 (fun z => ne z.1) (fun z => ne z.1)
    have et2 : zR κ_11 raTop a0 = (zR κ raTop a0) := (nuF_r F11 (by decide) (by decide)).trans et
    have eb2 : zR κ_11 raBottom a0 = (zR κ raBottom a0) := (nuF_r F11 (by decide) (by decide)).trans eb
    have si : zI κ_11 raSign a0 = zI κ raSign a1 := (nuF_i F11).trans ((nuF_i F5).trans u.2.2.2.1)
    have It1 := u.2.2.2.2.1 It
    have Ib1 := b1.2.1 (v.2.2.2.2.1 Ib)
    refine ⟨((raF_s hκ_1).tr (raF_1 F5)).tr (raF_2 F11), ?_, ?_⟩
    · unfold raJ
      rw [et2, eb2]
      exact ⟨bt.2.1 ⟨B5, Z5 It1.2⟩, ⟨B11, Z11 Ib1.2⟩, ne⟩
    · unfold raV
      rw [et2, eb2, si, bt.2.2.1, V5, V11, b1.2.2.1, u.2.2.2.2.2.1, v.2.2.2.2.2.1]
      exact ⟨rfl, rfl, rfl⟩

theorem Ra_fits_c {C : zC} {n0 : Nat} {a0 : Nat} {κ : zS} {Q : Int32 → zS → Prop} (W : zW C n0 κ) (Ta0 : zT κ a0 = 11)  (hp : nuI κ (zR κ raTop a0) 30000000 ∧ nuI κ (zR κ raBottom a0) 30000000) (h : ∀ (v : Int32), (nb v ∧ (v ≠ 0 → nuN κ (zR κ raTop a0) < 2 ^ 256 ∧ nuN κ (zR κ raBottom a0) < 2 ^ 256)) → Q v κ) : zRun C 1 mRa_fits [.ref a0] κ (oI Q noX) := by
  refine Ra_fits_run W Ta0 ?_
  replace W := W.lo (Nat.le_trans W.1.2.1 W.1.2.2) (Nat.le_refl (zn κ))
  unfold w_Ra_fits_0
  have t256 : (256 : Int32).toInt = 256 := rfl
  intro T1
  refine Nu_bits_c W T1 30000000 ?_ (fun r2 q4 => ?_)
  · exact ⟨hp.1, Nat.le_refl _⟩  -- p1
  intro W5
  intro M6
  refine ⟨fun c7 => ?_, fun c7 => ?_⟩
  · skip
    refine h _ ?_
    · exact ⟨nb_0, fun z => absurd rfl z⟩  -- q2
  · skip
    intro T8
    refine Nu_bits_c W5 T8 30000000 ?_ (fun r9 q11 => ?_)
    · exact ⟨hp.2, Nat.le_refl _⟩  -- p3
    intro W12
    intro M13
    refine ⟨fun c14 => ?_, fun c14 => ?_⟩
    · skip
      refine h _ ?_
      · exact ⟨nb_0, fun z => absurd rfl z⟩  -- q4
    · skip
      refine h _ ?_
      · rw [lti, t256] at c7 c14
        have a := q4.1
        have b := q11.1
        exact ⟨nb_1, fun _ => ⟨Nat.lt_of_lt_of_le q4.2.1 (Nat.pow_le_pow_right (by decide) (by omega)), Nat.lt_of_lt_of_le q11.2.1 (Nat.pow_le_pow_right (by decide) (by omega))⟩⟩
