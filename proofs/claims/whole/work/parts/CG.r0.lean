section
set_option maxHeartbeats 1600000
/-! the class: Ratio: putZero, putOne, copy, fits, scale -/
def raF (t b a : Nat) : Nat → Nat → Prop := fun f x => (oo2 t b x ∧ (f = nuLimbs ∨ f = nuLength)) ∨ (x = a ∧ f = raSign)
/-- a fraction in order -/
def raJ (κ : zS) (a c : Nat) : Prop := nuI κ (zR κ raTop a) c ∧ nuI κ (zR κ raBottom a) c ∧ zR κ raTop a ≠ zR κ raBottom a
def raC (κ : zS) (a c : Nat) : Prop := nuC κ (zR κ raTop a) c ∧ nuC κ (zR κ raBottom a) c ∧ zR κ raTop a ≠ zR κ raBottom a
/-- its sign, what is above the line, what is below -/
def raV (κ : zS) (a : Nat) (s : Int) (t b : Nat) : Prop := (zI κ raSign a).toInt = s ∧ nuN κ (zR κ raTop a) = t ∧ nuN κ (zR κ raBottom a) = b
theorem raF_n {t b a : Nat} {P : Nat → Prop} {κ τ : zS} (Z : zF (nuFp P) κ τ) (h : ∀ x, P x → x = t ∨ x = b) : zF (raF t b a) κ τ := Z.mono (fun f x z => Or.inl ⟨h x z.1, z.2⟩)
theorem raF_1 {t b a : Nat} {κ τ : zS} (Z : zF (nuF t) κ τ) : zF (raF t b a) κ τ := Z.mono (fun f x z => Or.inl ⟨Or.inl z.1, z.2⟩)
theorem raF_2 {t b a : Nat} {κ τ : zS} (Z : zF (nuF b) κ τ) : zF (raF t b a) κ τ := Z.mono (fun f x z => Or.inl ⟨Or.inr z.1, z.2⟩)
theorem raF_s {t b a : Nat} {κ τ : zS} {v : Int32} (e : τ = ui κ raSign a v) : zF (raF t b a) κ τ := by
  rw [e]
  exact zF_ui (Or.inr ⟨rfl, rfl⟩)
theorem raF_r {t b a f x : Nat} {κ τ : zS} (Z : zF (raF t b a) κ τ) (h1 : f ≠ nuLimbs) (h2 : f ≠ nuLength) (h3 : f ≠ raSign) : zR τ f x = zR κ f x := Z.r (fun z => by
  rcases z with ⟨_, z | z⟩ | ⟨_, z⟩
  · exact h1 z
  · exact h2 z
  · exact h3 z)
theorem nuF_i {x a : Nat} {κ τ : zS} (Z : zF (nuF x) κ τ) : zI τ raSign a = zI κ raSign a := Z.i (fun z => z.2.elim (fun y => absurd y (by decide)) (fun y => absurd y (by decide)))
theorem ui_s {κ τ : zS} {a z c : Nat} {v : Int32} (e : τ = ui κ raSign a v) : zR τ = zR κ ∧ zN τ = zN κ ∧ zA τ = zA κ ∧ zI τ raSign a = v ∧ (nuI κ z c → nuI τ z c) ∧ nuN τ z = nuN κ z ∧ (nuB κ z c → nuB τ z c) ∧ nuK τ z = nuK κ z := by
  have i9 : (if nuLength = raSign ∧ z = a then v else zI κ nuLength z) = zI κ nuLength z := if_neg (fun y => absurd y.1 (by decide))
  have i : zI τ nuLength z = zI κ nuLength z := by rw [e]; exact i9
  have r : zR τ = zR κ := by rw [e]; rfl
  have n : zN τ = zN κ := by rw [e]; rfl
  have aa : zA τ = zA κ := by rw [e]; rfl
  refine ⟨r, n, aa, by rw [e]; exact if_pos ⟨rfl, rfl⟩, fun h => ?_, ?_, fun h => ?_, ?_⟩
  · unfold nuI nuB nuZ
    rw [i, r, n, aa]
    exact h
  · unfold nuN
    rw [i, r, aa]
  · unfold nuB
    rw [i, r, n, aa]
    exact h
  · unfold nuK
    rw [i]
theorem Ra_putZero_c {C : zC} {n0 : Nat} {a0 : Nat} {κ : zS} {Q : zS → Prop} (W : zW C n0 κ) (Ta0 : zT κ a0 = 11) (c9 : Nat) (hp : raC κ a0 c9) (h : ∀ (κ' : zS), (zF (raF (zR κ raTop a0) (zR κ raBottom a0) a0) κ κ' ∧ raJ κ' a0 c9 ∧ raV κ' a0 0 0 1) → Q κ') : zRun C 1 mRa_putZero [.ref a0] κ (oV Q noX) := by
  refine Ra_putZero_run W Ta0 ?_
  replace W := W.lo (Nat.le_trans W.1.2.1 W.1.2.2) (Nat.le_refl (zn κ))
  unfold w_Ra_putZero_0
  obtain ⟨ct, cb, ne⟩ := hp
  intro κ_1 hκ_1
  intro W2
  intro T3
  have u := ui_s (z := 0) (c := 0) hκ_1
  have R1 := u.1
  have N1 := u.2.1
  refine Nu_put_c W2 T3 c9 ?_ (fun κ_4 q5 => ?_)
  · rw [R1, N1]
    exact ⟨⟨by decide, by decide⟩, ct⟩
  rw [R1] at q5
  obtain ⟨F4, ⟨R4, N4⟩, I4, V4⟩ := q5
  have eb : zR κ_4 raBottom a0 = (zR κ raBottom a0) := by rw [R4]
  have T4 : zT κ_4 (zR κ raTop a0) = 8 := F4.t (by rw [R1] at T3; exact T3) (by decide)
  intro W6
  intro M7
  intro T8
  refine Nu_put_c W6 T8 c9 ?_ (fun κ_9 q10 => ?_)
  · rw [eb, R4, N4, N1]
    exact ⟨⟨by decide, by decide⟩, cb⟩
  intro W11
  intro M12
  refine h _ ?_
  · rw [eb] at q10
    obtain ⟨F9, ⟨R9, N9⟩, I9, V9⟩ := q10
    have bt := nuB_z (c := c9) W6 T4 F9 (fun z => ne z.1) (fun z => ne z.1)
    have rr : zR κ_9 = zR κ := R9.trans R4
    have si : zI κ_9 raSign a0 = 0 := (nuF_i F9).trans ((nuF_i F4).trans u.2.2.2.1)
    refine ⟨((raF_s hκ_1).tr (raF_1 F4)).tr (raF_2 F9), ?_, ?_⟩
    · unfold raJ
      rw [rr]
      exact ⟨bt.2.1 I4, I9, ne⟩
    · unfold raV
      rw [rr, si, bt.2.2.1, V4, V9]
      exact ⟨rfl, rfl, rfl⟩

theorem Ra_putOne_c {C : zC} {n0 : Nat} {a0 : Nat} {κ : zS} {Q : zS → Prop} (W : zW C n0 κ) (Ta0 : zT κ a0 = 11) (c9 : Nat) (hp : raC κ a0 c9) (h : ∀ (κ' : zS), (zF (raF (zR κ raTop a0) (zR κ raBottom a0) a0) κ κ' ∧ raJ κ' a0 c9 ∧ raV κ' a0 1 1 1) → Q κ') : zRun C 1 mRa_putOne [.ref a0] κ (oV Q noX) := by
  refine Ra_putOne_run W Ta0 ?_
  replace W := W.lo (Nat.le_trans W.1.2.1 W.1.2.2) (Nat.le_refl (zn κ))
  unfold w_Ra_putOne_0
  obtain ⟨ct, cb, ne⟩ := hp
  intro κ_1 hκ_1
  intro W2
  intro T3
  have u := ui_s (z := 0) (c := 0) hκ_1
  have R1 := u.1
  have N1 := u.2.1
  refine Nu_put_c W2 T3 c9 ?_ (fun κ_4 q5 => ?_)
  · rw [R1, N1]
    exact ⟨⟨by decide, by decide⟩, ct⟩
  rw [R1] at q5
  obtain ⟨F4, ⟨R4, N4⟩, I4, V4⟩ := q5
  have eb : zR κ_4 raBottom a0 = (zR κ raBottom a0) := by rw [R4]
  have T4 : zT κ_4 (zR κ raTop a0) = 8 := F4.t (by rw [R1] at T3; exact T3) (by decide)
  intro W6
  intro M7
  intro T8
  refine Nu_put_c W6 T8 c9 ?_ (fun κ_9 q10 => ?_)
  · rw [eb, R4, N4, N1]
    exact ⟨⟨by decide, by decide⟩, cb⟩
  intro W11
  intro M12
  refine h _ ?_
  · rw [eb] at q10
    obtain ⟨F9, ⟨R9, N9⟩, I9, V9⟩ := q10
    have bt := nuB_z (c := c9) W6 T4 F9 (fun z => ne z.1) (fun z => ne z.1)
    have rr : zR κ_9 = zR κ := R9.trans R4
    have si : zI κ_9 raSign a0 = 1 := (nuF_i F9).trans ((nuF_i F4).trans u.2.2.2.1)
    refine ⟨((raF_s hκ_1).tr (raF_1 F4)).tr (raF_2 F9), ?_, ?_⟩
    · unfold raJ
      rw [rr]
      exact ⟨bt.2.1 I4, I9, ne⟩
    · unfold raV
      rw [rr, si, bt.2.2.1, V4, V9]
      exact ⟨rfl, rfl, rfl⟩

theorem Ra_copy_c {C : zC} {n0 : Nat} {a0 : Nat} {a1 : Nat} {κ : zS} {Q : zS → Prop} (W : zW C n0 κ) (Ta0 : zT κ a0 = 11) (Ta1 : zT κ a1 = 11) (c9 : Nat) (hp : raC κ a0 c9 ∧ raJ κ a1 30000000 ∧ ((zR κ raTop a0) ≠ (zR κ raTop a1) ∧ (zR κ raTop a0) ≠ (zR κ raBottom a1) ∧ (zR κ raBottom a0) ≠ (zR κ raTop a1) ∧ (zR κ raBottom a0) ≠ (zR κ raBottom a1)) ∧ (nuK κ (zR κ raTop a1) + nuK κ (zR κ raTop a1) / 2 + 1 ≤ c9 ∧ nuK κ (zR κ raBottom a1) + nuK κ (zR κ raBottom a1) / 2 + 1 ≤ c9) ∧ c9 ≤ 30000000) (h : ∀ (κ' : zS), (zF (raF (zR κ raTop a0) (zR κ raBottom a0) a0) κ κ' ∧ raJ κ' a0 c9 ∧ raV κ' a0 ((zI κ raSign a1).toInt) (nuN κ (zR κ raTop a1)) (nuN κ (zR κ raBottom a1))) → Q κ') : zRun C 2 mRa_copy [.ref a0, .ref a1] κ (oV Q noX) := by
  refine Ra_copy_run W Ta0 Ta1 ?_
  replace W := W.lo (Nat.le_trans W.1.2.1 W.1.2.2) (Nat.le_refl (zn κ))
  unfold w_Ra_copy_0
  obtain ⟨⟨ct, cb, ne⟩, ⟨It, Ib, ne1⟩, ⟨m1, m2, m3, m4⟩, ⟨p1, p2⟩, p3⟩ := hp
  intro κ_1 hκ_1
  intro W2
  intro T3
  intro T4
  have u := ui_s (z := (zR κ raTop a1)) (c := 30000000) hκ_1
  have v := ui_s (z := (zR κ raBottom a1)) (c := 30000000) hκ_1
  have R1 := u.1
  have N1 := u.2.1
  have Tb : zT κ_1 (zR κ raBottom a0) = 8 := by
    have := ty_raBottom W2 (show zT κ_1 a0 = 11 by rw [hκ_1]; exact Ta0)
    rw [R1] at this
    exact this
  have Tb1 : zT κ_1 (zR κ raBottom a1) = 8 := by
    have := ty_raBottom W2 (show zT κ_1 a1 = 11 by rw [hκ_1]; exact Ta1)
    rw [R1] at this
    exact this
  refine Nu_copy_c W2 T3 T4 c9 30000000 ?_ (fun κ_5 q6 => ?_)
  · rw [R1, N1, u.2.2.2.2.2.2.2]
    exact ⟨ct, (u.2.2.2.2.1 It).1, m1, p1, p3⟩
  rw [R1] at q6 T3 T4
  obtain ⟨F5, B5, V5, K5, Z5⟩ := q6
  have eb : zR κ_5 raBottom a0 = (zR κ raBottom a0) := (nuF_r F5 (by decide) (by decide)).trans (by rw [R1])
  have eb1 : zR κ_5 raBottom a1 = (zR κ raBottom a1) := (nuF_r F5 (by decide) (by decide)).trans (by rw [R1])
  have et : zR κ_5 raTop a0 = (zR κ raTop a0) := (nuF_r F5 (by decide) (by decide)).trans (by rw [R1])
  have ub := nu_z W2 Tb F5 (fun z => ne z.1.symm) (fun z => ne z.1.symm)
  have b1 := nuB_z (c := 30000000) W2 Tb1 F5 (fun z => m2 z.1.symm) (fun z => m2 z.1.symm)
  rw [R1] at ub
  have T5 : zT κ_5 (zR κ raTop a0) = 8 := F5.t T3 (by decide)
  intro W7
  intro M8
  intro T9
  intro T10
  refine Nu_copy_c W7 T9 T10 c9 30000000 ?_ (fun κ_11 q12 => ?_)
  · rw [eb, eb1, b1.2.2.2, v.2.2.2.2.2.2.2, ub.2.1, ub.2.2.2, N1]
    exact ⟨cb, (b1.2.1 (v.2.2.2.2.1 Ib)).1, m4, p2, p3⟩
  intro W13
  intro M14
  refine h _ ?_
  · rw [eb, eb1] at q12
    obtain ⟨F11, B11, V11, K11, Z11⟩ := q12
    have bt := nuB_z (c := c9) W7 T5 F11 (fun z => ne z.1) (fun z => ne z.1)
    have et2 : zR κ_11 raTop a0 = (zR κ raTop a0) := (nuF_r F11 (by decide) (by decide)).trans et
    have eb2 : zR κ_11 raBottom a0 = (zR κ raBottom a0) := (nuF_r F11 (by decide) (by decide)).trans eb
    have si : zI κ_11 raSign a0 = zI κ raSign a1 := (nuF_i F11).trans ((nuF_i F5).trans u.2.2.2.1)
    have It1 := u.2.2.2.2.1 It
    have Ib1 := b1.2.1 (v.2.2.2.2.1 Ib)
    refine ⟨((raF_s hκ_1).tr (raF_1 F5)).tr (raF_2 F11), ?_, ?_⟩
    · unfold raJ
      rw [et2, eb2]
      exact ⟨bt.2.1 ⟨B5, Z5 It1.2⟩, ⟨B11, Z11 Ib1.2⟩, ne⟩
    · unfold raV
      rw [et2, eb2, si, bt.2.2.1, V5, V11, b1.2.2.1, u.2.2.2.2.2.1, v.2.2.2.2.2.1]
      exact ⟨rfl, rfl, rfl⟩

theorem Ra_fits_c {C : zC} {n0 : Nat} {a0 : Nat} {κ : zS} {Q : Int32 → zS → Prop} (W : zW C n0 κ) (Ta0 : zT κ a0 = 11)  (hp : nuI κ (zR κ raTop a0) 30000000 ∧ nuI κ (zR κ raBottom a0) 30000000) (h : ∀ (v : Int32), (nb v ∧ (v ≠ 0 → nuN κ (zR κ raTop a0) < 2 ^ 256 ∧ nuN κ (zR κ raBottom a0) < 2 ^ 256)) → Q v κ) : zRun C 1 mRa_fits [.ref a0] κ (oI Q noX) := by
  refine Ra_fits_run W Ta0 ?_
  replace W := W.lo (Nat.le_trans W.1.2.1 W.1.2.2) (Nat.le_refl (zn κ))
  unfold w_Ra_fits_0
  have t256 : (256 : Int32).toInt = 256 := rfl
  intro T1
  refine Nu_bits_c W T1 30000000 ?_ (fun r2 q4 => ?_)
  · exact ⟨hp.1, Nat.le_refl _⟩  -- p1
  intro W5
  intro M6
  refine ⟨fun c7 => ?_, fun c7 => ?_⟩
  · skip
    refine h _ ?_
    · exact ⟨nb_0, fun z => absurd rfl z⟩  -- q2
  · skip
    intro T8
    refine Nu_bits_c W5 T8 30000000 ?_ (fun r9 q11 => ?_)
    · exact ⟨hp.2, Nat.le_refl _⟩  -- p3
    intro W12
    intro M13
    refine ⟨fun c14 => ?_, fun c14 => ?_⟩
    · skip
      refine h _ ?_
      · exact ⟨nb_0, fun z => absurd rfl z⟩  -- q4
    · skip
      refine h _ ?_
      · rw [lti, t256] at c7 c14
        have a := q4.1
        have b := q11.1
        exact ⟨nb_1, fun _ => ⟨Nat.lt_of_lt_of_le q4.2.1 (Nat.pow_le_pow_right (by decide) (by omega)), Nat.lt_of_lt_of_le q11.2.1 (Nat.pow_le_pow_right (by decide) (by omega))⟩⟩

end
section
set_option maxHeartbeats 1600000
/-! the class: Ratio's scale -/
def scI (κ τ : zS) (a c : Nat) (l4 l5 l6 l7 a1 a2 : Int32) (b : Nat) : Prop := (zF (raF (zR κ raTop a) (zR κ raBottom a) a) κ τ ∧ zI τ raSign a = zI κ raSign a) ∧ (nuI τ (zR κ raTop a) c ∧ nuN τ (zR κ raTop a) ≤ nuN κ (zR κ raTop a)) ∧ (nuI τ (zR κ raBottom a) c ∧ nuN τ (zR κ raBottom a) = b) ∧ (0 < l4.toInt ∧ l4.toInt ≤ a1.toInt) ∧ (0 < l5.toInt ∧ l5.toInt.toNat ∣ a2.toInt.toNat) ∧ (0 < l6.toInt ∧ l6.toInt.toNat ∣ l5.toInt.toNat) ∧ 0 < l7.toInt ∧ l7.toInt.toNat ∣ nuN κ (zR κ raBottom a)
theorem sc_d {B S L F a : Nat} (h1 : S ∣ B) (h2 : F ∣ L) (h3 : L ∣ a) : B / S * (L / F) ∣ B * a := by
  refine Nat.mul_dvd_mul ?_ ?_
  · exact Nat.div_dvd_of_dvd h1
  · exact Nat.dvd_trans (Nat.div_dvd_of_dvd h2) h3
theorem dv_p {B S : Nat} (hB : 0 < B) (h : S ∣ B) : 0 < B / S := Nat.div_pos (Nat.le_of_dvd hB h) (Nat.pos_of_dvd_of_pos h hB)
theorem i_divn {x y : Int32} (h0 : 0 ≤ x.toInt) (hy : 0 < y.toInt) : (x / y).toInt = ((x.toInt.toNat / y.toInt.toNat : Nat) : Int) ∧ (x / y).toInt.toNat = x.toInt.toNat / y.toInt.toNat ∧ 0 ≤ (x / y).toInt := by
  have d := div_i h0 hy
  have e : (x / y).toInt = ((x.toInt.toNat / y.toInt.toNat : Nat) : Int) := by
    rw [d, Int.natCast_ediv]
    congr 1 <;> omega
  exact ⟨e, by rw [e]; exact Int.toNat_natCast _, by rw [e]; exact Int.natCast_nonneg _⟩
theorem i_n0 {x : Int32} (h : 0 < x.toInt) : ¬ x = 0 := fun z => by
  rw [z] at h
  exact absurd h (by decide)
theorem Ra_scale_c {C : zC} {n0 : Nat} {a0 : Nat} {a1 : Int32} {a2 : Int32} {κ : zS} {Q : zS → Prop} (W : zW C n0 κ) (Ta0 : zT κ a0 = 11) (c9 : Nat) (hp : raJ κ a0 c9 ∧ 0 < nuN κ (zR κ raBottom a0) ∧ (nuK κ (zR κ raTop a0) + 1 + (nuK κ (zR κ raTop a0) + 1) / 2 + 1 ≤ c9 ∧ nuK κ (zR κ raBottom a0) + 1 + (nuK κ (zR κ raBottom a0) + 1) / 2 + 1 ≤ c9) ∧ c9 ≤ 30000000) (h : ∀ (κ' : zS), (zF (raF (zR κ raTop a0) (zR κ raBottom a0) a0) κ κ' ∧ raJ κ' a0 c9 ∧ 0 < nuN κ' (zR κ raBottom a0) ∧ (raV κ' a0 0 0 1 ∨ ((0 < a1.toInt ∧ 0 < a2.toInt ∧ (zI κ raSign a0).toInt ≠ 0) ∧ zI κ' raSign a0 = zI κ raSign a0 ∧ nuN κ' (zR κ raTop a0) ≤ nuN κ (zR κ raTop a0) * a1.toInt.toNat ∧ nuN κ' (zR κ raBottom a0) ∣ nuN κ (zR κ raBottom a0) * a2.toInt.toNat))) → Q κ') : zRun C 4 mRa_scale [.ref a0, .int a1, .int a2] κ (oV Q noX) := by
  refine Ra_scale_run W Ta0 ?_
  replace W := W.lo (Nat.le_trans W.1.2.1 W.1.2.2) (Nat.le_refl (zn κ))
  unfold w_Ra_scale_0
  obtain ⟨⟨It, Ib, ne⟩, B0, ⟨p1, p2⟩, p3⟩ := hp
  have Tt := ty_raTop W Ta0
  have Tb := ty_raBottom W Ta0
  have zro : ∀ κ' : zS, (zF (raF (zR κ raTop a0) (zR κ raBottom a0) a0) κ κ' ∧ raJ κ' a0 c9 ∧ raV κ' a0 0 0 1) → zF (raF (zR κ raTop a0) (zR κ raBottom a0) a0) κ κ' ∧ raJ κ' a0 c9 ∧ 0 < nuN κ' (zR κ raBottom a0) ∧ (raV κ' a0 0 0 1 ∨ ((0 < a1.toInt ∧ 0 < a2.toInt ∧ (zI κ raSign a0).toInt ≠ 0) ∧ zI κ' raSign a0 = zI κ raSign a0 ∧ nuN κ' (zR κ raTop a0) ≤ nuN κ (zR κ raTop a0) * a1.toInt.toNat ∧ nuN κ' (zR κ raBottom a0) ∣ nuN κ (zR κ raBottom a0) * a2.toInt.toNat)) := fun κ' z => by
    have e : zR κ' raBottom a0 = (zR κ raBottom a0) := raF_r z.1 (by decide) (by decide) (by decide)
    have v := z.2.2.2.2
    rw [e] at v
    exact ⟨z.1, z.2.1, by rw [v]; decide, Or.inl z.2.2⟩
  have rC : raC κ a0 c9 := ⟨It.1.2.1, Ib.1.2.1, ne⟩
  have hj100 : ∀ (l0 : Nat) (l4 : Int32) (l5 : Int32) (l6 : Int32) (l7 : Int32) (τ : zS), zW C (zn κ) τ → zT τ l0 = 11 → (a0 = l0 ∧ scI κ τ a0 c9 l4 l5 l6 l7 a1 a2 (nuN κ (zR κ raBottom a0) / l7.toInt.toNat) ∧ (0 < a1.toInt ∧ 0 < a2.toInt ∧ (zI κ raSign a0).toInt ≠ 0)) → w_Ra_scale_100 C (zn κ) Q  l0 l4 l5 l6 l7 τ := by
    rintro _ y100_4 y100_5 y100_6 y100_7 τ100 W100 T100_0 ⟨rfl, j100⟩
    unfold w_Ra_scale_100
    obtain ⟨⟨⟨Z1, S1⟩, ⟨It1, Vt1⟩, ⟨Ib1, Vb1⟩, ⟨l41, l42⟩, ⟨l51, l52⟩, ⟨l61, l62⟩, l71, l72⟩, pos⟩ := j100
    have et1 : zR τ100 raTop a0 = (zR κ raTop a0) := raF_r Z1 (by decide) (by decide) (by decide)
    have eb1 : zR τ100 raBottom a0 = (zR κ raBottom a0) := raF_r Z1 (by decide) (by decide) (by decide)
    have Tt1 : zT τ100 (zR κ raTop a0) = 8 := Z1.t Tt (by decide)
    have Tb1 : zT τ100 (zR κ raBottom a0) = 8 := Z1.t Tb (by decide)
    have kt1 : nuK τ100 (zR κ raTop a0) ≤ nuK κ (zR κ raTop a0) := nuK_le (d := 0) It1 Vt1
    have kb1 : nuK τ100 (zR κ raBottom a0) ≤ nuK κ (zR κ raBottom a0) := nuK_le (d := 0) Ib1 (by rw [Vb1]; exact Nat.div_le_self _ _)
    have d4 := i_divn (x := y100_4) (y := y100_7) (by omega) l71
    have d5 := i_divn (x := y100_5) (y := y100_6) (by omega) l61
    have e4 : (y100_4 / y100_7).toInt64.toInt = (y100_4 / y100_7).toInt := Int32.toInt_toInt64 _
    have e5 : (y100_5 / y100_6).toInt64.toInt = (y100_5 / y100_6).toInt := Int32.toInt_toInt64 _
    have i4 := ihi (y100_4 / y100_7)
    have i5 := ihi (y100_5 / y100_6)
    refine ⟨?_, ?_⟩
    · exact i_n0 l71  -- b1
    intro T1
    refine Nu_times_c W100 T1 c9 ?_ (fun κ_2 q3 => ?_)
    · rw [et1]
      exact ⟨It1, ⟨by rw [e4]; exact d4.2.2, by rw [e4]; omega⟩, by omega, p3⟩
    rw [et1, e4, d4.2.1] at q3
    obtain ⟨F2, I2, V2⟩ := q3
    have eb2 : zR κ_2 raBottom a0 = (zR κ raBottom a0) := (nuF_r F2 (by decide) (by decide)).trans eb1
    have bb := nuB_z (c := c9) W100 Tb1 F2 (fun z => ne z.1.symm) (fun z => ne z.1.symm)
    have Tt2 : zT κ_2 (zR κ raTop a0) = 8 := F2.t Tt1 (by decide)
    intro W4
    intro M5
    refine ⟨?_, ?_⟩
    · exact i_n0 l61  -- b3
    intro T6
    refine Nu_times_c W4 T6 c9 ?_ (fun κ_7 q8 => ?_)
    · rw [eb2, bb.2.2.2]
      exact ⟨bb.2.1 Ib1, ⟨by rw [e5]; exact d5.2.2, by rw [e5]; omega⟩, by omega, p3⟩
    intro W9
    intro M10
    refine h _ ?_
    · rw [eb2, e5, d5.2.1, bb.2.2.1, Vb1] at q8
      obtain ⟨F7, I7, V7⟩ := q8
      have bt := nuB_z (c := c9) W4 Tt2 F7 (fun z => ne z.1) (fun z => ne z.1)
      have Zf := (Z1.tr (raF_1 F2)).tr (raF_2 F7)
      have et7 : zR κ_7 raTop a0 = (zR κ raTop a0) := raF_r Zf (by decide) (by decide) (by decide)
      have eb7 : zR κ_7 raBottom a0 = (zR κ raBottom a0) := raF_r Zf (by decide) (by decide) (by decide)
      have p5 : 0 < y100_5.toInt.toNat / y100_6.toInt.toNat := dv_p (by omega) l62
      have p7 : 0 < nuN κ (zR κ raBottom a0) / y100_7.toInt.toNat := dv_p B0 l72
      refine ⟨Zf, ?_, by rw [V7]; exact Nat.mul_pos p7 p5, Or.inr ⟨pos, (nuF_i F7).trans ((nuF_i F2).trans S1), ?_, by rw [V7]; exact sc_d l72 l62 l52⟩⟩
      · unfold raJ
        rw [et7, eb7]
        exact ⟨bt.2.1 I2, I7, ne⟩
      · rw [bt.2.2.1, V2]
        refine Nat.mul_le_mul Vt1 (Nat.le_trans (Nat.div_le_self _ _) ?_)
        omega
  have hj84 : ∀ (l0 : Nat) (l4 : Int32) (l5 : Int32) (l6 : Int32) (l7 : Int32) (τ : zS), zW C (zn κ) τ → zT τ l0 = 11 → (a0 = l0 ∧ scI κ τ a0 c9 l4 l5 l6 l7 a1 a2 (nuN κ (zR κ raBottom a0)) ∧ (0 < a1.toInt ∧ 0 < a2.toInt ∧ (zI κ raSign a0).toInt ≠ 0)) → w_Ra_scale_84 C (zn κ) Q  l0 l4 l5 l6 l7 τ := by
    rintro _ y84_4 y84_5 y84_6 y84_7 τ84 W84 T84_0 ⟨rfl, j84⟩
    unfold w_Ra_scale_84
    refine ⟨fun c11 => ?_, fun c11 => ?_⟩
    · skip
      refine hj100 _ _ _ _ _ _ W84 ?_ ?_
      · exact T84_0  -- t6
      · rw [lei, t1i] at c11
        obtain ⟨⟨Z1, ⟨It1, Vt1⟩, ⟨Ib1, Vb1⟩, l4, l5, l6, l71, l72⟩, pos⟩ := j84
        have e : y84_7.toInt.toNat = 1 := by omega
        exact ⟨rfl, ⟨Z1, ⟨It1, Vt1⟩, ⟨Ib1, by rw [Vb1, e, Nat.div_one]⟩, l4, l5, l6, l71, l72⟩, pos⟩
    · skip
      intro T12
      obtain ⟨⟨⟨Z1, S1⟩, ⟨It1, Vt1⟩, ⟨Ib1, Vb1⟩, l4, l5, l6, l71, l72⟩, pos⟩ := j84
      have eb1 : zR τ84 raBottom a0 = (zR κ raBottom a0) := raF_r Z1 (by decide) (by decide) (by decide)
      have Tt1 : zT τ84 (zR κ raTop a0) = 8 := Z1.t Tt (by decide)
      refine Nu_over_c W84 T12 c9 ?_ (fun r13 κ_14 q15 => ?_)
      · rw [eb1]
        exact ⟨Ib1, l71⟩
      rw [eb1, Vb1] at q15
      obtain ⟨F14, I14, V14, r14⟩ := q15
      have bt := nuB_z (c := c9) W84 Tt1 F14 (fun z => ne z.1) (fun z => ne z.1)
      intro W16
      intro M17
      refine hj100 _ _ _ _ _ _ W16 ?_ ?_
      · exact F14.t T84_0 (by decide)  -- t9
      · exact ⟨rfl, ⟨⟨Z1.tr (raF_2 F14), (nuF_i F14).trans S1⟩, ⟨bt.2.1 It1, by rw [bt.2.2.1]; exact Vt1⟩, ⟨I14, V14⟩, l4, l5, l6, l71, l72⟩, pos⟩  -- k10
  refine ⟨fun c18 => ?_, fun c18 => ?_⟩
  · skip
    intro T19
    refine Ra_putZero_c W T19 c9 ?_ (fun κ_20 q21 => ?_)
    · exact rC  -- p11
    intro W22
    intro M23
    refine h _ ?_
    · exact zro _ q21  -- q12
  · skip
    refine ⟨fun c24 => ?_, fun c24 => ?_⟩
    · skip
      intro T25
      refine Ra_putZero_c W T25 c9 ?_ (fun κ_26 q27 => ?_)
      · exact rC  -- p13
      intro W28
      intro M29
      refine h _ ?_
      · exact zro _ q27  -- q14
    · skip
      have pos : ¬ a1 ≤ 0 → ¬ a2 ≤ 0 → ¬ zI κ raSign a0 = 0 → (0 < a1.toInt ∧ 0 < a2.toInt ∧ (zI κ raSign a0).toInt ≠ 0) := fun x y z => by
        rw [lei, t0i] at x y
        exact ⟨by omega, by omega, fun w => z (Int32.toInt_inj.mp (w.trans t0i.symm))⟩
      refine ⟨fun c30 => ?_, fun c30 => ?_⟩
      · skip
        refine Ch_commonInt_c W   ?_ (fun r31 q33 => ?_)
        · have ps := pos c18 c24 c30
          exact ⟨by omega, by omega⟩
        intro W34
        intro M35
        have ps := pos c18 c24 c30
        have ps1 := ps.1
        have ps2 := ps.2.1
        clear pos
        have g1 : r31.toInt.toNat = Nat.gcd a1.toInt.toNat a2.toInt.toNat := by
          rcases q33.2 with z | z
          · exact z
          · omega
        have g0 := q33.1
        have ga : r31.toInt.toNat ∣ a1.toInt.toNat := by rw [g1]; exact Nat.gcd_dvd_left _ _
        have gb : r31.toInt.toNat ∣ a2.toInt.toNat := by rw [g1]; exact Nat.gcd_dvd_right _ _
        refine ⟨?_, ?_⟩
        · exact i_n0 (by omega)  -- b16
        intro x36 hx36
        have f4 := i_divn (x := a1) (y := r31) (by omega) (by omega)
        rw [← hx36] at f4
        have f4p := dv_p (show 0 < a1.toInt.toNat by omega) ga
        rw [← f4.2.1] at f4p
        have f4l : x36.toInt.toNat ≤ a1.toInt.toNat := by rw [f4.2.1]; exact Nat.div_le_self _ _
        refine ⟨?_, ?_⟩
        · exact i_n0 (by omega)  -- b17
        intro x37 hx37
        intro T38
        have f5 := i_divn (x := a2) (y := r31) (by omega) (by omega)
        rw [← hx37] at f5
        have f5p := dv_p (show 0 < a2.toInt.toNat by omega) gb
        rw [← f5.2.1] at f5p
        have f5d : x37.toInt.toNat ∣ a2.toInt.toNat := by rw [f5.2.1]; exact Nat.div_dvd_of_dvd gb
        refine Nu_rest_c W34 T38 c9 ?_ (fun r39 q41 => ?_)
        · exact ⟨It, by omega⟩  -- p18
        intro W42
        intro M43
        have r39p : 0 ≤ r39.toInt := by rw [q41]; exact Int.natCast_nonneg _
        refine Ch_commonInt_c W42   ?_ (fun r44 q46 => ?_)
        · exact ⟨by omega, r39p⟩  -- p19
        have g6 : r44.toInt.toNat ∣ x37.toInt.toNat := by
          rcases q46.2 with z | z
          · rw [z]; exact Nat.gcd_dvd_left _ _
          · omega
        have g6p := q46.1
        intro W47
        intro M48
        intro T49
        refine Nu_rest_c W47 T49 c9 ?_ (fun r50 q52 => ?_)
        · exact ⟨Ib, by omega⟩  -- p20
        intro W53
        intro M54
        have r50p : 0 ≤ r50.toInt := by rw [q52]; exact Int.natCast_nonneg _
        refine Ch_commonInt_c W53   ?_ (fun r55 q57 => ?_)
        · exact ⟨by omega, r50p⟩  -- p21
        have g7 : r55.toInt.toNat ∣ nuN κ (zR κ raBottom a0) := by
          have e50 : r50.toInt.toNat = nuN κ (zR κ raBottom a0) % x36.toInt.toNat := by rw [q52]; exact Int.toNat_natCast _
          rcases q57.2 with z | z
          · rw [z, e50, gc_m]; exact Nat.gcd_dvd_left _ _
          · omega
        have g7p := q57.1
        intro W58
        intro M59
        refine ⟨fun c60 => ?_, fun c60 => ?_⟩
        · skip
          refine hj84 _ _ _ _ _ _ W58 ?_ ?_
          · exact Ta0  -- t22
          · exact ⟨rfl, ⟨⟨zF.rf, rfl⟩, ⟨It, Nat.le_refl _⟩, ⟨Ib, rfl⟩, ⟨by omega, by omega⟩, ⟨by omega, f5d⟩, ⟨by omega, g6⟩, by omega, g7⟩, ps⟩  -- k23
        · skip
          intro T61
          refine Nu_over_c W58 T61 c9 ?_ (fun r62 κ_63 q64 => ?_)
          · exact ⟨It, by omega⟩  -- p24
          obtain ⟨F63, I63, V63, r63⟩ := q64
          have bb := nuB_z (c := c9) W Tb F63 (fun z => ne z.1.symm) (fun z => ne z.1.symm)
          intro W65
          intro M66
          refine hj84 _ _ _ _ _ _ W65 ?_ ?_
          · exact F63.t Ta0 (by decide)  -- t25
          · exact ⟨rfl, ⟨⟨raF_1 F63, nuF_i F63⟩, ⟨I63, by rw [V63]; exact Nat.div_le_self _ _⟩, ⟨bb.2.1 Ib, bb.2.2.1⟩, ⟨by omega, by omega⟩, ⟨by omega, f5d⟩, ⟨by omega, g6⟩, by omega, g7⟩, ps⟩  -- k26
      · skip
        intro T67
        refine Ra_putZero_c W T67 c9 ?_ (fun κ_68 q69 => ?_)
        · exact rC  -- p27
        intro W70
        intro M71
        refine h _ ?_
        · exact zro _ q69  -- q28

end
section
set_option maxHeartbeats 1600000
/-! the class: Ratio's addWhole -/
theorem jneg_i {x : Int64} (h : -9223372036854775808 < x.toInt) : (-x).toInt = -x.toInt := by
  have l := Int64.toInt_lt x
  rw [Int64.toInt_neg]
  exact Int.bmod_eq_of_le (by omega) (by omega)
theorem j_abs {x : Int32} : (if 0 < x.toInt64 then x.toInt64 else -x.toInt64).toInt = (x.toInt.natAbs : Int) := by
  have e : x.toInt64.toInt = x.toInt := Int32.toInt_toInt64 _
  have l := ilo x
  have u := ihi x
  have z64 : (0 : Int64).toInt = 0 := rfl
  by_cases z : 0 < x.toInt64
  · rw [if_pos z, e]
    rw [jlti, e, z64] at z
    omega
  · rw [if_neg z, jneg_i (by omega), e]
    rw [jlti, e, z64] at z
    omega
/-- what addWhole may touch, and what it leaves -/
def awO (κ κ' : zS) (a s c e w : Nat) : Prop := zF (fun f x => raF (zR κ raTop a) (zR κ raBottom a) a f x ∨ nuF s f x) κ κ' ∧ raJ κ' a c ∧ nuI κ' s e ∧ nuN κ' (zR κ raBottom a) = nuN κ (zR κ raBottom a) ∧ nuN κ' (zR κ raTop a) ≤ nuN κ (zR κ raTop a) + nuN κ (zR κ raBottom a) * w ∧ ((-1 ≤ (zI κ raSign a).toInt ∧ (zI κ raSign a).toInt ≤ 1) → -1 ≤ (zI κ' raSign a).toInt ∧ (zI κ' raSign a).toInt ≤ 1)
theorem Ra_addWhole_c {C : zC} {n0 : Nat} {a0 : Nat} {a1 : Int32} {a2 : Nat} {κ : zS} {Q : zS → Prop} (W : zW C n0 κ) (Ta0 : zT κ a0 = 11) (Ta2 : zT κ a2 = 8) (c9 s9 : Nat) (hp : raJ κ a0 c9 ∧ nuI κ a2 s9 ∧ (a2 ≠ (zR κ raTop a0) ∧ a2 ≠ (zR κ raBottom a0)) ∧ (nuK κ (zR κ raBottom a0) + 2 + (nuK κ (zR κ raBottom a0) + 2) / 2 + 1 ≤ s9 ∧ s9 ≤ 30000000) ∧ (nuK κ (zR κ raBottom a0) + 2 + (nuK κ (zR κ raBottom a0) + 2) / 2 + 1 ≤ c9 ∧ nuK κ (zR κ raTop a0) + 1 + (nuK κ (zR κ raTop a0) + 1) / 2 + 1 ≤ c9) ∧ c9 ≤ 30000000) (h : ∀ (κ' : zS), (awO κ κ' a0 a2 c9 s9 a1.toInt.natAbs) → Q κ') : zRun C 4 mRa_addWhole [.ref a0, .int a1, .ref a2] κ (oV Q noX) := by
  refine Ra_addWhole_run W Ta0 Ta2 ?_
  replace W := W.lo (Nat.le_trans W.1.2.1 W.1.2.2) (Nat.le_refl (zn κ))
  unfold w_Ra_addWhole_0
  obtain ⟨⟨It, Ib, ne⟩, cs, ⟨n1, n2⟩, ⟨p1, p2⟩, ⟨p3, p4⟩, p5⟩ := hp
  have Tt := ty_raTop W Ta0
  have Tb := ty_raBottom W Ta0
  have ab : a1.toInt.natAbs ≤ 2147483648 := by
    have l := ilo a1
    have u := ihi a1
    omega
  have hj31 : ∀ (l0 : Nat) (l2 : Nat) (s0 : Int32) (τ : zS), zW C (zn κ) τ → zT τ l0 = 11 → zT τ l2 = 8 → (a0 = l0 ∧ a2 = l2 ∧ zF (nuF a2) κ τ ∧ (nuI τ a2 s9 ∧ nuN τ a2 = nuN κ (zR κ raBottom a0) * a1.toInt.natAbs) ∧ (s0.toInt = 1 ∨ s0.toInt = -1)) → w_Ra_addWhole_31 C (zn κ) Q  l0 l2 s0 τ := by
    rintro _ _ y31_s0 τ31 W31 T31_0 T31_1 ⟨rfl, rfl, j31⟩
    unfold w_Ra_addWhole_31
    obtain ⟨Z1, ⟨I1, V1⟩, s1⟩ := j31
    have et1 : zR τ31 raTop a0 = (zR κ raTop a0) := nuF_r Z1 (by decide) (by decide)
    have eb1 : zR τ31 raBottom a0 = (zR κ raBottom a0) := nuF_r Z1 (by decide) (by decide)
    have bt := nuB_z (c := c9) W Tt Z1 (fun z => n1 z.1.symm) (fun z => n1 z.1.symm)
    have bb := nuB_z (c := c9) W Tb Z1 (fun z => n2 z.1.symm) (fun z => n2 z.1.symm)
    have Tt1 : zT τ31 (zR κ raTop a0) = 8 := Z1.t Tt (by decide)
    have Tb1 : zT τ31 (zR κ raBottom a0) = 8 := Z1.t Tb (by decide)
    have si1 : zI τ31 raSign a0 = zI κ raSign a0 := nuF_i Z1
    have ks : nuK τ31 a2 ≤ nuK κ (zR κ raBottom a0) + 1 := by
      refine nuK_lt I1 ?_
      have u := nuN_lt (κ := κ) (x := (zR κ raBottom a0))
      rw [V1, Nat.pow_succ]
      exact Nat.lt_of_le_of_lt (Nat.mul_le_mul_left _ ab) (Nat.mul_lt_mul_of_pos_right u (by decide))
    refine ⟨fun c1 => ?_, fun c1 => ?_⟩
    · skip
      intro T2
      intro T3
      refine Nu_plus_c W31 T2 T3 c9 30000000 ?_ (fun κ_4 q5 => ?_)
      · rw [et1, bt.2.2.2]
        exact ⟨bt.2.1 It, nuI_mono p2 I1, n1.symm, ⟨by omega, by omega⟩, p5⟩
      intro W6
      intro M7
      intro κ_8 hκ_8
      intro W9
      refine h _ ?_
      · rw [et1, bt.2.2.1, V1] at q5
        obtain ⟨F4, I4, V4⟩ := q5
        have u := ui_s (z := (zR κ raTop a0)) (c := c9) hκ_8
        have v := ui_s (z := (zR κ raBottom a0)) (c := c9) hκ_8
        have w := ui_s (z := a2) (c := s9) hκ_8
        have bb4 := nuB_z (c := c9) W31 Tb1 F4 (fun z => ne z.1.symm) (fun z => ne z.1.symm)
        have b24 := nuB_z (c := s9) W31 T31_1 F4 (fun z => n1 z.1) (fun z => n1 z.1)
        have Z : zF (fun f x => raF (zR κ raTop a0) (zR κ raBottom a0) a0 f x ∨ nuF a2 f x) κ κ_8 := ((Z1.mono (fun f x z => Or.inr z)).tr ((raF_1 F4).mono (fun f x z => Or.inl z))).tr ((raF_s hκ_8).mono (fun f x z => Or.inl z))
        have et : zR κ_8 raTop a0 = (zR κ raTop a0) := by rw [u.1]; exact (nuF_r F4 (by decide) (by decide)).trans et1
        have eb : zR κ_8 raBottom a0 = (zR κ raBottom a0) := by rw [u.1]; exact (nuF_r F4 (by decide) (by decide)).trans eb1
        refine ⟨Z, ?_, (w.2.2.2.2.1 (b24.2.1 I1)), ?_, ?_, fun _ => ?_⟩
        · unfold raJ
          rw [et, eb]
          exact ⟨u.2.2.2.2.1 I4, v.2.2.2.2.1 (bb4.2.1 (bb.2.1 Ib)), ne⟩
        · rw [v.2.2.2.2.2.1, bb4.2.2.1, bb.2.2.1]
        · rw [u.2.2.2.2.2.1, V4]
          exact Nat.le_refl _
        · rw [u.2.2.2.1]
          omega
    · skip
      intro T10
      intro T11
      refine Nu_compare_c W31 T10 T11 30000000 30000000 ?_ (fun r12 q14 => ?_)
      · rw [et1]
        exact ⟨nuI_mono p2 I1, nuI_mono p5 (bt.2.1 It)⟩
      intro W15
      intro M16
      rw [et1] at q14
      refine ⟨fun c17 => ?_, fun c17 => ?_⟩
      · skip
        intro T18
        intro T19
        refine Nu_minus_c W15 T18 T19 s9 30000000 ?_ (fun κ_20 q21 => ?_)
        · rw [lei, t0i] at c17
          rw [et1]
          exact ⟨I1, nuI_mono p5 (bt.2.1 It), n1, by omega⟩
        rw [et1, V1, bt.2.2.1] at q21
        obtain ⟨F20, I20, V20⟩ := q21
        have et20 : zR κ_20 raTop a0 = (zR κ raTop a0) := (nuF_r F20 (by decide) (by decide)).trans et1
        have eb20 : zR κ_20 raBottom a0 = (zR κ raBottom a0) := (nuF_r F20 (by decide) (by decide)).trans eb1
        have bt20 := nuB_z (c := c9) W31 Tt1 F20 (fun z => n1 z.1.symm) (fun z => n1 z.1.symm)
        have bb20 := nuB_z (c := c9) W31 Tb1 F20 (fun z => n2 z.1.symm) (fun z => n2 z.1.symm)
        have Tb20 : zT κ_20 (zR κ raBottom a0) = 8 := F20.t Tb1 (by decide)
        have T220 : zT κ_20 a2 = 8 := F20.t T31_1 (by decide)
        have ks20 : nuK κ_20 a2 ≤ nuK κ (zR κ raBottom a0) + 1 := Nat.le_trans (nuK_le (τ := τ31) (y := a2) (d := 0) I20 (by rw [V20, V1]; exact Nat.sub_le _ _)) ks
        intro W22
        intro M23
        intro T24
        intro T25
        refine Nu_copy_c W22 T24 T25 c9 30000000 ?_ (fun κ_26 q27 => ?_)
        · rw [et20]
          exact ⟨(bt20.2.1 (bt.2.1 It)).1.2.1, nuB_mono p2 I20.1, n1.symm, by omega, p5⟩
        rw [et20, V20] at q27
        obtain ⟨F26, B26, V26, K26, Y26⟩ := q27
        have et26 : zR κ_26 raTop a0 = (zR κ raTop a0) := (nuF_r F26 (by decide) (by decide)).trans et20
        have eb26 : zR κ_26 raBottom a0 = (zR κ raBottom a0) := (nuF_r F26 (by decide) (by decide)).trans eb20
        have bb26 := nuB_z (c := c9) W22 Tb20 F26 (fun z => ne z.1.symm) (fun z => ne z.1.symm)
        have b226 := nuB_z (c := s9) W22 T220 F26 (fun z => n1 z.1) (fun z => n1 z.1)
        have Z26 : zF (fun f x => raF (zR κ raTop a0) (zR κ raBottom a0) a0 f x ∨ nuF a2 f x) κ κ_26 := ((Z1.mono (fun f x z => Or.inr z)).tr (F20.mono (fun f x z => Or.inr z))).tr ((raF_1 F26).mono (fun f x z => Or.inl z))
        have fin : ∀ (ρ : zS) (v : Int32), ρ = ui κ_26 raSign a0 v → (-1 ≤ v.toInt ∧ v.toInt ≤ 1) → awO κ ρ a0 a2 c9 s9 a1.toInt.natAbs := fun ρ v9 e hv => by
          have u := ui_s (z := (zR κ raTop a0)) (c := c9) e
          have v := ui_s (z := (zR κ raBottom a0)) (c := c9) e
          have w := ui_s (z := a2) (c := s9) e
          have et : zR ρ raTop a0 = (zR κ raTop a0) := by rw [u.1]; exact et26
          have eb : zR ρ raBottom a0 = (zR κ raBottom a0) := by rw [u.1]; exact eb26
          refine ⟨Z26.tr ((raF_s e).mono (fun f x z => Or.inl z)), ?_, (w.2.2.2.2.1 (b226.2.1 I20)), ?_, ?_, fun _ => ?_⟩
          · unfold raJ
            rw [et, eb]
            exact ⟨u.2.2.2.2.1 ⟨B26, Y26 I20.2⟩, v.2.2.2.2.1 (bb26.2.1 (bb20.2.1 (bb.2.1 Ib))), ne⟩
          · rw [v.2.2.2.2.2.1, bb26.2.2.1, bb20.2.2.1, bb.2.2.1]
          · rw [u.2.2.2.2.2.1, V26]
            omega
          · rw [u.2.2.2.1]
            exact hv
        intro W28
        intro M29
        refine ⟨fun c30 => ?_, fun c30 => ?_⟩
        · skip
          intro κ_31 hκ_31
          intro W32
          refine h _ ?_
          · exact fin _ _ hκ_31 (by omega)  -- q6
        · skip
          intro κ_33 hκ_33
          intro W34
          refine h _ ?_
          · exact fin _ _ hκ_33 ⟨by decide, by decide⟩  -- q7
      · skip
        intro T35
        intro T36
        refine Nu_minus_c W15 T35 T36 c9 30000000 ?_ (fun κ_37 q38 => ?_)
        · rw [lei, t0i] at c17
          rw [et1]
          exact ⟨bt.2.1 It, nuI_mono p2 I1, n1.symm, by omega⟩
        intro W39
        intro M40
        refine h _ ?_
        · rw [et1, V1, bt.2.2.1] at q38
          obtain ⟨F37, I37, V37⟩ := q38
          have bb37 := nuB_z (c := c9) W31 Tb1 F37 (fun z => ne z.1.symm) (fun z => ne z.1.symm)
          have b237 := nuB_z (c := s9) W31 T31_1 F37 (fun z => n1 z.1) (fun z => n1 z.1)
          have et : zR κ_37 raTop a0 = (zR κ raTop a0) := (nuF_r F37 (by decide) (by decide)).trans et1
          have eb : zR κ_37 raBottom a0 = (zR κ raBottom a0) := (nuF_r F37 (by decide) (by decide)).trans eb1
          have si : zI κ_37 raSign a0 = zI κ raSign a0 := (nuF_i F37).trans si1
          refine ⟨(Z1.mono (fun f x z => Or.inr z)).tr ((raF_1 F37).mono (fun f x z => Or.inl z)), ?_, (b237.2.1 I1), ?_, ?_, fun z => ?_⟩
          · unfold raJ
            rw [et, eb]
            exact ⟨I37, bb37.2.1 (bb.2.1 Ib), ne⟩
          · rw [bb37.2.2.1, bb.2.2.1]
          · rw [V37]
            omega
          · rw [si]
            exact z
  refine ⟨fun c41 => ?_, fun c41 => ?_⟩
  · skip
    intro T42
    intro T43
    refine Nu_copy_c W T42 T43 s9 30000000 ?_ (fun κ_44 q45 => ?_)
    · exact ⟨cs.1.2.1, nuB_mono p5 Ib.1, n2, by omega, p2⟩  -- p10
    obtain ⟨F44, B44, V44, K44, Y44⟩ := q45
    have T44 : zT κ_44 a2 = 8 := F44.t Ta2 (by decide)
    intro W46
    intro M47
    intro T48
    refine Nu_times_c W46 T48 s9 ?_ (fun κ_49 q50 => ?_)
    · rw [K44, j_abs]
      exact ⟨⟨B44, Y44 Ib.2⟩, ⟨by omega, by omega⟩, by omega, p2⟩
    intro W51
    intro M52
    rw [j_abs, Int.toNat_natCast, V44] at q50
    obtain ⟨F49, I49, V49⟩ := q50
    refine ⟨fun c53 => ?_, fun c53 => ?_⟩
    · skip
      refine hj31 _ _ _ _ W51 ?_ ?_ ?_
      · exact (F44.tr F49).t Ta0 (by decide)  -- t12
      · exact (F44.tr F49).t Ta2 (by decide)  -- t13
      · exact ⟨rfl, rfl, F44.tr F49, ⟨I49, V49⟩, Or.inr rfl⟩  -- k14
    · skip
      refine hj31 _ _ _ _ W51 ?_ ?_ ?_
      · exact (F44.tr F49).t Ta0 (by decide)  -- t15
      · exact (F44.tr F49).t Ta2 (by decide)  -- t16
      · exact ⟨rfl, rfl, F44.tr F49, ⟨I49, V49⟩, Or.inl rfl⟩  -- k17
  · skip
    refine h _ ?_
    · refine ⟨zF.rf, ⟨It, Ib, ne⟩, cs, rfl, Nat.le_add_right _ _, fun z => z⟩  -- q18

end
section
set_option maxHeartbeats 1600000
/-! the class: the numbers of Solver and Odds, by roles -/
/-- how many limbs a number of a role may come to have -/
def capR (r : Nat) : Nat := if r < 100 then 6500 else if r < 1000000 then 20 else if r < 2000000 then (if r % 33 = (1000000 + 32) % 33 then 3000 else 40) else 3000
/-- roles of numbers: 1 whole, 4 factor, 5 scaled, 6 term, 7 sum, 8 less, 9 spare, 10 the Calc's own, 15 held; 20 a part (21, 22 its numbers), 30 what is shown; 100 + 8 k visits, 104 + 8 k worths; cells, edges -/
def nmR (r : Nat) : Prop := (1 ≤ r ∧ r < 20) ∨ r = 21 ∨ r = 22 ∨ r = 31 ∨ r = 32 ∨ (100 ≤ r ∧ r < 1000000 ∧ r % 4 ≠ 0) ∨ 1000000 ≤ r
def raR (r : Nat) : Prop := r = 20 ∨ r = 30 ∨ (100 ≤ r ∧ r < 1000000 ∧ r % 4 = 0)
def nmI (ρ : Nat → Nat) (κ : zS) : Prop := (∀ w, nmR (ρ w) → zT κ w = 8 ∧ nuC κ w (capR (ρ w)) ∧ (ρ w ≠ 10 → nuI κ w (capR (ρ w)))) ∧ ∀ v, raR (ρ v) → zT κ v = 11 ∧ ρ (zR κ raTop v) = ρ v + 1 ∧ ρ (zR κ raBottom v) = ρ v + 2
theorem capR_l {r : Nat} : capR r ≤ 30000000 := by
  unfold capR
  split
  · decide
  · split
    · decide
    · split
      · split <;> decide
      · decide
theorem raR_n {r : Nat} (h : raR r) : nmR (r + 1) ∧ nmR (r + 2) := by
  rcases h with h | h | ⟨h1, h2, h3⟩
  · rw [h]; exact ⟨Or.inr (Or.inl rfl), Or.inr (Or.inr (Or.inl rfl))⟩
  · rw [h]; exact ⟨Or.inr (Or.inr (Or.inr (Or.inl rfl))), Or.inr (Or.inr (Or.inr (Or.inr (Or.inl rfl))))⟩
  · exact ⟨Or.inr (Or.inr (Or.inr (Or.inr (Or.inr (Or.inl ⟨by omega, by omega, by omega⟩))))), Or.inr (Or.inr (Or.inr (Or.inr (Or.inr (Or.inl ⟨by omega, by omega, by omega⟩)))))⟩
/-- what calls may touch: numbers and signs of some roles, and a Calc's fields -/
def soF (ρ : Nat → Nat) (R : Nat → Prop) (ca : Nat) : Nat → Nat → Prop := fun f b => (R (ρ b) ∧ (f = nuLimbs ∨ f = nuLength ∨ f = raSign)) ∨ (b = ca ∧ (f = caRest ∨ f = caX ∨ f = caY ∨ f = caFactors))
theorem soF_m {ρ : Nat → Nat} {R R' : Nat → Prop} {ca : Nat} {κ τ : zS} (h : ∀ r, R r → R' r) (Z : zF (soF ρ R ca) κ τ) : zF (soF ρ R' ca) κ τ := Z.mono (fun f b z => by
  rcases z with z | z
  · exact Or.inl ⟨h _ z.1, z.2⟩
  · exact Or.inr z)
theorem soF_1 {ρ : Nat → Nat} {R : Nat → Prop} {ca x : Nat} {κ τ : zS} (h : R (ρ x)) (Z : zF (nuF x) κ τ) : zF (soF ρ R ca) κ τ := Z.mono (fun f b z => Or.inl ⟨z.1 ▸ h, z.2.elim Or.inl (fun y => Or.inr (Or.inl y))⟩)
theorem soF_p {ρ : Nat → Nat} {R P : Nat → Prop} {ca : Nat} {κ τ : zS} (h : ∀ b, P b → R (ρ b)) (Z : zF (nuFp P) κ τ) : zF (soF ρ R ca) κ τ := Z.mono (fun f b z => Or.inl ⟨h b z.1, z.2.elim Or.inl (fun y => Or.inr (Or.inl y))⟩)
theorem soF_c {ρ : Nat → Nat} {R P : Nat → Prop} {ca : Nat} {κ τ : zS} (h : ∀ b, P b → R (ρ b)) (Z : zF (caF P ca) κ τ) : zF (soF ρ R ca) κ τ := Z.mono (fun f b z => by
  rcases z with z | z
  · exact Or.inl ⟨h _ z.1, z.2.elim Or.inl (fun y => Or.inr (Or.inl y))⟩
  · exact Or.inr z)
theorem soF_s {ρ : Nat → Nat} {R : Nat → Prop} {ca a : Nat} {κ τ : zS} {v : Int32} (h : R (ρ a)) (e : τ = ui κ raSign a v) : zF (soF ρ R ca) κ τ := by
  rw [e]
  exact zF_ui (Or.inl ⟨h, Or.inr (Or.inr rfl)⟩)
/-- a Solver's own numbers -/
def soI (ρ : Nat → Nat) (κ : zS) (a : Nat) : Prop := (ρ (zR κ soWhole a) = 1 ∧ ρ (zR κ soFactor a) = 4 ∧ ρ (zR κ soScaled a) = 5 ∧ ρ (zR κ soTerm a) = 6 ∧ ρ (zR κ soSum a) = 7 ∧ ρ (zR κ soLess a) = 8 ∧ ρ (zR κ soPart a) = 20) ∧ (caN κ (zR κ soCalc a) ∧ (zN κ (zR κ caFactors (zR κ soCalc a))) = 4) ∧ (∀ b, caS κ (zR κ soCalc a) b → ρ b = 10) ∧ ρ (zR κ caSpare (zR κ soCalc a)) = 9
theorem ro_n {ρ : Nat → Nat} {a b r s : Nat} (h1 : ρ a = r) (h2 : ρ b = s) (h : r ≠ s) : a ≠ b := fun e => h (by rw [← h1, ← h2, e])
/-- a Calc in order, by roles -/
theorem so_ca {ρ : Nat → Nat} {κ : zS} {a : Nat} (N : nmI ρ κ) (I : soI ρ κ a) : caI κ (zR κ soCalc a) 6500 := by
  obtain ⟨_, ⟨n, f⟩, s, _⟩ := I
  have c : ∀ b, caS κ (zR κ soCalc a) b → nuC κ b 6500 := fun b z => by
    have r := s b z
    have q := (N.1 b (by rw [r]; exact Or.inl ⟨by decide, by decide⟩)).2.1
    rw [r] at q
    exact q
  exact ⟨n, ⟨⟨c _ (Or.inl rfl), c _ (Or.inr (Or.inl rfl)), c _ (Or.inr (Or.inr (Or.inl rfl))), c _ (Or.inr (Or.inr (Or.inr (Or.inl rfl)))), c _ (Or.inr (Or.inr (Or.inr (Or.inr rfl))))⟩, f⟩⟩
theorem so_o {ρ : Nat → Nat} {κ : zS} {a w r : Nat} (I : soI ρ κ a) (h : ρ w = r) (hr : r ≠ 10) : ¬ caS κ (zR κ soCalc a) w := fun z => hr (h.symm.trans (I.2.2.1 w z))
/-- numbers stay in order when only one was written -/
theorem nm_1 {C : zC} {n0 x : Nat} {ρ : Nat → Nat} {κ τ : zS} (W : zW C n0 κ) (N : nmI ρ κ) (Z : zF (nuF x) κ τ) (I : nuI τ x (capR (ρ x))) : nmI ρ τ := by
  refine ⟨fun w h => ?_, fun v h => ?_⟩
  · obtain ⟨t, c, i⟩ := N.1 w h
    refine ⟨Z.t t (by decide), ?_, fun y => ?_⟩
    · by_cases e : w = x
      · rw [e]; exact I.1.2.1
      · have u := nu_z W t Z (fun z => e z.1) (fun z => e z.1)
        unfold nuC
        rw [u.2.1, u.2.2.2]
        exact c
    · by_cases e : w = x
      · rw [e]; exact I
      · exact (nuB_z (c := capR (ρ w)) W t Z (fun z => e z.1) (fun z => e z.1)).2.1 (i y)
  · obtain ⟨t, p, q⟩ := N.2 v h
    exact ⟨Z.t t (by decide), by rw [nuF_r Z (by decide) (by decide)]; exact p, by rw [nuF_r Z (by decide) (by decide)]; exact q⟩
theorem so_k {ρ : Nat → Nat} {κ τ : zS} {a : Nat} (I : soI ρ κ a) (hr : ∀ f b, f ≠ nuLimbs → f ≠ nuLength → zR τ f b = zR κ f b) (hn : zN τ (zR κ caFactors (zR κ soCalc a)) = zN κ (zR κ caFactors (zR κ soCalc a))) : soI ρ τ a := by
  unfold soI caN caS
  rw [hr soWhole a (by decide) (by decide), hr soFactor a (by decide) (by decide), hr soScaled a (by decide) (by decide), hr soTerm a (by decide) (by decide), hr soSum a (by decide) (by decide), hr soLess a (by decide) (by decide), hr soPart a (by decide) (by decide), hr soCalc a (by decide) (by decide), hr caQuotient _ (by decide) (by decide), hr caRest _ (by decide) (by decide), hr caDivisor _ (by decide) (by decide), hr caX _ (by decide) (by decide), hr caY _ (by decide) (by decide), hr caFactors _ (by decide) (by decide), hr caSpare _ (by decide) (by decide), hn]
  exact I
theorem so_1 {C : zC} {n0 a x : Nat} {ρ : Nat → Nat} {κ τ : zS} (W : zW C n0 κ) (Ta : zT κ a = 12) (I : soI ρ κ a) (Z : zF (nuF x) κ τ) : soI ρ τ a := so_k I (fun f b h1 h2 => nuF_r Z h1 h2) (Z.l (ty_caFactors W (ty_soCalc W Ta)))
/-- a division by the Solver's Calc -/
theorem nm_d {C : zC} {n0 a A B : Nat} {ρ : Nat → Nat} {κ τ : zS} (W : zW C n0 κ) (Ta : zT κ a = 12) (N : nmI ρ κ) (I : soI ρ κ a) (D : dvO κ τ (zR κ caQuotient (zR κ soCalc a)) (zR κ caRest (zR κ soCalc a)) (zR κ caDivisor (zR κ soCalc a)) A B 6500) : nmI ρ τ ∧ soI ρ τ a := by
  have s := I.2.2.1
  have rq := s _ (Or.inl rfl)
  have rr := s _ (Or.inr (Or.inl rfl))
  have rd := s _ (Or.inr (Or.inr (Or.inl rfl)))
  obtain ⟨Z, ⟨IQ, _⟩, ⟨IR, _⟩, CD⟩ := D
  have no : ∀ w, ρ w ≠ 10 → ¬ oo3 (zR κ caQuotient (zR κ soCalc a)) (zR κ caRest (zR κ soCalc a)) (zR κ caDivisor (zR κ soCalc a)) w := fun w h => oo3_n (fun e => h (by rw [e]; exact rq)) (fun e => h (by rw [e]; exact rr)) (fun e => h (by rw [e]; exact rd))
  refine ⟨⟨fun w h => ?_, fun v h => ?_⟩, so_k I (fun f b h1 h2 => nuFp_r Z h1 h2) (Z.l (ty_caFactors W (ty_soCalc W Ta)))⟩
  · obtain ⟨t, c, i⟩ := N.1 w h
    refine ⟨Z.t t (by decide), ?_, fun y => (nuFp_B (c := capR (ρ w)) W t Z (no w y)).2.1 (i y)⟩
    by_cases e1 : w = zR κ caQuotient (zR κ soCalc a)
    · rw [e1, rq]; exact IQ.1.2.1
    · by_cases e2 : w = zR κ caRest (zR κ soCalc a)
      · rw [e2, rr]; exact IR.1.2.1
      · by_cases e3 : w = zR κ caDivisor (zR κ soCalc a)
        · rw [e3, rd]; exact CD
        · exact nuFp_C W t Z (oo3_n e1 e2 e3) c
  · obtain ⟨t, p, q⟩ := N.2 v h
    exact ⟨Z.t t (by decide), by rw [nuFp_r Z (by decide) (by decide)]; exact p, by rw [nuFp_r Z (by decide) (by decide)]; exact q⟩
/-- a number of a role -/
theorem nm_g {ρ : Nat → Nat} {κ : zS} {w r : Nat} (N : nmI ρ κ) (h : ρ w = r) (hr : nmR r) (h10 : r ≠ 10) : nuI κ w (capR r) ∧ nuI κ w 30000000 ∧ nuC κ w (capR r) := by
  have q := N.1 w (by rw [h]; exact hr)
  rw [h] at q
  exact ⟨q.2.2 h10, nuI_mono capR_l (q.2.2 h10), q.2.1⟩

end
section
set_option maxHeartbeats 1600000
/-! the class: Solver's addTerm -/
theorem soF_x {ρ : Nat → Nat} {R : Nat → Prop} {ca w : Nat} (h : ¬ R (ρ w)) : ¬ soF ρ R ca nuLimbs w ∧ ¬ soF ρ R ca nuLength w := by
  refine ⟨fun z => ?_, fun z => ?_⟩
  · rcases z with z | ⟨_, z | z | z | z⟩
    · exact h z.1
    · exact absurd z (by decide)
    · exact absurd z (by decide)
    · exact absurd z (by decide)
    · exact absurd z (by decide)
  · rcases z with z | ⟨_, z | z | z | z⟩
    · exact h z.1
    · exact absurd z (by decide)
    · exact absurd z (by decide)
    · exact absurd z (by decide)
    · exact absurd z (by decide)
theorem soF_B {C : zC} {n0 w c ca : Nat} {ρ : Nat → Nat} {R : Nat → Prop} {κ τ : zS} (W : zW C n0 κ) (T : zT κ w = 8) (Z : zF (soF ρ R ca) κ τ) (h : ¬ R (ρ w)) : (nuI κ w c → nuI τ w c) ∧ nuN τ w = nuN κ w ∧ nuK τ w = nuK κ w := by
  have x := soF_x (ca := ca) h
  have b := nuB_z (c := c) W T Z x.1 x.2
  exact ⟨b.2.1, b.2.2.1, b.2.2.2⟩
/-- powers that nobody should work out -/
def pB9 (m : Nat) : Nat := 2147483648 ^ m
theorem pB9_2 {m : Nat} : pB9 (m + 2) = pB9 m * 4611686018427387904 := by
  unfold pB9
  rw [Nat.pow_add]
theorem pB9_a {m n : Nat} : pB9 (m + n) = pB9 m * pB9 n := by
  unfold pB9
  rw [Nat.pow_add]
/-- roles that addTerm touches -/
def adR9 : Nat → Prop := fun r => r = 4 ∨ r = 5 ∨ r = 6 ∨ r = 7 ∨ r = 8 ∨ r = 10
theorem j_ab {x : Int64} (h : -4611686018427387904 < x.toInt) (h2 : x.toInt < 4611686018427387904) : (if 0 < x then x else -x).toInt = (x.toInt.natAbs : Int) := by
  have z64 : (0 : Int64).toInt = 0 := rfl
  by_cases z : 0 < x
  · rw [if_pos z]
    rw [jlti, z64] at z
    omega
  · rw [if_neg z, jneg_i (by omega)]
    rw [jlti, z64] at z
    omega
theorem nuK_2 {κ : zS} {w c : Nat} (I : nuI κ w c) (h : nuN κ w < 4611686018427387904) : nuK κ w ≤ 2 := nuK_lt I (by
  have e : (2147483648 : Nat) ^ 2 = 4611686018427387904 := by decide
  rw [e]
  exact h)
theorem So_addTerm_c {C : zC} {n0 : Nat} {a0 : Nat} {a1 : Int64} {κ : zS} {Q : zS → Prop} (W : zW C n0 κ) (Ta0 : zT κ a0 = 12) (ρ : Nat → Nat) (hp : (nmI ρ κ ∧ soI ρ κ a0) ∧ (-4611686018427387904 < a1.toInt ∧ a1.toInt < 4611686018427387904) ∧ (nuN κ (zR κ soWhole a0) < pB9 2000 ∧ nuN κ (zR κ raTop (zR κ soPart a0)) < pB9 100 ∧ 0 < nuN κ (zR κ raBottom (zR κ soPart a0))) ∧ nuN κ (zR κ soSum a0) < pB9 4000 ∧ nuN κ (zR κ soLess a0) < pB9 4000) (h : ∀ (κ' : zS), (zF (soF ρ adR9 (zR κ soCalc a0)) κ κ' ∧ (nmI ρ κ' ∧ soI ρ κ' a0) ∧ (0 < a1.toInt → nuN κ' (zR κ soSum a0) = nuN κ (zR κ soSum a0) + nuN κ (zR κ raTop (zR κ soPart a0)) * a1.toInt.natAbs * (nuN κ (zR κ soWhole a0) / nuN κ (zR κ raBottom (zR κ soPart a0))) ∧ nuN κ' (zR κ soLess a0) = nuN κ (zR κ soLess a0)) ∧ (¬ 0 < a1.toInt → nuN κ' (zR κ soLess a0) = nuN κ (zR κ soLess a0) + nuN κ (zR κ raTop (zR κ soPart a0)) * a1.toInt.natAbs * (nuN κ (zR κ soWhole a0) / nuN κ (zR κ raBottom (zR κ soPart a0))) ∧ nuN κ' (zR κ soSum a0) = nuN κ (zR κ soSum a0))) → Q κ') : zRun C 4 mSo_addTerm [.ref a0, .long a1] κ (oV Q noX) := by
  refine So_addTerm_run W Ta0 ?_
  replace W := W.lo (Nat.le_trans W.1.2.1 W.1.2.2) (Nat.le_refl (zn κ))
  unfold w_So_addTerm_0
  obtain ⟨⟨N0, S0⟩, p1, ⟨p2, p3, p4⟩, p5, p6⟩ := hp
  obtain ⟨⟨r1, r4, r5, r6, r7, r8, r20⟩, _, rS, r9⟩ := id S0
  have P20 := N0.2 (zR κ soPart a0) (by rw [r20]; exact Or.inl rfl)
  have h21 : ρ (zR κ raTop (zR κ soPart a0)) = 21 := by rw [P20.2.1, r20]
  have h22 : ρ (zR κ raBottom (zR κ soPart a0)) = 22 := by rw [P20.2.2, r20]
  have z64 : (0 : Int64).toInt = 0 := rfl
  have s20 : ∀ r, 1 ≤ r → r < 20 → nmR r := fun r x y => Or.inl ⟨x, y⟩
  have g1 := nm_g N0 r1 (s20 _ (by decide) (by decide)) (by decide)
  have g4 := nm_g N0 r4 (s20 _ (by decide) (by decide)) (by decide)
  have g5 := nm_g N0 r5 (s20 _ (by decide) (by decide)) (by decide)
  have g6 := nm_g N0 r6 (s20 _ (by decide) (by decide)) (by decide)
  have g7 := nm_g N0 r7 (s20 _ (by decide) (by decide)) (by decide)
  have g8 := nm_g N0 r8 (s20 _ (by decide) (by decide)) (by decide)
  have g21 := nm_g N0 h21 (Or.inr (Or.inl rfl)) (by decide)
  have g22 := nm_g N0 h22 (Or.inr (Or.inr (Or.inl rfl))) (by decide)
  have c1 : capR 1 = 6500 := rfl
  have tt1 := ty_soWhole W Ta0
  have tt4 := ty_soFactor W Ta0
  have tt5 := ty_soScaled W Ta0
  have tt6 := ty_soTerm W Ta0
  have tt7 := ty_soSum W Ta0
  have tt8 := ty_soLess W Ta0
  have tt21 : zT κ (zR κ raTop (zR κ soPart a0)) = 8 := ty_raTop W P20.1
  have tt22 : zT κ (zR κ raBottom (zR κ soPart a0)) = 8 := ty_raBottom W P20.1
  have k1 := nuK_lt g1.1 p2
  have k21 := nuK_lt g21.1 p3
  have hj103 : ∀ (l0 : Nat) (l1 : Int64) (τ : zS), zW C (zn κ) τ → zT τ l0 = 12 → (a0 = l0 ∧ a1 = l1 ∧ zF (soF ρ adR9 (zR κ soCalc a0)) κ τ ∧ (nmI ρ τ ∧ soI ρ τ a0) ∧ (∀ f b, f ≠ nuLimbs → f ≠ nuLength → zR τ f b = zR κ f b) ∧ (nuN τ (zR κ soTerm a0) = nuN κ (zR κ raTop (zR κ soPart a0)) * a1.toInt.natAbs * (nuN κ (zR κ soWhole a0) / nuN κ (zR κ raBottom (zR κ soPart a0))) ∧ nuK τ (zR κ soTerm a0) ≤ 2102) ∧ nuN τ (zR κ soSum a0) = nuN κ (zR κ soSum a0) ∧ nuN τ (zR κ soLess a0) = nuN κ (zR κ soLess a0)) → w_So_addTerm_103 C (zn κ) Q  l0 l1 τ := by
    rintro _ _ τ103 W103 T103_0 ⟨rfl, rfl, j103⟩
    unfold w_So_addTerm_103
    obtain ⟨Z1, ⟨N1, S1⟩, hr1, ⟨V1, K1⟩, u1, v1⟩ := j103
    have e6 : zR τ103 soTerm a0 = (zR κ soTerm a0) := hr1 _ _ (by decide) (by decide)
    have e7 : zR τ103 soSum a0 = (zR κ soSum a0) := hr1 _ _ (by decide) (by decide)
    have e8 : zR τ103 soLess a0 = (zR κ soLess a0) := hr1 _ _ (by decide) (by decide)
    have f6 := nm_g N1 r6 (s20 _ (by decide) (by decide)) (by decide)
    have f7 := nm_g N1 r7 (s20 _ (by decide) (by decide)) (by decide)
    have f8 := nm_g N1 r8 (s20 _ (by decide) (by decide)) (by decide)
    have k7 := nuK_lt f7.1 (by rw [u1]; exact p5)
    have k8 := nuK_lt f8.1 (by rw [v1]; exact p6)
    refine ⟨fun c1 => ?_, fun c1 => ?_⟩
    · skip
      intro T2
      intro T3
      refine Nu_plus_c W103 T2 T3 6500 30000000 ?_ (fun κ_4 q5 => ?_)
      · rw [e6, e8]
        exact ⟨f8.1, f6.2.1, ro_n r8 r6 (by decide), ⟨by omega, by omega⟩, by decide⟩
      intro W6
      intro M7
      refine h _ ?_
      · rw [lg_cmp_le, jlei, z64] at c1
        rw [e6, e8] at q5
        obtain ⟨F, I, V⟩ := q5
        have b7 := nuB_z (c := 6500) W103 (Z1.t tt7 (by decide)) F (fun z => ro_n r7 r8 (by decide) z.1) (fun z => ro_n r7 r8 (by decide) z.1)
        refine ⟨Z1.tr (soF_1 (by rw [r8]; exact Or.inr (Or.inr (Or.inr (Or.inr (Or.inl rfl))))) F), ⟨nm_1 W103 N1 F (by rw [r8]; exact I), so_1 W103 T103_0 S1 F⟩, fun z => absurd z (by omega), fun _ => ⟨by rw [V, v1, V1], by rw [b7.2.2.1, u1]⟩⟩
    · skip
      intro T8
      intro T9
      refine Nu_plus_c W103 T8 T9 6500 30000000 ?_ (fun κ_10 q11 => ?_)
      · rw [e6, e7]
        exact ⟨f7.1, f6.2.1, ro_n r7 r6 (by decide), ⟨by omega, by omega⟩, by decide⟩
      intro W12
      intro M13
      refine h _ ?_
      · rw [lg_cmp_le, jlei, z64] at c1
        rw [e6, e7] at q11
        obtain ⟨F, I, V⟩ := q11
        have b8 := nuB_z (c := 6500) W103 (Z1.t tt8 (by decide)) F (fun z => ro_n r8 r7 (by decide) z.1) (fun z => ro_n r8 r7 (by decide) z.1)
        refine ⟨Z1.tr (soF_1 (by rw [r7]; exact Or.inr (Or.inr (Or.inr (Or.inl rfl)))) F), ⟨nm_1 W103 N1 F (by rw [r7]; exact I), so_1 W103 T103_0 S1 F⟩, fun _ => ⟨by rw [V, u1, V1], by rw [b8.2.2.1, v1]⟩, fun z => absurd z (by omega)⟩
  intro T14
  have ab := j_ab p1.1 p1.2
  refine Nu_put_c W T14 6500 ?_ (fun κ_15 q16 => ?_)
  · rw [ab]
    exact ⟨⟨by omega, by omega⟩, g4.2.2⟩
  rw [ab, Int.toNat_natCast] at q16
  obtain ⟨F15, ⟨R15, M15⟩, I15, V15⟩ := q16
  have N15 : nmI ρ κ_15 := nm_1 W N0 F15 (by rw [r4]; exact I15)
  have S15 : soI ρ κ_15 a0 := so_1 W Ta0 S0 F15
  have Z15 : zF (soF ρ (fun r => r = 4) (zR κ soCalc a0)) κ κ_15 := soF_1 r4 F15
  have w1 := soF_B (c := 30000000) W tt1 Z15 (by rw [r1]; decide)
  have w21 := soF_B (c := 30000000) W tt21 Z15 (by rw [h21]; decide)
  have w22 := soF_B (c := 30000000) W tt22 Z15 (by rw [h22]; decide)
  have T0_15 : zT κ_15 a0 = 12 := F15.t Ta0 (by decide)
  have k4 : nuK κ_15 (zR κ soFactor a0) ≤ 2 := nuK_2 I15 (by rw [V15]; omega)
  intro W17
  intro M18
  intro T19
  intro T20
  refine Nu_compare_c W17 T19 T20 30000000 30000000 ?_ (fun r21 q23 => ?_)
  · rw [R15]
    exact ⟨w1.1 g1.2.1, w22.1 g22.2.1⟩
  intro W24
  intro M25
  have dp : (nuC κ_15 (zR κ caQuotient (zR κ soCalc a0)) 6500 ∧ nuC κ_15 (zR κ caRest (zR κ soCalc a0)) 6500 ∧ nuC κ_15 (zR κ caDivisor (zR κ soCalc a0)) 6500) ∧ (nuI κ_15 (zR κ soWhole a0) 30000000 ∧ nuI κ_15 (zR κ raBottom (zR κ soPart a0)) 30000000) ∧ (zR κ caQuotient (zR κ soCalc a0) ≠ zR κ caRest (zR κ soCalc a0) ∧ zR κ caQuotient (zR κ soCalc a0) ≠ zR κ caDivisor (zR κ soCalc a0) ∧ zR κ caRest (zR κ soCalc a0) ≠ zR κ caDivisor (zR κ soCalc a0)) ∧ ((zR κ soWhole a0) ≠ zR κ caQuotient (zR κ soCalc a0) ∧ (zR κ soWhole a0) ≠ zR κ caRest (zR κ soCalc a0) ∧ (zR κ soWhole a0) ≠ zR κ caDivisor (zR κ soCalc a0)) ∧ ((zR κ raBottom (zR κ soPart a0)) ≠ zR κ caQuotient (zR κ soCalc a0) ∧ (zR κ raBottom (zR κ soPart a0)) ≠ zR κ caRest (zR κ soCalc a0) ∧ (zR κ raBottom (zR κ soPart a0)) ≠ zR κ caDivisor (zR κ soCalc a0)) ∧ nuK κ_15 (zR κ soWhole a0) + 1 + (nuK κ_15 (zR κ soWhole a0) + 1) / 2 + 2 ≤ 6500 ∧ 6500 ≤ 30000000 := by
    have ci := so_ca N15 S15
    unfold caI caN caK at ci
    rw [R15] at ci
    have o1 := (caS_n (so_o S0 r1 (by decide))).1
    have o22 := (caS_n (so_o S0 h22 (by decide))).1
    exact ⟨⟨ci.2.1.1, ci.2.1.2.1, ci.2.1.2.2.1⟩, ⟨w1.1 g1.2.1, w22.1 g22.2.1⟩, ci.1.1, o1, o22, by rw [w1.2.2]; omega, by decide⟩
  refine ⟨fun c26 => ?_, fun c26 => ?_⟩
  · skip
    intro T27
    intro T28
    intro T29
    refine Ca_divide_c W24 T27 T28 T29 6500 ?_ (fun κ_30 q31 => ?_)
    · rw [R15]
      exact dp
    have D := nm_d (a := a0) W17 T0_15 N15 S15 q31
    have Z30' : zF (soF ρ adR9 (zR κ soCalc a0)) κ_15 κ_30 := soF_p (fun b z => by
      have q : ρ b = 10 := by
        rw [R15] at z
        exact rS b ((show b = _ ∨ b = _ ∨ b = _ from z).elim Or.inl (fun z => z.elim (fun y => Or.inr (Or.inl y)) (fun y => Or.inr (Or.inr (Or.inl y)))))
      rw [q]
      exact Or.inr (Or.inr (Or.inr (Or.inr (Or.inr rfl))))) q31.1
    have hr30 : ∀ f b, f ≠ nuLimbs → f ≠ nuLength → zR κ_30 f b = zR κ f b := fun f b x y => (nuFp_r q31.1 x y).trans (nuF_r F15 x y)
    rw [R15, w1.2.1, w22.2.1] at q31
    obtain ⟨DZ, ⟨DQ, DV⟩, _, _⟩ := q31
    have n3 : ∀ w r, ρ w = r → r ≠ 10 → ¬ oo3 (zR κ caQuotient (zR κ soCalc a0)) (zR κ caRest (zR κ soCalc a0)) (zR κ caDivisor (zR κ soCalc a0)) w := fun w r x y => by
      have o := (caS_n (so_o S0 x y)).1
      exact oo3_n o.1 o.2.1 o.2.2
    have x21 := nuFp_B (c := 30000000) W17 (F15.t tt21 (by decide)) DZ (n3 _ _ h21 (by decide))
    have x4 := nuFp_B (c := 30000000) W17 (F15.t tt4 (by decide)) DZ (n3 _ _ r4 (by decide))
    have x7 := nuFp_B (c := 30000000) W17 (F15.t tt7 (by decide)) DZ (n3 _ _ r7 (by decide))
    have x8 := nuFp_B (c := 30000000) W17 (F15.t tt8 (by decide)) DZ (n3 _ _ r8 (by decide))
    have T0_30 : zT κ_30 a0 = 12 := DZ.t T0_15 (by decide)
    have I21 : nuI κ_30 (zR κ raTop (zR κ soPart a0)) 30000000 := x21.2.1 (w21.1 g21.2.1)
    have I4 : nuI κ_30 (zR κ soFactor a0) 30000000 := x4.2.1 (nuI_mono (by decide) I15)
    have f5 := nm_g D.1 r5 (s20 _ (by decide) (by decide)) (by decide)
    have e21 : zR κ_30 raTop (zR κ_30 soPart a0) = (zR κ raTop (zR κ soPart a0)) := by rw [hr30 soPart _ (by decide) (by decide), hr30 raTop _ (by decide) (by decide)]
    have kq : nuK κ_30 (zR κ caQuotient (zR κ soCalc a0)) ≤ 2000 := nuK_lt DQ (by rw [DV]; exact Nat.lt_of_le_of_lt (Nat.div_le_self _ _) p2)
    have k21' : nuK κ_30 (zR κ raTop (zR κ soPart a0)) ≤ 100 := by rw [x21.2.2.2, w21.2.2]; exact k21
    have k4' : nuK κ_30 (zR κ soFactor a0) ≤ 2 := by rw [x4.2.2.2]; exact k4
    intro W32
    intro M33
    intro T34
    intro T35
    intro T36
    refine Nu_product_c W32 T34 T35 T36 6500 30000000 30000000 ?_ (fun κ_37 q38 => ?_)
    · rw [e21, hr30 soScaled _ (by decide) (by decide), hr30 soFactor _ (by decide) (by decide)]
      exact ⟨f5.2.2, ⟨I21, I4⟩, ⟨ro_n r5 h21 (by decide), ro_n r5 r4 (by decide)⟩, by omega, by decide⟩
    rw [e21, hr30 soScaled _ (by decide) (by decide), hr30 soFactor _ (by decide) (by decide), x21.2.2.1, x4.2.2.1, w21.2.1, V15] at q38
    obtain ⟨F37, I37, V37⟩ := q38
    have N37 : nmI ρ κ_37 := nm_1 W32 D.1 F37 (by rw [r5]; exact I37)
    have S37 : soI ρ κ_37 a0 := so_1 W32 T0_30 D.2 F37
    have hr37 : ∀ f b, f ≠ nuLimbs → f ≠ nuLength → zR κ_37 f b = zR κ f b := fun f b x y => (nuF_r F37 x y).trans (hr30 f b x y)
    have T0_37 : zT κ_37 a0 = 12 := F37.t T0_30 (by decide)
    have eq37 : zR κ_37 caQuotient (zR κ_37 soCalc a0) = zR κ caQuotient (zR κ soCalc a0) := by rw [hr37 soCalc _ (by decide) (by decide), hr37 caQuotient _ (by decide) (by decide)]
    have rq := rS (zR κ caQuotient (zR κ soCalc a0)) (Or.inl rfl)
    have Tq := ty_caQuotient W (ty_soCalc W Ta0)
    have yq := nuB_z (c := 30000000) W32 (DZ.t (F15.t Tq (by decide)) (by decide)) F37 (fun z => ro_n rq r5 (by decide) z.1) (fun z => ro_n rq r5 (by decide) z.1)
    have y7 := nuB_z (c := 30000000) W32 (DZ.t (F15.t tt7 (by decide)) (by decide)) F37 (fun z => ro_n r7 r5 (by decide) z.1) (fun z => ro_n r7 r5 (by decide) z.1)
    have y8 := nuB_z (c := 30000000) W32 (DZ.t (F15.t tt8 (by decide)) (by decide)) F37 (fun z => ro_n r8 r5 (by decide) z.1) (fun z => ro_n r8 r5 (by decide) z.1)
    have f6 := nm_g N37 r6 (s20 _ (by decide) (by decide)) (by decide)
    have lT : nuN κ (zR κ raTop (zR κ soPart a0)) * a1.toInt.natAbs < pB9 102 := by
      rw [show (102 : Nat) = 100 + 2 from rfl, pB9_2]
      exact Nat.mul_lt_mul'' p3 (by omega)
    have k5 : nuK κ_37 (zR κ soScaled a0) ≤ 102 := nuK_lt I37 (by rw [V37]; exact lT)
    intro W39
    intro M40
    intro T41
    intro T42
    intro T43
    refine Nu_product_c W39 T41 T42 T43 6500 30000000 30000000 ?_ (fun κ_44 q45 => ?_)
    · rw [eq37, hr37 soTerm _ (by decide) (by decide), hr37 soScaled _ (by decide) (by decide), yq.2.2.2]
      exact ⟨f6.2.2, ⟨nuI_mono (by decide) I37, yq.2.1 (nuI_mono (by decide) DQ)⟩, ⟨ro_n r6 r5 (by decide), ro_n r6 rq (by decide)⟩, by omega, by decide⟩
    intro W46
    intro M47
    rw [eq37, hr37 soTerm _ (by decide) (by decide), hr37 soScaled _ (by decide) (by decide), yq.2.2.1, V37, DV] at q45
    obtain ⟨F44, I44, V44⟩ := q45
    refine hj103 _ _ _ W46 ?_ ?_
    · exact F44.t T0_37 (by decide)  -- t10
    · have z7 := nuB_z (c := 30000000) W39 (F37.t (DZ.t (F15.t tt7 (by decide)) (by decide)) (by decide)) F44 (fun z => ro_n r7 r6 (by decide) z.1) (fun z => ro_n r7 r6 (by decide) z.1)
      have z8 := nuB_z (c := 30000000) W39 (F37.t (DZ.t (F15.t tt8 (by decide)) (by decide)) (by decide)) F44 (fun z => ro_n r8 r6 (by decide) z.1) (fun z => ro_n r8 r6 (by decide) z.1)
      have v7 := nuB_z (c := 30000000) W tt7 F15 (fun z => ro_n r7 r4 (by decide) z.1) (fun z => ro_n r7 r4 (by decide) z.1)
      have v8 := nuB_z (c := 30000000) W tt8 F15 (fun z => ro_n r8 r4 (by decide) z.1) (fun z => ro_n r8 r4 (by decide) z.1)
      have Zf : zF (soF ρ adR9 (zR κ soCalc a0)) κ κ_44 := (((soF_m (fun r z => Or.inl z) Z15).tr Z30').tr (soF_1 (by rw [r5]; exact Or.inr (Or.inl rfl)) F37)).tr (soF_1 (by rw [r6]; exact Or.inr (Or.inr (Or.inl rfl))) F44)
      refine ⟨rfl, rfl, Zf, ⟨nm_1 W39 N37 F44 (by rw [r6]; exact I44), so_1 W39 T0_37 S37 F44⟩, fun f b x y => (nuF_r F44 x y).trans (hr37 f b x y), ⟨V44, nuK_lt I44 ?_⟩, by rw [z7.2.2.1, y7.2.2.1, x7.2.2.1, v7.2.2.1], by rw [z8.2.2.1, y8.2.2.1, x8.2.2.1, v8.2.2.1]⟩
      show _ < pB9 2102
      rw [V44, show (2102 : Nat) = 102 + 2000 from rfl, pB9_a]
      exact Nat.mul_lt_mul'' lT (Nat.lt_of_le_of_lt (Nat.div_le_self _ _) p2)
  · skip
    intro T48
    intro T49
    intro T50
    have f6 := nm_g N15 r6 (s20 _ (by decide) (by decide)) (by decide)
    have k21' : nuK κ_15 (zR κ raTop (zR κ soPart a0)) ≤ 100 := by rw [w21.2.2]; exact k21
    refine Nu_product_c W24 T48 T49 T50 6500 30000000 30000000 ?_ (fun κ_51 q52 => ?_)
    · have f62 := f6.2.2
      unfold nuC at f62
      rw [R15] at f62 ⊢
      exact ⟨f62, ⟨w21.1 g21.2.1, nuI_mono (by decide) I15⟩, ⟨ro_n r6 h21 (by decide), ro_n r6 r4 (by decide)⟩, by omega, by decide⟩
    intro W53
    intro M54
    rw [R15, w21.2.1, V15] at q52
    obtain ⟨F51, I51, V51⟩ := q52
    refine hj103 _ _ _ W53 ?_ ?_
    · exact F51.t T0_15 (by decide)  -- t13
    · have we : nuN κ (zR κ soWhole a0) = nuN κ (zR κ raBottom (zR κ soPart a0)) := by
        rw [R15, w1.2.1, w22.2.1] at q23
        have e0 : r21.toInt = 0 := by rw [c26]; rfl
        omega
      have z7 := nuB_z (c := 30000000) W17 (F15.t tt7 (by decide)) F51 (fun z => ro_n r7 r6 (by decide) z.1) (fun z => ro_n r7 r6 (by decide) z.1)
      have z8 := nuB_z (c := 30000000) W17 (F15.t tt8 (by decide)) F51 (fun z => ro_n r8 r6 (by decide) z.1) (fun z => ro_n r8 r6 (by decide) z.1)
      have v7 := nuB_z (c := 30000000) W tt7 F15 (fun z => ro_n r7 r4 (by decide) z.1) (fun z => ro_n r7 r4 (by decide) z.1)
      have v8 := nuB_z (c := 30000000) W tt8 F15 (fun z => ro_n r8 r4 (by decide) z.1) (fun z => ro_n r8 r4 (by decide) z.1)
      have Zf : zF (soF ρ adR9 (zR κ soCalc a0)) κ κ_51 := (soF_m (fun r z => Or.inl z) Z15).tr (soF_1 (by rw [r6]; exact Or.inr (Or.inr (Or.inl rfl))) F51)
      have lT : nuN κ (zR κ raTop (zR κ soPart a0)) * a1.toInt.natAbs < pB9 102 := by
        rw [show (102 : Nat) = 100 + 2 from rfl, pB9_2]
        exact Nat.mul_lt_mul'' p3 (by omega)
      have kf := nuK_lt I51 (by rw [V51]; exact lT)
      exact ⟨rfl, rfl, Zf, ⟨nm_1 W17 N15 F51 (by rw [r6]; exact I51), so_1 W17 T0_15 S15 F51⟩, fun f b x y => (nuF_r F51 x y).trans (nuF_r F15 x y), ⟨by rw [V51, we, Nat.div_self p4, Nat.mul_one], by omega⟩, by rw [z7.2.2.1, v7.2.2.1], by rw [z8.2.2.1, v8.2.2.1]⟩

end
section
set_option maxHeartbeats 1600000
/-! the class: Solver's settle -/
theorem caS_eq {κ τ : zS} {a : Nat} (N : caN κ a) (M : caN τ a) (S : ∀ b, caS τ a b → caS κ a b) (hq : zR τ caQuotient a = zR κ caQuotient a) (hd : zR τ caDivisor a = zR κ caDivisor a) : ∀ b, caS κ a b → caS τ a b := by
  have s1 := S _ (Or.inr (Or.inl rfl))
  have s2 := S _ (Or.inr (Or.inr (Or.inr (Or.inl rfl))))
  have s3 := S _ (Or.inr (Or.inr (Or.inr (Or.inr rfl))))
  unfold caS at s1 s2 s3
  unfold caN at N M
  rw [hq, hd] at M
  intro b z
  unfold caS at z ⊢
  rw [hq, hd]
  generalize zR κ caQuotient a = q at *
  generalize zR κ caDivisor a = d at *
  generalize zR κ caRest a = r at *
  generalize zR κ caX a = x at *
  generalize zR κ caY a = y at *
  generalize zR τ caRest a = r' at *
  generalize zR τ caX a = x' at *
  generalize zR τ caY a = y' at *
  clear S hq hd
  omega
theorem nm_k {C : zC} {n0 : Nat} {ρ : Nat → Nat} {F : Nat → Nat → Prop} {κ τ : zS} (W : zW C n0 κ) (N : nmI ρ κ) (Z : zF F κ τ) (hF : ∀ w, nmR (ρ w) → (¬ F nuLimbs w ∧ ¬ F nuLength w) ∨ (nuC τ w (capR (ρ w)) ∧ (ρ w ≠ 10 → nuI τ w (capR (ρ w))))) (h1 : ∀ v, zR τ raTop v = zR κ raTop v) (h2 : ∀ v, zR τ raBottom v = zR κ raBottom v) : nmI ρ τ := by
  refine ⟨fun w h => ?_, fun v h => ?_⟩
  · obtain ⟨t, c, i⟩ := N.1 w h
    refine ⟨Z.t t (by decide), ?_⟩
    rcases hF w h with ⟨a, b⟩ | x
    · have u := nu_z W t Z a b
      refine ⟨?_, fun y => (nuB_z (c := capR (ρ w)) W t Z a b).2.1 (i y)⟩
      unfold nuC
      rw [u.2.1, u.2.2.2]
      exact c
    · exact x
  · obtain ⟨t, p, q⟩ := N.2 v h
    exact ⟨Z.t t (by decide), by rw [h1]; exact p, by rw [h2]; exact q⟩
/-- a call of the Solver's Calc -/
theorem nm_ca9 {C : zC} {n0 a : Nat} {ρ : Nat → Nat} {P : Nat → Prop} {κ τ : zS} (W : zW C n0 κ) (N : nmI ρ κ) (I : soI ρ κ a) (Z : zF (caF P (zR κ soCalc a)) κ τ) (K : caI τ (zR κ soCalc a) 6500) (S : ∀ b, caS τ (zR κ soCalc a) b → caS κ (zR κ soCalc a) b) (hP : ∀ b, P b → caS κ (zR κ soCalc a) b ∨ (ρ b ≠ 10 ∧ nuI τ b (capR (ρ b)))) : nmI ρ τ ∧ soI ρ τ a := by
  have fr : ∀ f b, (f ≠ nuLimbs ∧ f ≠ nuLength ∧ f ≠ caRest ∧ f ≠ caX ∧ f ≠ caY ∧ f ≠ caFactors) → zR τ f b = zR κ f b := fun f b h => caF_r Z h
  have E := caS_eq I.2.1.1 K.1 S (fr _ _ (by decide)) (fr _ _ (by decide))
  have cp : ∀ b, caS τ (zR κ soCalc a) b → nuC τ b 6500 := fun b z => by
    rcases z with z | z | z | z | z
    · rw [z]; exact K.2.1.1
    · rw [z]; exact K.2.1.2.1
    · rw [z]; exact K.2.1.2.2.1
    · rw [z]; exact K.2.1.2.2.2.1
    · rw [z]; exact K.2.1.2.2.2.2
  refine ⟨nm_k W N Z (fun w h => ?_) (fun v => fr _ _ (by decide)) (fun v => fr _ _ (by decide)), ?_⟩
  · by_cases p : P w
    · right
      rcases hP w p with z | ⟨z1, z2⟩
      · have r := I.2.2.1 w z
        rw [r]
        exact ⟨cp w (E w z), fun y => absurd rfl y⟩
      · exact ⟨z2.1.2.1, fun _ => z2⟩
    · exact Or.inl (caF_x p)
  · have e := fr soCalc a (by decide)
    unfold soI
    rw [e, fr soWhole a (by decide), fr soFactor a (by decide), fr soScaled a (by decide), fr soTerm a (by decide), fr soSum a (by decide), fr soLess a (by decide), fr soPart a (by decide), fr caSpare _ (by decide)]
    exact ⟨I.1, ⟨K.1, K.2.2⟩, fun b z => I.2.2.1 b (S b z), I.2.2.2⟩
theorem so_k' {ρ : Nat → Nat} {κ τ : zS} {a : Nat} (I : soI ρ κ a) (hr : ∀ f b, f ≠ nuLimbs → f ≠ nuLength → f ≠ raSign → zR τ f b = zR κ f b) (hn : zN τ (zR κ caFactors (zR κ soCalc a)) = zN κ (zR κ caFactors (zR κ soCalc a))) : soI ρ τ a := by
  unfold soI caN caS
  rw [hr soWhole a (by decide) (by decide) (by decide), hr soFactor a (by decide) (by decide) (by decide), hr soScaled a (by decide) (by decide) (by decide), hr soTerm a (by decide) (by decide) (by decide), hr soSum a (by decide) (by decide) (by decide), hr soLess a (by decide) (by decide) (by decide), hr soPart a (by decide) (by decide) (by decide), hr soCalc a (by decide) (by decide) (by decide), hr caQuotient _ (by decide) (by decide) (by decide), hr caRest _ (by decide) (by decide) (by decide), hr caDivisor _ (by decide) (by decide) (by decide), hr caX _ (by decide) (by decide) (by decide), hr caY _ (by decide) (by decide) (by decide), hr caFactors _ (by decide) (by decide) (by decide), hr caSpare _ (by decide) (by decide) (by decide), hn]
  exact I
/-- a sign is stored -/
theorem nm_s {C : zC} {n0 a : Nat} {ρ : Nat → Nat} {κ τ : zS} {p : Nat} {v : Int32} (W : zW C n0 κ) (N : nmI ρ κ) (I : soI ρ κ a) (e : τ = ui κ raSign p v) : nmI ρ τ ∧ soI ρ τ a := by
  have r : zR τ = zR κ := by rw [e]; rfl
  have n : zN τ = zN κ := by rw [e]; rfl
  have Z : zF (fun f b => f = raSign ∧ b = p) κ τ := by rw [e]; exact zF_ui ⟨rfl, rfl⟩
  exact ⟨nm_k W N Z (fun w h => Or.inl ⟨fun z => absurd z.1 (by decide), fun z => absurd z.1 (by decide)⟩) (fun v => by rw [r]) (fun v => by rw [r]), so_k I (fun f b _ _ => by rw [r]) (by rw [n])⟩
def stR9 : Nat → Prop := fun r => r = 10 ∨ r = 20 ∨ r = 21 ∨ r = 22
/-- what settle leaves in the part -/
def stO (κ κ' : zS) (p t b S L B : Nat) : Prop := (S = L ∧ (zI κ' raSign p).toInt = 0 ∧ nuN κ' t = 0 ∧ nuN κ' b = 1) ∨ (S ≠ L ∧ ((zI κ' raSign p).toInt = 1 ∨ (zI κ' raSign p).toInt = -1) ∧ nuN κ' t = (S - L + (L - S)) / Nat.gcd (S - L + (L - S)) B ∧ nuN κ' b = B / Nat.gcd (S - L + (L - S)) B)
theorem So_settle_c {C : zC} {n0 : Nat} {a0 : Nat} {a1 : Nat} {κ : zS} {Q : zS → Prop} (W : zW C n0 κ) (Ta0 : zT κ a0 = 12) (Ta1 : zT κ a1 = 8) (ρ : Nat → Nat) (b9 : Nat) (hp : (nmI ρ κ ∧ soI ρ κ a0) ∧ (ρ a1 = b9 ∧ (b9 = 1 ∨ b9 = 15)) ∧ nuN κ a1 < pB9 4000 ∧ nuN κ (zR κ soSum a0) < pB9 4000 ∧ nuN κ (zR κ soLess a0) < pB9 4000) (h : ∀ (κ' : zS), (zF (soF ρ stR9 (zR κ soCalc a0)) κ κ' ∧ (nmI ρ κ' ∧ soI ρ κ' a0) ∧ stO κ κ' (zR κ soPart a0) (zR κ raTop (zR κ soPart a0)) (zR κ raBottom (zR κ soPart a0)) (nuN κ (zR κ soSum a0)) (nuN κ (zR κ soLess a0)) (nuN κ a1)) → Q κ') : zRun C 6 mSo_settle [.ref a0, .ref a1] κ (oV Q noX) := by
  refine So_settle_run W Ta0 Ta1 ?_
  replace W := W.lo (Nat.le_trans W.1.2.1 W.1.2.2) (Nat.le_refl (zn κ))
  unfold w_So_settle_0
  obtain ⟨⟨N0, S0⟩, ⟨hb, hb9⟩, p1, p2, p3⟩ := hp
  obtain ⟨⟨h1, h4, h5, h6, h7, h8, h20⟩, _, rS, h9⟩ := id S0
  have P20 := N0.2 (zR κ soPart a0) (by rw [h20]; exact Or.inl rfl)
  have h21 : ρ (zR κ raTop (zR κ soPart a0)) = 21 := by rw [P20.2.1, h20]
  have h22 : ρ (zR κ raBottom (zR κ soPart a0)) = 22 := by rw [P20.2.2, h20]
  have s20 : ∀ r, 1 ≤ r → r < 20 → nmR r := fun r x y => Or.inl ⟨x, y⟩
  have nb : nmR b9 ∧ b9 ≠ 10 ∧ ¬ stR9 b9 ∧ b9 ≠ 21 ∧ b9 ≠ 22 := by
    rcases hb9 with z | z <;> rw [z] <;> exact ⟨Or.inl ⟨by decide, by decide⟩, by decide, by unfold stR9; decide, by decide, by decide⟩
  have n7 : ¬ stR9 7 := by unfold stR9; decide
  have n8 : ¬ stR9 8 := by unfold stR9; decide
  clear hb9
  have g7 := nm_g N0 h7 (s20 _ (by decide) (by decide)) (by decide)
  have g8 := nm_g N0 h8 (s20 _ (by decide) (by decide)) (by decide)
  have gb := nm_g N0 hb nb.1 nb.2.1
  have tt7 := ty_soSum W Ta0
  have tt8 := ty_soLess W Ta0
  have tp21 : zT κ (zR κ raTop (zR κ soPart a0)) = 8 := ty_raTop W P20.1
  have tp22 : zT κ (zR κ raBottom (zR κ soPart a0)) = 8 := ty_raBottom W P20.1
  have k7 := nuK_lt g7.1 p2
  have k8 := nuK_lt g8.1 p3
  have kb := nuK_lt gb.1 p1
  have m21 : nmR 21 := Or.inr (Or.inl rfl)
  have m22 : nmR 22 := Or.inr (Or.inr (Or.inl rfl))
  have hj79 : ∀ (l0 : Nat) (l1 : Nat) (s0 : Nat) (s1 : Nat) (τ : zS), zW C (zn κ) τ → zT τ l0 = 12 → zT τ l1 = 8 → zT τ s0 = 8 → zT τ s1 = 8 → (a0 = l0 ∧ a1 = l1 ∧ zF (soF ρ stR9 (zR κ soCalc a0)) κ τ ∧ (nmI ρ τ ∧ soI ρ τ a0) ∧ (∀ f b, f ≠ nuLimbs → f ≠ nuLength → zR τ f b = zR κ f b) ∧ ((zI τ raSign (zR κ soPart a0)).toInt = 1 ∨ (zI τ raSign (zR κ soPart a0)).toInt = -1) ∧ s0 = (zR κ raTop (zR κ soPart a0)) ∧ (s1 = (zR κ soSum a0) ∧ nuN τ (zR κ raTop (zR κ soPart a0)) = nuN κ (zR κ soLess a0) ∧ nuN κ (zR κ soSum a0) < nuN κ (zR κ soLess a0) ∨ s1 = (zR κ soLess a0) ∧ nuN τ (zR κ raTop (zR κ soPart a0)) = nuN κ (zR κ soSum a0) ∧ nuN κ (zR κ soLess a0) < nuN κ (zR κ soSum a0))) → w_So_settle_79 C (zn κ) Q  l0 l1 s0 s1 τ := by
    rintro _ _ y79_s0 y79_s1 τ79 W79 T79_0 T79_1 T79_2 T79_3 ⟨rfl, rfl, j79⟩
    unfold w_So_settle_79
    intro T1
    intro T2
    obtain ⟨Z1, ⟨N1, S1⟩, hr1, sg1, rfl, s79⟩ := j79
    have v7 := soF_B (c := 30000000) W tt7 Z1 (by rw [h7]; exact n7)
    have v8 := soF_B (c := 30000000) W tt8 Z1 (by rw [h8]; exact n8)
    have vb := soF_B (c := 30000000) W Ta1 Z1 (by rw [hb]; exact nb.2.2.1)
    have f21 := nm_g N1 h21 m21 (by decide)
    have f22 := nm_g N1 h22 m22 (by decide)
    have tb1 : zT τ79 (zR κ raBottom (zR κ soPart a0)) = 8 := Z1.t tp22 (by decide)
    have eb1 : zR τ79 raBottom (zR τ79 soPart a0) = (zR κ raBottom (zR κ soPart a0)) := by rw [hr1 soPart _ (by decide) (by decide), hr1 raBottom _ (by decide) (by decide)]
    have gen : ∃ A9, y79_s1 = A9 ∧ ρ A9 ≠ 21 ∧ nuI τ79 A9 30000000 ∧ nuN τ79 A9 ≤ nuN τ79 (zR κ raTop (zR κ soPart a0)) ∧ nuN κ (zR κ soSum a0) ≠ nuN κ (zR κ soLess a0) ∧ nuN τ79 (zR κ raTop (zR κ soPart a0)) - nuN τ79 A9 = nuN κ (zR κ soSum a0) - nuN κ (zR κ soLess a0) + (nuN κ (zR κ soLess a0) - nuN κ (zR κ soSum a0)) ∧ nuN τ79 (zR κ raTop (zR κ soPart a0)) < pB9 4000 := by
      rcases s79 with ⟨z1, z2, z3⟩ | ⟨z1, z2, z3⟩
      · exact ⟨(zR κ soSum a0), z1, by rw [h7]; decide, v7.1 g7.2.1, by rw [v7.2.1, z2]; omega, by omega, by rw [v7.2.1, z2]; omega, by rw [z2]; exact p3⟩
      · exact ⟨(zR κ soLess a0), z1, by rw [h8]; decide, v8.1 g8.2.1, by rw [v8.2.1, z2]; omega, by omega, by rw [v8.2.1, z2]; omega, by rw [z2]; exact p2⟩
    clear s79
    obtain ⟨A9, rfl, a21, aI, aL, aN, aD, aT⟩ := gen
    refine Nu_minus_c W79 T1 T2 6500 30000000 ?_ (fun κ_3 q4 => ?_)
    · exact ⟨f21.1, aI, fun e => a21 (by rw [← e]; exact h21), aL⟩  -- p1
    rw [aD] at q4
    obtain ⟨F3, I3, V3⟩ := q4
    have N3 : nmI ρ κ_3 := nm_1 W79 N1 F3 (by rw [h21]; exact I3)
    have S3 : soI ρ κ_3 a0 := so_1 W79 T79_0 S1 F3
    have hr3 : ∀ f b, f ≠ nuLimbs → f ≠ nuLength → zR κ_3 f b = zR κ f b := fun f b x y => (nuF_r F3 x y).trans (hr1 f b x y)
    have eb3 : zR κ_3 raBottom (zR κ_3 soPart a0) = (zR κ raBottom (zR κ soPart a0)) := by rw [hr3 soPart _ (by decide) (by decide), hr3 raBottom _ (by decide) (by decide)]
    have f22' := nm_g N3 h22 m22 (by decide)
    have b3 := nuB_z (c := 30000000) W79 T79_1 F3 (fun z => ro_n hb h21 nb.2.2.2.1 z.1) (fun z => ro_n hb h21 nb.2.2.2.1 z.1)
    have T3 : zT κ_3 a0 = 12 := F3.t T79_0 (by decide)
    have tb3 : zT κ_3 (zR κ raTop (zR κ soPart a0)) = 8 := F3.t (Z1.t tp21 (by decide)) (by decide)
    intro W5
    intro M6
    intro T7
    intro T8
    refine Nu_copy_c W5 T7 T8 6500 30000000 ?_ (fun κ_9 q10 => ?_)
    · rw [eb3, b3.2.2.2, vb.2.2]
      exact ⟨f22'.2.2, (b3.2.1 (vb.1 gb.2.1)).1, (ro_n hb h22 nb.2.2.2.2).symm, by omega, by decide⟩
    rw [eb3, b3.2.2.1, vb.2.1] at q10
    obtain ⟨F9, B9, V9, K9, Z9⟩ := q10
    have I9 : nuI κ_9 (zR κ raBottom (zR κ soPart a0)) 6500 := ⟨B9, Z9 (b3.2.1 (vb.1 gb.2.1)).2⟩
    have N9 : nmI ρ κ_9 := nm_1 W5 N3 F9 (by rw [h22]; exact I9)
    have S9 : soI ρ κ_9 a0 := so_1 W5 T3 S3 F9
    have hr9 : ∀ f b, f ≠ nuLimbs → f ≠ nuLength → zR κ_9 f b = zR κ f b := fun f b x y => (nuF_r F9 x y).trans (hr3 f b x y)
    have ec9 : zR κ_9 soCalc a0 = (zR κ soCalc a0) := hr9 _ _ (by decide) (by decide)
    have et9 : zR κ_9 raTop (zR κ_9 soPart a0) = (zR κ raTop (zR κ soPart a0)) := by rw [hr9 soPart _ (by decide) (by decide), hr9 raTop _ (by decide) (by decide)]
    have eb9 : zR κ_9 raBottom (zR κ_9 soPart a0) = (zR κ raBottom (zR κ soPart a0)) := by rw [hr9 soPart _ (by decide) (by decide), hr9 raBottom _ (by decide) (by decide)]
    have bt9 := nuB_z (c := 6500) W5 tb3 F9 (fun z => ro_n h21 h22 (by decide) z.1) (fun z => ro_n h21 h22 (by decide) z.1)
    have VT9 : nuN κ_9 (zR κ raTop (zR κ soPart a0)) = nuN κ (zR κ soSum a0) - nuN κ (zR κ soLess a0) + (nuN κ (zR κ soLess a0) - nuN κ (zR κ soSum a0)) := by rw [bt9.2.2.1]; exact V3
    have lT : nuN κ_9 (zR κ raTop (zR κ soPart a0)) < pB9 4000 := by
      rw [VT9]
      omega
    intro W11
    intro M12
    intro T13
    intro T14
    intro T15
    refine Ca_reduce_c W11 T13 T14 T15 6500 4000 6500 ?_ (fun κ_16 q17 => ?_)
    · rw [et9, eb9]
      refine ⟨⟨bt9.2.1 I3, I9⟩, so_ca N9 S9, ⟨so_o S9 h21 (by decide), so_o S9 h22 (by decide), ro_n h21 h22 (by decide)⟩, ⟨lT, by rw [V9]; exact p1⟩, ⟨by decide, by decide, by decide⟩, by decide, by decide⟩
    intro W18
    intro M19
    refine h _ ?_
    · rw [et9, eb9, VT9, V9] at q17
      obtain ⟨⟨Z16, C16, S16⟩, ⟨I16, V16⟩, J16, U16⟩ := q17
      have R := nm_ca9 W11 N9 S9 Z16 C16 S16 (fun b z => by
        rcases z with z | z | z
        · exact Or.inl z
        · right
          rw [z, h21]
          exact ⟨by decide, I16⟩
        · right
          rw [z, h22]
          exact ⟨by decide, J16⟩)
      have s16 : zI κ_16 raSign (zR κ soPart a0) = zI κ_9 raSign (zR κ soPart a0) := Z16.i (fun z => by
        rcases z with ⟨_, z | z⟩ | ⟨_, z | z | z | z⟩
        · exact absurd z (by decide)
        · exact absurd z (by decide)
        · exact absurd z (by decide)
        · exact absurd z (by decide)
        · exact absurd z (by decide)
        · exact absurd z (by decide))
      have sg : zI κ_16 raSign (zR κ soPart a0) = zI τ79 raSign (zR κ soPart a0) := s16.trans ((nuF_i F9).trans (nuF_i F3))
      rw [ec9] at Z16
      have Zf : zF (soF ρ stR9 (zR κ soCalc a0)) κ κ_16 := ((Z1.tr (soF_1 (by rw [h21]; exact Or.inr (Or.inr (Or.inl rfl))) F3)).tr (soF_1 (by rw [h22]; exact Or.inr (Or.inr (Or.inr rfl))) F9)).tr (soF_c (fun b z => by
        rcases z with z | z | z
        · have q := S9.2.2.1 b (by rw [ec9]; exact z)
          rw [q]
          exact Or.inl rfl
        · rw [z, h21]
          exact Or.inr (Or.inr (Or.inl rfl))
        · rw [z, h22]
          exact Or.inr (Or.inr (Or.inr rfl))) Z16)
      refine ⟨Zf, R, Or.inr ⟨aN, ?_, V16, U16⟩⟩
      rw [sg]
      exact sg1
  have hj54 : ∀ (l0 : Nat) (l1 : Nat) (l2 : Int32) (s0 : Nat) (s1 : Nat) (τ : zS), zW C (zn κ) τ → zT τ l0 = 12 → zT τ l1 = 8 → zT τ s0 = 8 → zT τ s1 = 8 → (a0 = l0 ∧ a1 = l1 ∧ zF (soF ρ stR9 (zR κ soCalc a0)) κ τ ∧ (nmI ρ τ ∧ soI ρ τ a0) ∧ (∀ f b, f ≠ nuLimbs → f ≠ nuLength → zR τ f b = zR κ f b) ∧ ((zI τ raSign (zR κ soPart a0)).toInt = l2.toInt ∧ (l2.toInt = 1 ∨ l2.toInt = -1)) ∧ s0 = (zR κ raTop (zR κ soPart a0)) ∧ (l2.toInt ≤ 0 ∧ s1 = (zR κ soLess a0) ∧ nuN κ (zR κ soSum a0) < nuN κ (zR κ soLess a0) ∨ ¬ l2.toInt ≤ 0 ∧ s1 = (zR κ soSum a0) ∧ nuN κ (zR κ soLess a0) < nuN κ (zR κ soSum a0))) → w_So_settle_54 C (zn κ) Q  l0 l1 l2 s0 s1 τ := by
    rintro _ _ y54_2 y54_s0 y54_s1 τ54 W54 T54_0 T54_1 T54_2 T54_3 ⟨rfl, rfl, j54⟩
    unfold w_So_settle_54
    intro T20
    intro T21
    obtain ⟨Z1, ⟨N1, S1⟩, hr1, ⟨sg1, sg2⟩, rfl, s54⟩ := j54
    have v7 := soF_B (c := 30000000) W tt7 Z1 (by rw [h7]; exact n7)
    have v8 := soF_B (c := 30000000) W tt8 Z1 (by rw [h8]; exact n8)
    have f21 := nm_g N1 h21 m21 (by decide)
    refine Nu_copy_c W54 T20 T21 6500 30000000 ?_ (fun κ_22 q23 => ?_)
    · rcases s54 with ⟨z1, rfl, z3⟩ | ⟨z1, rfl, z3⟩
      · exact ⟨f21.2.2, (v8.1 g8.2.1).1, ro_n h21 h8 (by decide), by rw [v8.2.2]; omega, by decide⟩
      · exact ⟨f21.2.2, (v7.1 g7.2.1).1, ro_n h21 h7 (by decide), by rw [v7.2.2]; omega, by decide⟩
    obtain ⟨F22, B22, V22, K22, Y22⟩ := q23
    have I22 : nuI κ_22 (zR κ raTop (zR κ soPart a0)) 6500 := ⟨B22, Y22 (by
      rcases s54 with ⟨z1, rfl, z3⟩ | ⟨z1, rfl, z3⟩
      · exact (v8.1 g8.2.1).2
      · exact (v7.1 g7.2.1).2)⟩
    have N22 : nmI ρ κ_22 := nm_1 W54 N1 F22 (by rw [h21]; exact I22)
    have S22 : soI ρ κ_22 a0 := so_1 W54 T54_0 S1 F22
    have hr22 : ∀ f b, f ≠ nuLimbs → f ≠ nuLength → zR κ_22 f b = zR κ f b := fun f b x y => (nuF_r F22 x y).trans (hr1 f b x y)
    have et22 : zR κ_22 raTop (zR κ_22 soPart a0) = (zR κ raTop (zR κ soPart a0)) := by rw [hr22 soPart _ (by decide) (by decide), hr22 raTop _ (by decide) (by decide)]
    have Z22 : zF (soF ρ stR9 (zR κ soCalc a0)) κ κ_22 := Z1.tr (soF_1 (by rw [h21]; exact Or.inr (Or.inr (Or.inl rfl))) F22)
    have sg22 : (zI κ_22 raSign (zR κ soPart a0)).toInt = 1 ∨ (zI κ_22 raSign (zR κ soPart a0)).toInt = -1 := by
      rw [nuF_i F22, sg1]
      exact sg2
    have T22 : zT κ_22 a0 = 12 := F22.t T54_0 (by decide)
    intro W24
    intro M25
    refine ⟨fun c26 => ?_, fun c26 => ?_⟩
    · skip
      refine hj79 _ _ _ _ _ W24 ?_ ?_ ?_ ?_ ?_
      · exact T22  -- t6
      · exact F22.t T54_1 (by decide)  -- t7
      · rw [et22]; exact Z22.t tp21 (by decide)  -- t8
      · rw [hr22 soSum _ (by decide) (by decide)]; exact Z22.t tt7 (by decide)  -- t9
      · rw [lei, t0i] at c26
        rcases s54 with ⟨z1, rfl, z3⟩ | ⟨z1, rfl, z3⟩
        · exact ⟨rfl, rfl, Z22, ⟨N22, S22⟩, hr22, sg22, et22, Or.inl ⟨hr22 _ _ (by decide) (by decide), by rw [V22, v8.2.1], z3⟩⟩
        · exact absurd c26 z1
    · skip
      refine hj79 _ _ _ _ _ W24 ?_ ?_ ?_ ?_ ?_
      · exact T22  -- t11
      · exact F22.t T54_1 (by decide)  -- t12
      · rw [et22]; exact Z22.t tp21 (by decide)  -- t13
      · rw [hr22 soLess _ (by decide) (by decide)]; exact Z22.t tt8 (by decide)  -- t14
      · rw [lei, t0i] at c26
        rcases s54 with ⟨z1, rfl, z3⟩ | ⟨z1, rfl, z3⟩
        · exact absurd z1 c26
        · exact ⟨rfl, rfl, Z22, ⟨N22, S22⟩, hr22, sg22, et22, Or.inr ⟨hr22 _ _ (by decide) (by decide), by rw [V22, v7.2.1], z3⟩⟩
  intro T27
  intro T28
  refine Nu_compare_c W T27 T28 30000000 30000000 ?_ (fun r29 q31 => ?_)
  · exact ⟨g7.2.1, g8.2.1⟩  -- p16
  intro W32
  intro M33
  have q31' := q31
  refine ⟨fun c34 => ?_, fun c34 => ?_⟩
  · skip
    intro κ_35 hκ_35
    intro W36
    refine ⟨fun c37 => ?_, fun c37 => ?_⟩
    · skip
      refine hj54 _ _ _ _ _ _ W36 ?_ ?_ ?_ ?_ ?_
      · rw [hκ_35]; exact Ta0  -- t17
      · rw [hκ_35]; exact Ta1  -- t18
      · rw [hκ_35]; exact tp21  -- t19
      · rw [hκ_35]; exact tt8  -- t20
      · rw [lei, t0i] at c37
        have nz : r29.toInt ≠ 0 := fun e => c34 (Int32.toInt_inj.mp (e.trans t0i.symm))
        have Q := nm_s W N0 S0 hκ_35
        exact ⟨rfl, rfl, soF_s (by rw [h20]; exact Or.inr (Or.inl rfl)) hκ_35, Q, fun f b _ _ => by rw [hκ_35]; rfl, ⟨by rw [hκ_35]; exact congrArg Int32.toInt (if_pos ⟨rfl, rfl⟩), by omega⟩, by rw [hκ_35]; rfl, Or.inl ⟨c37, by rw [hκ_35]; rfl, by omega⟩⟩
    · skip
      refine hj54 _ _ _ _ _ _ W36 ?_ ?_ ?_ ?_ ?_
      · rw [hκ_35]; exact Ta0  -- t22
      · rw [hκ_35]; exact Ta1  -- t23
      · rw [hκ_35]; exact tp21  -- t24
      · rw [hκ_35]; exact tt7  -- t25
      · rw [lei, t0i] at c37
        have nz : r29.toInt ≠ 0 := fun e => c34 (Int32.toInt_inj.mp (e.trans t0i.symm))
        have Q := nm_s W N0 S0 hκ_35
        exact ⟨rfl, rfl, soF_s (by rw [h20]; exact Or.inr (Or.inl rfl)) hκ_35, Q, fun f b _ _ => by rw [hκ_35]; rfl, ⟨by rw [hκ_35]; exact congrArg Int32.toInt (if_pos ⟨rfl, rfl⟩), by omega⟩, by rw [hκ_35]; rfl, Or.inr ⟨c37, by rw [hκ_35]; rfl, by omega⟩⟩
  · skip
    intro T38
    refine Ra_putZero_c W32 T38 6500 ?_ (fun κ_39 q40 => ?_)
    · have f21 := nm_g N0 h21 m21 (by decide)
      have f22 := nm_g N0 h22 m22 (by decide)
      exact ⟨f21.2.2, f22.2.2, ro_n h21 h22 (by decide)⟩
    intro W41
    intro M42
    refine h _ ?_
    · have e0 : r29.toInt = 0 := by rw [c34]; rfl
      obtain ⟨Z, J, V⟩ := q40
      have et : ∀ f b, f ≠ nuLimbs → f ≠ nuLength → f ≠ raSign → zR κ_39 f b = zR κ f b := fun f b x y z => raF_r Z x y z
      have e1 := et raTop (zR κ soPart a0) (by decide) (by decide) (by decide)
      have e2 := et raBottom (zR κ soPart a0) (by decide) (by decide) (by decide)
      unfold raJ at J
      unfold raV at V
      rw [e1, e2] at J V
      have Zs : zF (soF ρ stR9 (zR κ soCalc a0)) κ κ_39 := Z.mono (fun f b z => by
        rcases z with ⟨z | z, y⟩ | z
        · exact Or.inl ⟨by rw [z, h21]; exact Or.inr (Or.inr (Or.inl rfl)), y.elim Or.inl (fun q => Or.inr (Or.inl q))⟩
        · exact Or.inl ⟨by rw [z, h22]; exact Or.inr (Or.inr (Or.inr rfl)), y.elim Or.inl (fun q => Or.inr (Or.inl q))⟩
        · exact Or.inl ⟨by rw [z.1, h20]; exact Or.inr (Or.inl rfl), Or.inr (Or.inr z.2)⟩)
      have N : nmI ρ κ_39 := nm_k W N0 Z (fun w hw => by
        by_cases z1 : w = (zR κ raTop (zR κ soPart a0))
        · right
          rw [z1, h21]
          exact ⟨J.1.1.2.1, fun _ => J.1⟩
        · by_cases z2 : w = (zR κ raBottom (zR κ soPart a0))
          · right
            rw [z2, h22]
            exact ⟨J.2.1.1.2.1, fun _ => J.2.1⟩
          · left
            refine ⟨fun z => ?_, fun z => ?_⟩
            · rcases z with ⟨z | z, _⟩ | z
              · exact z1 z
              · exact z2 z
              · exact absurd z.2 (by decide)
            · rcases z with ⟨z | z, _⟩ | z
              · exact z1 z
              · exact z2 z
              · exact absurd z.2 (by decide)) (fun v => et _ _ (by decide) (by decide) (by decide)) (fun v => et _ _ (by decide) (by decide) (by decide))
      have S : soI ρ κ_39 a0 := by
        refine so_k' S0 (fun f b x y z => et f b x y z) (Z.l (ty_caFactors W (ty_soCalc W Ta0)))
      exact ⟨Zs, ⟨N, S⟩, Or.inl ⟨by omega, V.1, V.2.1, V.2.2⟩⟩

end
section
set_option maxHeartbeats 1600000
/-! the class: Solver's keepPart -/
/-- a fraction of a role was written -/
theorem nm_ra {C : zC} {n0 a p r : Nat} {ρ : Nat → Nat} {κ τ : zS} (W : zW C n0 κ) (Ta : zT κ a = 12) (N : nmI ρ κ) (I : soI ρ κ a) (hp : ρ p = r) (hr : raR r) (Z : zF (raF (zR κ raTop p) (zR κ raBottom p) p) κ τ) (J1 : nuI τ (zR κ raTop p) (capR (r + 1))) (J2 : nuI τ (zR κ raBottom p) (capR (r + 2))) : (nmI ρ τ ∧ soI ρ τ a) ∧ ∀ ca, zF (soF ρ (fun q => q = r ∨ q = r + 1 ∨ q = r + 2) ca) κ τ := by
  have P := N.2 p (by rw [hp]; exact hr)
  have h1 : ρ (zR κ raTop p) = r + 1 := by rw [P.2.1, hp]
  have h2 : ρ (zR κ raBottom p) = r + 2 := by rw [P.2.2, hp]
  have et : ∀ f b, f ≠ nuLimbs → f ≠ nuLength → f ≠ raSign → zR τ f b = zR κ f b := fun f b x y z => raF_r Z x y z
  refine ⟨⟨nm_k W N Z (fun w hw => ?_) (fun v => et _ _ (by decide) (by decide) (by decide)) (fun v => et _ _ (by decide) (by decide) (by decide)), so_k' I et (Z.l (ty_caFactors W (ty_soCalc W Ta)))⟩, fun ca => Z.mono (fun f b z => ?_)⟩
  · by_cases z1 : w = zR κ raTop p
    · right
      rw [z1, h1]
      exact ⟨J1.1.2.1, fun _ => J1⟩
    · by_cases z2 : w = zR κ raBottom p
      · right
        rw [z2, h2]
        exact ⟨J2.1.2.1, fun _ => J2⟩
      · left
        refine ⟨fun z => ?_, fun z => ?_⟩
        · rcases z with ⟨z | z, _⟩ | z
          · exact z1 z
          · exact z2 z
          · exact absurd z.2 (by decide)
        · rcases z with ⟨z | z, _⟩ | z
          · exact z1 z
          · exact z2 z
          · exact absurd z.2 (by decide)
  · rcases z with ⟨z | z, y⟩ | z
    · exact Or.inl ⟨by rw [z, h1]; exact Or.inr (Or.inl rfl), y.elim Or.inl (fun q => Or.inr (Or.inl q))⟩
    · exact Or.inl ⟨by rw [z, h2]; exact Or.inr (Or.inr rfl), y.elim Or.inl (fun q => Or.inr (Or.inl q))⟩
    · exact Or.inl ⟨by rw [z.1, hp]; exact Or.inl rfl, Or.inr (Or.inr z.2)⟩
theorem k256 {κ : zS} {w c : Nat} (I : nuI κ w c) (h : nuN κ w < 2 ^ 256) : nuK κ w ≤ 9 := nuK_lt I (by
  rw [p31_2]
  exact Nat.lt_of_lt_of_le h (Nat.pow_le_pow_right (by decide) (by decide)))
theorem cap_v {r : Nat} (h : 100 ≤ r) (h2 : r < 999990) : capR r = 20 ∧ capR (r + 1) = 20 ∧ capR (r + 2) = 20 := by
  unfold capR
  refine ⟨?_, ?_, ?_⟩
  · rw [if_neg (by omega), if_pos (by omega)]
  · rw [if_neg (by omega), if_pos (by omega)]
  · rw [if_neg (by omega), if_pos (by omega)]
theorem So_keepPart_c {C : zC} {n0 : Nat} {a0 : Nat} {a1 : Nat} {κ : zS} {Q : Int32 → zS → Prop} (W : zW C n0 κ) (Ta0 : zT κ a0 = 12) (Ta1 : zT κ a1 = 11) (ρ : Nat → Nat) (w9 : Nat) (hp : (nmI ρ κ ∧ soI ρ κ a0) ∧ ρ a1 = w9 ∧ (100 ≤ w9 ∧ w9 < 999990 ∧ w9 % 4 = 0)) (h : ∀ (v : Int32) (κ' : zS), (nb v ∧ (v = 0 → κ' = κ) ∧ (v ≠ 0 → (zF (soF ρ (fun q => q = w9 ∨ q = w9 + 1 ∨ q = w9 + 2) (zR κ soCalc a0)) κ κ' ∧ nmI ρ κ' ∧ soI ρ κ' a0) ∧ (nuN κ (zR κ raTop (zR κ soPart a0)) < 2 ^ 256 ∧ nuN κ (zR κ raBottom (zR κ soPart a0)) < 2 ^ 256) ∧ raV κ' a1 ((zI κ raSign (zR κ soPart a0)).toInt) (nuN κ (zR κ raTop (zR κ soPart a0))) (nuN κ (zR κ raBottom (zR κ soPart a0))))) → Q v κ') : zRun C 3 mSo_keepPart [.ref a0, .ref a1] κ (oI Q noX) := by
  refine So_keepPart_run W Ta0 Ta1 ?_
  replace W := W.lo (Nat.le_trans W.1.2.1 W.1.2.2) (Nat.le_refl (zn κ))
  unfold w_So_keepPart_0
  obtain ⟨⟨N0, S0⟩, hw, w1, w2, w3⟩ := hp
  have h20 := S0.1.2.2.2.2.2.2
  have P20 := N0.2 (zR κ soPart a0) (by rw [h20]; exact Or.inl rfl)
  have h21 : ρ (zR κ raTop (zR κ soPart a0)) = 21 := by rw [P20.2.1, h20]
  have h22 : ρ (zR κ raBottom (zR κ soPart a0)) = 22 := by rw [P20.2.2, h20]
  have rw9 : raR w9 := Or.inr (Or.inr ⟨w1, by omega, w3⟩)
  have PW := N0.2 a1 (by rw [hw]; exact rw9)
  have hw1 : ρ (zR κ raTop a1) = w9 + 1 := by rw [PW.2.1, hw]
  have hw2 : ρ (zR κ raBottom a1) = w9 + 2 := by rw [PW.2.2, hw]
  have cv := cap_v w1 w2
  have g21 := nm_g N0 h21 (Or.inr (Or.inl rfl)) (by decide)
  have g22 := nm_g N0 h22 (Or.inr (Or.inr (Or.inl rfl))) (by decide)
  have gw1 := nm_g N0 hw1 (raR_n rw9).1 (by omega)
  have gw2 := nm_g N0 hw2 (raR_n rw9).2 (by omega)
  rw [cv.2.1] at gw1
  rw [cv.2.2] at gw2
  intro T1
  refine Ra_fits_c W T1  ?_ (fun r2 q4 => ?_)
  · exact ⟨g21.2.1, g22.2.1⟩  -- p1
  intro W5
  intro M6
  refine ⟨fun c7 => ?_, fun c7 => ?_⟩
  · skip
    refine ⟨?_, h _ _ ?_⟩
    · exact q4.1  -- b2
    · exact ⟨q4.1, fun _ => rfl, fun z => absurd c7 z⟩  -- q3
  · skip
    intro T8
    intro T9
    have fb := q4.2 c7
    have k1 := k256 g21.1 fb.1
    have k2 := k256 g22.1 fb.2
    refine Ra_copy_c W5 T8 T9 20 ?_ (fun κ_10 q11 => ?_)
    · exact ⟨⟨gw1.2.2, gw2.2.2, ro_n hw1 hw2 (by omega)⟩, ⟨g21.2.1, g22.2.1, ro_n h21 h22 (by decide)⟩, ⟨ro_n hw1 h21 (by omega), ro_n hw1 h22 (by omega), ro_n hw2 h21 (by omega), ro_n hw2 h22 (by omega)⟩, ⟨by omega, by omega⟩, by decide⟩  -- p4
    intro W12
    intro M13
    refine ⟨?_, h _ _ ?_⟩
    · exact q4.1  -- b5
    · obtain ⟨Z, J, V⟩ := q11
      have e1 : zR κ_10 raTop a1 = zR κ raTop a1 := raF_r Z (by decide) (by decide) (by decide)
      have e2 : zR κ_10 raBottom a1 = zR κ raBottom a1 := raF_r Z (by decide) (by decide) (by decide)
      have J' := J
      unfold raJ at J'
      rw [e1, e2] at J'
      have R := nm_ra W Ta0 N0 S0 hw rw9 Z (by rw [cv.2.1]; exact J'.1) (by rw [cv.2.2]; exact J'.2.1)
      exact ⟨q4.1, fun z => absurd z c7, fun _ => ⟨⟨R.2 _, R.1⟩, fb, V⟩⟩

end
section
set_option maxHeartbeats 1600000
/-! the class: Solver's keep -/
def kpR9 (w : Nat) : Nat → Prop := fun r => stR9 r ∨ r = w ∨ r = w + 1 ∨ r = w + 2
theorem So_keep_c {C : zC} {n0 : Nat} {a0 : Nat} {a1 : Nat} {a2 : Nat} {a3 : Nat} {κ : zS} {Q : Int32 → zS → Prop} (W : zW C n0 κ) (Ta0 : zT κ a0 = 12) (Ta1 : zT κ a1 = 11) (Ta2 : zT κ a2 = 8) (Ta3 : zT κ a3 = 8) (ρ : Nat → Nat) (w9 u9 v9 : Nat) (hp : (nmI ρ κ ∧ soI ρ κ a0) ∧ (ρ a1 = w9 ∧ 100 ≤ w9 ∧ w9 < 999990 ∧ w9 % 4 = 0) ∧ (ρ a2 = u9 ∧ nmR u9 ∧ u9 < 10) ∧ (ρ a3 = v9 ∧ nmR v9 ∧ v9 < 10) ∧ nuN κ a2 < pB9 4000 ∧ nuN κ a3 < pB9 4000) (h : ∀ (v : Int32) (κ' : zS), (nb v ∧ (zF (soF ρ (kpR9 w9) (zR κ soCalc a0)) κ κ' ∧ nmI ρ κ' ∧ soI ρ κ' a0) ∧ (v = 0 → zF (soF ρ stR9 (zR κ soCalc a0)) κ κ') ∧ (v ≠ 0 → (nuN κ a2 / Nat.gcd (nuN κ a2) (nuN κ a3) < 2 ^ 256 ∧ nuN κ a3 / Nat.gcd (nuN κ a2) (nuN κ a3) < 2 ^ 256) ∧ raV κ' a1 1 (nuN κ a2 / Nat.gcd (nuN κ a2) (nuN κ a3)) (nuN κ a3 / Nat.gcd (nuN κ a2) (nuN κ a3)))) → Q v κ') : zRun C 6 mSo_keep [.ref a0, .ref a1, .ref a2, .ref a3] κ (oI Q noX) := by
  refine So_keep_run W Ta0 Ta1 Ta2 Ta3 ?_
  replace W := W.lo (Nat.le_trans W.1.2.1 W.1.2.2) (Nat.le_refl (zn κ))
  unfold w_So_keep_0
  obtain ⟨⟨N0, S0⟩, ⟨hw, w1, w2, w3⟩, ⟨hu, u1, u2⟩, ⟨hv, v1, v2⟩, p1, p2⟩ := hp
  have h20 := S0.1.2.2.2.2.2.2
  have P20 := N0.2 (zR κ soPart a0) (by rw [h20]; exact Or.inl rfl)
  have h21 : ρ (zR κ raTop (zR κ soPart a0)) = 21 := by rw [P20.2.1, h20]
  have h22 : ρ (zR κ raBottom (zR κ soPart a0)) = 22 := by rw [P20.2.2, h20]
  have m21 : nmR 21 := Or.inr (Or.inl rfl)
  have m22 : nmR 22 := Or.inr (Or.inr (Or.inl rfl))
  have tp21 : zT κ (zR κ raTop (zR κ soPart a0)) = 8 := ty_raTop W P20.1
  have tp22 : zT κ (zR κ raBottom (zR κ soPart a0)) = 8 := ty_raBottom W P20.1
  have gu := nm_g N0 hu u1 (by omega)
  have gv := nm_g N0 hv v1 (by omega)
  have ku := nuK_lt gu.1 p1
  have kv := nuK_lt gv.1 p2
  clear u1 v1
  intro κ_1 hκ_1
  intro W2
  intro T3
  intro T4
  have Q1 := nm_s W N0 S0 hκ_1
  have R1 : zR κ_1 = zR κ := by rw [hκ_1]; rfl
  have ua := ui_s (z := a2) (c := 30000000) hκ_1
  have va := ui_s (z := a3) (c := 30000000) hκ_1
  have et1 : zR κ_1 raTop (zR κ_1 soPart a0) = (zR κ raTop (zR κ soPart a0)) := by rw [R1]
  have Z1 : zF (soF ρ stR9 (zR κ soCalc a0)) κ κ_1 := soF_s (by rw [h20]; exact Or.inr (Or.inl rfl)) hκ_1
  have T1 : zT κ_1 a0 = 12 := Z1.t Ta0 (by decide)
  have s1 : (zI κ_1 raSign (zR κ soPart a0)).toInt = 1 := by rw [ua.2.2.2.1]; rfl
  refine Nu_copy_c W2 T3 T4 6500 30000000 ?_ (fun κ_5 q6 => ?_)
  · have f21 := nm_g Q1.1 h21 m21 (by decide)
    rw [et1, ua.2.2.2.2.2.2.2]
    exact ⟨f21.2.2, (ua.2.2.2.2.1 gu.2.1).1, ro_n h21 hu (by omega), by omega, by decide⟩
  rw [et1, ua.2.2.2.2.2.1] at q6
  obtain ⟨F5, B5, V5, K5, Z5⟩ := q6
  have I5 : nuI κ_5 (zR κ raTop (zR κ soPart a0)) 6500 := ⟨B5, Z5 (ua.2.2.2.2.1 gu.2.1).2⟩
  have N5 : nmI ρ κ_5 := nm_1 W2 Q1.1 F5 (by rw [h21]; exact I5)
  have S5 : soI ρ κ_5 a0 := so_1 W2 T1 Q1.2 F5
  have hr5 : ∀ f b, f ≠ nuLimbs → f ≠ nuLength → zR κ_5 f b = zR κ f b := fun f b x y => (nuF_r F5 x y).trans (by rw [R1])
  have eb5 : zR κ_5 raBottom (zR κ_5 soPart a0) = (zR κ raBottom (zR κ soPart a0)) := by rw [hr5 soPart _ (by decide) (by decide), hr5 raBottom _ (by decide) (by decide)]
  have b3 := nuB_z (c := 30000000) W2 (Z1.t Ta3 (by decide)) F5 (fun z => ro_n hv h21 (by omega) z.1) (fun z => ro_n hv h21 (by omega) z.1)
  have T5 : zT κ_5 a0 = 12 := F5.t T1 (by decide)
  have tt5 : zT κ_5 (zR κ raTop (zR κ soPart a0)) = 8 := F5.t (Z1.t tp21 (by decide)) (by decide)
  have Iv5 := b3.2.1 (va.2.2.2.2.1 gv.2.1)
  intro W7
  intro M8
  intro T9
  intro T10
  refine Nu_copy_c W7 T9 T10 6500 30000000 ?_ (fun κ_11 q12 => ?_)
  · have f22 := nm_g N5 h22 m22 (by decide)
    rw [eb5, b3.2.2.2, va.2.2.2.2.2.2.2]
    exact ⟨f22.2.2, Iv5.1, ro_n h22 hv (by omega), by omega, by decide⟩
  rw [eb5, b3.2.2.1, va.2.2.2.2.2.1] at q12
  obtain ⟨F9, B9, V9, K9, Z9⟩ := q12
  have I9 : nuI κ_11 (zR κ raBottom (zR κ soPart a0)) 6500 := ⟨B9, Z9 Iv5.2⟩
  have N9 : nmI ρ κ_11 := nm_1 W7 N5 F9 (by rw [h22]; exact I9)
  have S9 : soI ρ κ_11 a0 := so_1 W7 T5 S5 F9
  have hr9 : ∀ f b, f ≠ nuLimbs → f ≠ nuLength → zR κ_11 f b = zR κ f b := fun f b x y => (nuF_r F9 x y).trans (hr5 f b x y)
  have ec9 : zR κ_11 soCalc a0 = (zR κ soCalc a0) := hr9 _ _ (by decide) (by decide)
  have et9 : zR κ_11 raTop (zR κ_11 soPart a0) = (zR κ raTop (zR κ soPart a0)) := by rw [hr9 soPart _ (by decide) (by decide), hr9 raTop _ (by decide) (by decide)]
  have eb9 : zR κ_11 raBottom (zR κ_11 soPart a0) = (zR κ raBottom (zR κ soPart a0)) := by rw [hr9 soPart _ (by decide) (by decide), hr9 raBottom _ (by decide) (by decide)]
  have bt9 := nuB_z (c := 6500) W7 tt5 F9 (fun z => ro_n h21 h22 (by decide) z.1) (fun z => ro_n h21 h22 (by decide) z.1)
  have VT9 : nuN κ_11 (zR κ raTop (zR κ soPart a0)) = nuN κ a2 := by rw [bt9.2.2.1]; exact V5
  intro W13
  intro M14
  intro T15
  intro T16
  intro T17
  refine Ca_reduce_c W13 T15 T16 T17 6500 4000 6500 ?_ (fun κ_18 q19 => ?_)
  · rw [et9, eb9]
    exact ⟨⟨bt9.2.1 I5, I9⟩, so_ca N9 S9, ⟨so_o S9 h21 (by decide), so_o S9 h22 (by decide), ro_n h21 h22 (by decide)⟩, ⟨by rw [VT9]; exact p1, by rw [V9]; exact p2⟩, ⟨by decide, by decide, by decide⟩, by decide, by decide⟩
  rw [et9, eb9, VT9, V9] at q19
  obtain ⟨⟨Z16, C16, S16⟩, ⟨I16, V16⟩, J16, U16⟩ := q19
  have R := nm_ca9 W13 N9 S9 Z16 C16 S16 (fun b z => by
    rcases z with z | z | z
    · exact Or.inl z
    · right
      rw [z, h21]
      exact ⟨by decide, I16⟩
    · right
      rw [z, h22]
      exact ⟨by decide, J16⟩)
  have s16 : zI κ_18 raSign (zR κ soPart a0) = zI κ_11 raSign (zR κ soPart a0) := Z16.i (fun z => by
    rcases z with ⟨_, z | z⟩ | ⟨_, z | z | z | z⟩
    · exact absurd z (by decide)
    · exact absurd z (by decide)
    · exact absurd z (by decide)
    · exact absurd z (by decide)
    · exact absurd z (by decide)
    · exact absurd z (by decide))
  have sg : (zI κ_18 raSign (zR κ soPart a0)).toInt = 1 := by
    rw [s16, nuF_i F9, nuF_i F5]
    exact s1
  have e16 : ∀ f b, (f ≠ nuLimbs ∧ f ≠ nuLength ∧ f ≠ caRest ∧ f ≠ caX ∧ f ≠ caY ∧ f ≠ caFactors) → zR κ_18 f b = zR κ f b := fun f b x => (caF_r Z16 x).trans (hr9 f b x.1 x.2.1)
  rw [ec9] at Z16
  have Zf : zF (soF ρ stR9 (zR κ soCalc a0)) κ κ_18 := ((Z1.tr (soF_1 (by rw [h21]; exact Or.inr (Or.inr (Or.inl rfl))) F5)).tr (soF_1 (by rw [h22]; exact Or.inr (Or.inr (Or.inr rfl))) F9)).tr (soF_c (fun b z => by
    rcases z with z | z | z
    · have q := S9.2.2.1 b (by rw [ec9]; exact z)
      rw [q]
      exact Or.inl rfl
    · rw [z, h21]
      exact Or.inr (Or.inr (Or.inl rfl))
    · rw [z, h22]
      exact Or.inr (Or.inr (Or.inr rfl))) Z16)
  have et18 : zR κ_18 raTop (zR κ_18 soPart a0) = (zR κ raTop (zR κ soPart a0)) := by rw [e16 soPart _ (by decide), e16 raTop _ (by decide)]
  have eb18 : zR κ_18 raBottom (zR κ_18 soPart a0) = (zR κ raBottom (zR κ soPart a0)) := by rw [e16 soPart _ (by decide), e16 raBottom _ (by decide)]
  have ep18 : zR κ_18 soPart a0 = (zR κ soPart a0) := e16 _ _ (by decide)
  have ec18 : zR κ_18 soCalc a0 = (zR κ soCalc a0) := e16 _ _ (by decide)
  intro W20
  intro M21
  intro T22
  intro T23
  refine So_keepPart_c W20 T22 T23 ρ w9 ?_ (fun r24 κ_25 q26 => ?_)
  · exact ⟨R, hw, w1, w2, w3⟩  -- p4
  intro W27
  intro M28
  refine ⟨?_, h _ _ ?_⟩
  · exact q26.1  -- b5
  · obtain ⟨b, z0, z1⟩ := q26
    rw [et18, eb18, ep18, ec18, sg, V16, U16] at z1
    by_cases z : r24 = 0
    · have e := z0 z
      rw [e]
      exact ⟨b, ⟨soF_m (fun r y => Or.inl y) Zf, R⟩, fun _ => Zf, fun y => absurd z y⟩
    · obtain ⟨⟨y1, y2⟩, y3, y4⟩ := z1 z
      exact ⟨b, ⟨(soF_m (fun r y => Or.inl y) Zf).tr (soF_m (fun r y => Or.inr y) y1), y2⟩, fun y => absurd y z, fun _ => ⟨y3, y4⟩⟩

end
section
set_option maxHeartbeats 1600000
/-! the class: Solver's unit -/
theorem raF_q {t b p f x : Nat} (h1 : f ≠ nuLimbs) (h2 : f ≠ nuLength) (h3 : f ≠ raSign) : ¬ raF t b p f x := fun z => by
  rcases z with ⟨_, z | z⟩ | ⟨_, z⟩
  · exact h1 z
  · exact h2 z
  · exact h3 z
/-- a state's divisor -/
def dvA (κ : zS) (x k : Nat) : Int32 := if zA κ (zR κ atChooses x) k = 0 then zA κ (zR κ atTotals x) k else 1
theorem at_ra {C : zC} {n0 t b p x : Nat} {κ τ : zS} (W : zW C n0 κ) (T : zT κ x = 3) (Z : zF (raF t b p) κ τ) (M : atM κ x) : atM τ x ∧ ∀ k, dvA τ x k = dvA κ x k := by
  have r : ∀ f, f ≠ nuLimbs → f ≠ nuLength → f ≠ raSign → zR τ f x = zR κ f x := fun f h1 h2 h3 => raF_r Z h1 h2 h3
  have c := (Z.row W (show zr atChooses = some 23 by decide +kernel) (by decide) T (raF_q (by decide) (by decide) (by decide))).1
  have d := (Z.row W (show zr atTotals = some 20 by decide +kernel) (by decide) T (raF_q (by decide) (by decide) (by decide))).1
  refine ⟨?_, fun k => ?_⟩
  · unfold atM
    rw [r atFirsts (by decide) (by decide) (by decide), r atTotals (by decide) (by decide) (by decide), r atGains (by decide) (by decide) (by decide), r atPlan (by decide) (by decide) (by decide), r atChooses (by decide) (by decide) (by decide), r atHopeless (by decide) (by decide) (by decide), Z.l (ty_atFirsts W T), Z.l (ty_atTotals W T), Z.l (ty_atGains W T), Z.l (ty_atPlan W T), Z.l (ty_atChooses W T), Z.l (ty_atHopeless W T)]
    exact M
  · unfold dvA
    rw [c, d]
def unR9 : Nat → Prop := fun r => r = 20 ∨ r = 21 ∨ r = 22
theorem So_unit_c {C : zC} {n0 : Nat} {a0 : Nat} {a1 : Int32} {κ : zS} {Q : zS → Prop} (W : zW C n0 κ) (Ta0 : zT κ a0 = 12) (ρ : Nat → Nat) (u9 : Nat) (hp : (nmI ρ κ ∧ soI ρ κ a0) ∧ atM κ (zR κ soAtlas a0) ∧ (0 ≤ a1.toInt ∧ a1.toInt < 1000 ∧ a1.toInt < (zN κ (zR κ soVisits a0))) ∧ (zQ κ (zR κ soVisits a0) a1.toNatClampNeg = some u9 ∧ ρ u9 = 100 + 8 * a1.toNatClampNeg) ∧ (nuN κ (zR κ raTop u9) < 2 ^ 256 ∧ nuN κ (zR κ raBottom u9) < 2 ^ 256 ∧ 0 < nuN κ (zR κ raBottom u9))) (h : ∀ (κ' : zS), ((zF (soF ρ unR9 (zR κ soCalc a0)) κ κ' ∧ nmI ρ κ' ∧ soI ρ κ' a0) ∧ (zI κ' raSign (zR κ soPart a0)).toInt = (zI κ raSign u9).toInt ∧ nuN κ' (zR κ raTop (zR κ soPart a0)) ≤ nuN κ (zR κ raTop u9) ∧ 0 < nuN κ' (zR κ raBottom (zR κ soPart a0)) ∧ nuN κ' (zR κ raBottom (zR κ soPart a0)) ∣ nuN κ (zR κ raBottom u9) * (if (dvA κ (zR κ soAtlas a0) a1.toNatClampNeg).toInt ≤ 1 then 1 else (dvA κ (zR κ soAtlas a0) a1.toNatClampNeg).toInt.toNat)) → Q κ') : zRun C 4 mSo_unit [.ref a0, .int a1] κ (oV Q noX) := by
  refine So_unit_run W Ta0 ?_
  replace W := W.lo (Nat.le_trans W.1.2.1 W.1.2.2) (Nat.le_refl (zn κ))
  unfold w_So_unit_0
  obtain ⟨⟨N0, S0⟩, M0, p1, ⟨hq, hu⟩, q1, q2, q3⟩ := hp
  have h20 := S0.1.2.2.2.2.2.2
  have P20 := N0.2 (zR κ soPart a0) (by rw [h20]; exact Or.inl rfl)
  have h21 : ρ (zR κ raTop (zR κ soPart a0)) = 21 := by rw [P20.2.1, h20]
  have h22 : ρ (zR κ raBottom (zR κ soPart a0)) = 22 := by rw [P20.2.2, h20]
  have m21 : nmR 21 := Or.inr (Or.inl rfl)
  have m22 : nmR 22 := Or.inr (Or.inr (Or.inl rfl))
  have kn := cnk p1.1
  have ru : raR (ρ u9) := by rw [hu]; exact Or.inr (Or.inr ⟨by omega, by omega, by omega⟩)
  have PU := N0.2 u9 ru
  have hu1 : ρ (zR κ raTop u9) = 101 + 8 * a1.toNatClampNeg := by rw [PU.2.1, hu]; omega
  have hu2 : ρ (zR κ raBottom u9) = 102 + 8 * a1.toNatClampNeg := by rw [PU.2.2, hu]; omega
  have g21 := nm_g N0 h21 m21 (by decide)
  have g22 := nm_g N0 h22 m22 (by decide)
  have gu1 := nm_g N0 PU.2.1 (raR_n ru).1 (by omega)
  have gu2 := nm_g N0 PU.2.2 (raR_n ru).2 (by omega)
  have k1 := k256 gu1.1 q1
  have k2 := k256 gu2.1 q2
  have tp21 : zT κ (zR κ raTop (zR κ soPart a0)) = 8 := ty_raTop W P20.1
  have tp22 : zT κ (zR κ raBottom (zR κ soPart a0)) = 8 := ty_raBottom W P20.1
  have hj60 : ∀ (l0 : Nat) (l2 : Int32) (l3 : Int32) (τ : zS), zW C (zn κ) τ → zT τ l0 = 12 → (a0 = l0 ∧ ((zF (soF ρ unR9 (zR κ soCalc a0)) κ τ ∧ nmI ρ τ ∧ soI ρ τ a0) ∧ zR τ raBottom (zR τ soPart a0) = (zR κ raBottom (zR κ soPart a0))) ∧ ((zI τ raSign (zR κ soPart a0)).toInt = (zI κ raSign u9).toInt ∧ nuN τ (zR κ raTop (zR κ soPart a0)) ≤ nuN κ (zR κ raTop u9) ∧ nuN τ (zR κ raBottom (zR κ soPart a0)) = nuN κ (zR κ raBottom u9)) ∧ (1 < l2.toInt ∧ l2 = dvA κ (zR κ soAtlas a0) a1.toNatClampNeg) ∧ 0 < l3.toInt ∧ l3.toInt.toNat ∣ l2.toInt.toNat) → w_So_unit_60 C (zn κ) Q  l0 l2 l3 τ := by
    rintro _ y60_2 y60_3 τ60 W60 T60_0 ⟨rfl, j60⟩
    unfold w_So_unit_60
    obtain ⟨⟨⟨Z1, N1, S1⟩, eb1⟩, ⟨sg, t1, b1⟩, ⟨l2, rfl⟩, l3, ld⟩ := j60
    have f22 := nm_g N1 h22 m22 (by decide)
    have d5 := i_divn (x := dvA κ (zR κ soAtlas a0) a1.toNatClampNeg) (y := y60_3) (by omega) l3
    have e5 : (dvA κ (zR κ soAtlas a0) a1.toNatClampNeg / y60_3).toInt64.toInt = (dvA κ (zR κ soAtlas a0) a1.toNatClampNeg / y60_3).toInt := Int32.toInt_toInt64 _
    have i5 := ihi (dvA κ (zR κ soAtlas a0) a1.toNatClampNeg / y60_3)
    have kb := k256 f22.1 (by rw [b1]; exact q2)
    refine ⟨?_, ?_⟩
    · exact i_n0 l3  -- b1
    intro T1
    refine Nu_times_c W60 T1 6500 ?_ (fun κ_2 q3 => ?_)
    · rw [eb1]
      exact ⟨f22.1, ⟨by rw [e5]; exact d5.2.2, by rw [e5]; omega⟩, by omega, by decide⟩
    intro W4
    intro M5
    refine h _ ?_
    · rw [eb1, e5, d5.2.1, b1] at q3
      obtain ⟨F, I, V⟩ := q3
      have bt := nuB_z (c := 6500) W60 (Z1.t tp21 (by decide)) F (fun z => ro_n h21 h22 (by decide) z.1) (fun z => ro_n h21 h22 (by decide) z.1)
      refine ⟨⟨Z1.tr (soF_1 (by rw [h22]; exact Or.inr (Or.inr rfl)) F), nm_1 W60 N1 F (by rw [h22]; exact I), so_1 W60 T60_0 S1 F⟩, by rw [nuF_i F]; exact sg, by rw [bt.2.2.1]; exact t1, by rw [V]; exact Nat.mul_pos (by assumption) (dv_p (by omega) ld), ?_⟩
      rw [V, if_neg (by omega)]
      exact Nat.mul_dvd_mul (Nat.dvd_refl _) (Nat.div_dvd_of_dvd ld)
  refine ⟨?_, ?_⟩
  · rw [inb_iff]; omega  -- b4
  refine ex_some ?_ (fun u6 hu6 => ?_)
  · exact ⟨u9, hq⟩  -- e5
  intro T7
  intro T8
  have eu : u6 = u9 := Option.some.inj (hu6.symm.trans hq)
  subst eu
  refine Ra_copy_c W T7 T8 6500 ?_ (fun κ_9 q10 => ?_)
  · exact ⟨⟨g21.2.2, g22.2.2, ro_n h21 h22 (by decide)⟩, ⟨gu1.2.1, gu2.2.1, ro_n hu1 hu2 (by omega)⟩, ⟨ro_n h21 hu1 (by omega), ro_n h21 hu2 (by omega), ro_n h22 hu1 (by omega), ro_n h22 hu2 (by omega)⟩, ⟨by omega, by omega⟩, by decide⟩  -- p6
  obtain ⟨Z9, J9, V9⟩ := q10
  have e1 : zR κ_9 raTop (zR κ soPart a0) = (zR κ raTop (zR κ soPart a0)) := raF_r Z9 (by decide) (by decide) (by decide)
  have e2 : zR κ_9 raBottom (zR κ soPart a0) = (zR κ raBottom (zR κ soPart a0)) := raF_r Z9 (by decide) (by decide) (by decide)
  have e3 : zR κ_9 soPart a0 = (zR κ soPart a0) := raF_r Z9 (by decide) (by decide) (by decide)
  have e4 : zR κ_9 soAtlas a0 = zR κ soAtlas a0 := raF_r Z9 (by decide) (by decide) (by decide)
  unfold raJ at J9
  unfold raV at V9
  rw [e1, e2] at J9 V9
  have R9 := nm_ra W Ta0 N0 S0 h20 (Or.inl rfl) Z9 J9.1 J9.2.1
  have A9 := at_ra W (ty_soAtlas W Ta0) Z9 M0
  have T9 : zT κ_9 a0 = 12 := Z9.t Ta0 (by decide)
  have Zs : zF (soF ρ unR9 (zR κ soCalc a0)) κ κ_9 := R9.2 _
  have et9 : zR κ_9 raTop (zR κ_9 soPart a0) = (zR κ raTop (zR κ soPart a0)) := by rw [e3, e1]
  have eb9 : zR κ_9 raBottom (zR κ_9 soPart a0) = (zR κ raBottom (zR κ soPart a0)) := by rw [e3, e2]
  intro W11
  intro M12
  intro T13
  refine At_divisorOf_c W11 T13  ?_ (fun r14 q16 => ?_)
  · rw [e4]
    exact ⟨A9.1, p1.1, p1.2.1⟩
  intro W17
  intro M18
  have q16' : r14 = dvA κ (zR κ soAtlas a0) a1.toNatClampNeg := by
    rw [e4] at q16
    exact q16.trans (A9.2 _)
  refine ⟨fun c19 => ?_, fun c19 => ?_⟩
  · skip
    refine h _ ?_
    · rw [lei, t1i] at c19
      rw [q16'] at c19
      refine ⟨⟨Zs, R9.1⟩, V9.1, Nat.le_of_eq V9.2.1, by rw [V9.2.2]; exact q3, ?_⟩
      rw [V9.2.2, if_pos c19, Nat.mul_one]
      exact Nat.dvd_refl _
  · skip
    intro T20
    rw [lei, t1i] at c19
    refine Nu_rest_c W17 T20 30000000 ?_ (fun r21 q23 => ?_)
    · rw [et9]
      exact ⟨nuI_mono (by decide) J9.1, by omega⟩
    intro W24
    intro M25
    have r0 : 0 ≤ r21.toInt := by rw [q23]; exact Int.natCast_nonneg _
    refine Ch_commonInt_c W24   ?_ (fun r26 q28 => ?_)
    · exact ⟨by omega, r0⟩  -- p10
    have gd : r26.toInt.toNat ∣ r14.toInt.toNat := by
      rcases q28.2 with z | z
      · rw [z]; exact Nat.gcd_dvd_left _ _
      · omega
    have g0 := q28.1
    intro W29
    intro M30
    refine ⟨fun c31 => ?_, fun c31 => ?_⟩
    · skip
      refine hj60 _ _ _ _ W29 ?_ ?_
      · exact T9  -- t11
      · exact ⟨rfl, ⟨⟨Zs, R9.1⟩, eb9⟩, ⟨V9.1, Nat.le_of_eq V9.2.1, V9.2.2⟩, ⟨by omega, q16'⟩, by omega, gd⟩  -- k12
    · skip
      intro T32
      refine Nu_over_c W29 T32 6500 ?_ (fun r33 κ_34 q35 => ?_)
      · rw [et9]
        exact ⟨J9.1, by omega⟩
      rw [et9, V9.2.1] at q35
      obtain ⟨F, I, V, _⟩ := q35
      have bb := nuB_z (c := 6500) W11 (Z9.t tp22 (by decide)) F (fun z => ro_n h22 h21 (by decide) z.1) (fun z => ro_n h22 h21 (by decide) z.1)
      have ebF : zR κ_34 raBottom (zR κ_34 soPart a0) = (zR κ raBottom (zR κ soPart a0)) := by rw [nuF_r F (by decide) (by decide), nuF_r F (by decide) (by decide), eb9]
      intro W36
      intro M37
      refine hj60 _ _ _ _ W36 ?_ ?_
      · exact F.t T9 (by decide)  -- t14
      · exact ⟨rfl, ⟨⟨Zs.tr (soF_1 (by rw [h21]; exact Or.inr (Or.inl rfl)) F), nm_1 W11 R9.1.1 F (by rw [h21]; exact I), so_1 W11 T9 R9.1.2 F⟩, ebF⟩, ⟨by rw [nuF_i F]; exact V9.1, by rw [V]; exact Nat.div_le_self _ _, by rw [bb.2.2.1]; exact V9.2.2⟩, ⟨by omega, q16'⟩, by omega, gd⟩  -- k15

end
section
set_option maxHeartbeats 1600000
/-! the class: the Solver's whole joins a number -/
def jnR9 : Nat → Prop := fun r => r = 1 ∨ r = 9 ∨ r = 10
/-- what Ca_join needs of the Solver's whole and a number of another role -/
theorem jn_p {ρ : Nat → Nat} {κ : zS} {a w r : Nat} (N : nmI ρ κ) (I : soI ρ κ a) (hw : ρ w = r) (hr : nmR r) (h : r ≠ 1 ∧ r ≠ 9 ∧ r ≠ 10) (p1 : nuN κ (zR κ soWhole a) < pB9 2000) (p2 : nuN κ w < pB9 100) : ((nuI κ (zR κ soWhole a) 6500 ∧ nuI κ w 30000000 ∧ nuI κ (zR κ caSpare (zR κ soCalc a)) 6500) ∧ caI κ (zR κ soCalc a) 6500 ∧ (¬ caS κ (zR κ soCalc a) (zR κ soWhole a) ∧ ¬ caS κ (zR κ soCalc a) w ∧ ¬ caS κ (zR κ soCalc a) (zR κ caSpare (zR κ soCalc a))) ∧ (zR κ soWhole a ≠ w ∧ zR κ soWhole a ≠ zR κ caSpare (zR κ soCalc a) ∧ w ≠ zR κ caSpare (zR κ soCalc a)) ∧ (nuN κ (zR κ soWhole a) < 2147483648 ^ 2000 ∧ nuN κ w < 2147483648 ^ 2000) ∧ (2000 + 1 + (2000 + 1) / 2 + 2 ≤ 6500 ∧ nuK κ (zR κ soWhole a) + nuK κ w + (nuK κ (zR κ soWhole a) + nuK κ w) / 2 + 1 ≤ 6500 ∧ 6500 ≤ 30000000) ∧ (nuK κ (zR κ soWhole a) + nuK κ w + (nuK κ (zR κ soWhole a) + nuK κ w) / 2 + 1 ≤ 6500 ∧ 6500 ≤ 30000000) ∧ 6500 ≤ 30000000 ∧ 2000 ≤ 16000) := by
  have h1 := I.1.1
  have h9 := I.2.2.2
  have m1 : nmR 1 := Or.inl ⟨by decide, by decide⟩
  have m9 : nmR 9 := Or.inl ⟨by decide, by decide⟩
  have g1 := nm_g N h1 m1 (by decide)
  have g9 := nm_g N h9 m9 (by decide)
  have gw := nm_g N hw hr h.2.2
  have k1 : nuK κ (zR κ soWhole a) ≤ 2000 := nuK_lt g1.1 p1
  have kw : nuK κ w ≤ 100 := nuK_lt gw.1 p2
  have lw : nuN κ w < pB9 2000 := Nat.lt_of_lt_of_le p2 (Nat.pow_le_pow_right (by decide) (by decide))
  clear p2
  exact ⟨⟨g1.1, gw.2.1, g9.1⟩, so_ca N I, ⟨so_o I h1 (by decide), so_o I hw h.2.2, so_o I h9 (by decide)⟩, ⟨ro_n h1 hw (Ne.symm h.1), ro_n h1 h9 (by decide), ro_n hw h9 h.2.1⟩, ⟨p1, lw⟩, ⟨by decide, by omega, by decide⟩, ⟨by omega, by decide⟩, by decide, by decide⟩
/-- and what it leaves -/
theorem jn_q {C : zC} {n0 a L : Nat} {ρ : Nat → Nat} {κ τ : zS} (W : zW C n0 κ) (N : nmI ρ κ) (I : soI ρ κ a) (q : (zF (caF (fun b => caS κ (zR κ soCalc a) b ∨ b = zR κ soWhole a ∨ b = zR κ caSpare (zR κ soCalc a)) (zR κ soCalc a)) κ τ ∧ caI τ (zR κ soCalc a) 6500 ∧ ∀ b, caS τ (zR κ soCalc a) b → caS κ (zR κ soCalc a) b) ∧ nuI τ (zR κ caSpare (zR κ soCalc a)) 6500 ∧ nuI τ (zR κ soWhole a) 6500 ∧ nuN τ (zR κ soWhole a) = L) : (nmI ρ τ ∧ soI ρ τ a) ∧ zF (soF ρ jnR9 (zR κ soCalc a)) κ τ ∧ zR τ soWhole a = zR κ soWhole a := by
  have h1 := I.1.1
  have h9 := I.2.2.2
  obtain ⟨⟨Z, K, S⟩, Is, Iw, V⟩ := q
  refine ⟨nm_ca9 W N I Z K S (fun b z => ?_), soF_c (fun b z => ?_) Z, caF_r Z (by decide)⟩
  · rcases z with z | z | z
    · exact Or.inl z
    · right
      rw [z, h1]
      exact ⟨by decide, Iw⟩
    · right
      rw [z, h9]
      exact ⟨by decide, Is⟩
  · rcases z with z | z | z
    · rw [I.2.2.1 b z]
      exact Or.inr (Or.inr rfl)
    · rw [z, h1]
      exact Or.inl rfl
    · rw [z, h9]
      exact Or.inr (Or.inl rfl)

end
