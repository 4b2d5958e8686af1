set_option maxHeartbeats 1600000
/-! worths and what is shown stay where visits are found -/
/-- the places of worths and of what is shown -/
def sh16 (r : Nat) : Prop := (30 ≤ r ∧ r ≤ 32) ∨ (104 ≤ r ∧ r < 9000 ∧ r % 8 ≤ 2)
def st16 (r : Nat) : Prop := r = 30 ∨ (104 ≤ r ∧ r < 8990 ∧ r % 8 = 0)
theorem st_r16 {r : Nat} (h : st16 r) : raR r ∧ sh16 r ∧ sh16 (r + 1) ∧ sh16 (r + 2) := by
  unfold st16 at h
  unfold raR sh16
  omega
def vrS16 : Nat → Prop := fun r => r < 30 ∨ (1000000 ≤ r ∧ r < 2000000)
theorem vrS16_v : ∀ r, 100 ≤ r → r < 1000000 → ¬ vrS16 r := fun r h0 h1 z => by
  unfold vrS16 at z
  omega
theorem vrS16_s : ∀ r, sh16 r → ¬ vrS16 r := fun r h z => by
  unfold sh16 at h
  unfold vrS16 at z
  omega
def voS16 (w : Nat) : Nat → Prop := fun r => r < 30 ∨ r = w ∨ r = w + 1 ∨ r = w + 2
/-- fractions of those places stay -/
def kr16 (ρ : Nat → Nat) (κ τ : zS) : Prop := ∀ u q, u < zn κ → st16 (ρ u) → fr16 κ u q → fr16 τ u q
theorem kr_r16 {ρ : Nat → Nat} {κ : zS} : kr16 ρ κ κ := fun _ _ _ _ z => z
theorem kr_t16 {ρ ρ1 : Nat → Nat} {κ τ υ : zS} (h : kr16 ρ κ τ) (hρ : ∀ b, b < zn κ → ρ1 b = ρ b) (hn : zn κ ≤ zn τ) (g : kr16 ρ1 τ υ) : kr16 ρ κ υ := fun u q hu hr z => g u q (by omega) (by rw [hρ u hu]; exact hr) (h u q hu hr z)
theorem kr_f16 {C : zC} {n0 ca : Nat} {ρ ρ1 : Nat → Nat} {R : Nat → Prop} {κ τ τ' : zS} (h : kr16 ρ κ τ) (hρ : ∀ b, b < zn κ → ρ1 b = ρ b) (W : zW C n0 τ) (N : nmI ρ1 τ) (Z : zF (soF ρ1 R ca) τ τ') (hR : ∀ r, sh16 r → ¬ R r) : kr16 ρ κ τ' := fun u q hu hr z => by
  have z1 := h u q hu hr z
  have y := st_r16 hr
  exact ⟨Z.t z1.1 (by decide), rq_f15 W N Z (hρ u hu) y.1 ⟨hR _ y.2.1, hR _ y.2.2.1, hR _ y.2.2.2⟩ z1.2⟩
theorem kr_g16 {C : zC} {n0 a : Nat} {R : Nat → Prop} {ρ0 ρ : Nat → Nat} {κ τ : zS} (W : zW C n0 κ) (N : nmI ρ0 κ) (hR : ∀ r, sh16 r → ¬ R r) (E : rgE9 R ρ0 κ τ a ρ) : kr16 ρ0 κ τ := fun u q hu hr z => by
  have Z := E.2.2.2.2
  have y := st_r16 hr
  obtain ⟨tu, e1, e2⟩ := N.2 u y.1
  have lt : ∀ x, zT κ x ≠ 0 → x < zn κ := fun x h => (W.2.1 x h).2
  have tt := ty_raTop W tu
  have tb := ty_raBottom W tu
  have lt1 := lt _ (show zT κ (zR κ raTop u) ≠ 0 by rw [tt]; decide)
  have lb1 := lt _ (show zT κ (zR κ raBottom u) ≠ 0 by rw [tb]; decide)
  have nf : ∀ f b, b < zn κ → sh16 (ρ0 b) → f / 100 ≠ 12 → f / 100 ≠ 4 → ¬ rgF9 R ρ0 (zR κ soCalc a) (zn κ) a f b := fun f b hb hr h12 h4 z => by
    rcases z with z | z | z | z
    · rcases z with ⟨z, _⟩ | ⟨_, z | z | z | z⟩
      · exact hR _ hr z
      · rw [z] at h4; exact absurd rfl h4
      · rw [z] at h4; exact absurd rfl h4
      · rw [z] at h4; exact absurd rfl h4
      · rw [z] at h4; exact absurd rfl h4
    · rw [z.1] at h12; exact absurd rfl h12
    · rw [z.1] at h12; exact absurd rfl h12
    · omega
  have s1 : sh16 (ρ0 (zR κ raTop u)) := by rw [e1]; exact y.2.2.1
  have s2 : sh16 (ρ0 (zR κ raBottom u)) := by rw [e2]; exact y.2.2.2
  refine ⟨Z.t tu (by decide), ?_⟩
  have z2 := z.2
  unfold rqW8 at z2 ⊢
  rw [Z.i (nf raSign u hu y.2.1 (by decide) (by decide)), Z.r (nf raTop u hu y.2.1 (by decide) (by decide)), Z.r (nf raBottom u hu y.2.1 (by decide) (by decide)), (nuB_z (c := 0) W tt Z (nf nuLimbs _ lt1 s1 (by decide) (by decide)) (nf nuLength _ lt1 s1 (by decide) (by decide))).2.2.1, (nuB_z (c := 0) W tb Z (nf nuLimbs _ lb1 s2 (by decide) (by decide)) (nf nuLength _ lb1 s2 (by decide) (by decide))).2.2.1]
  exact z2
theorem kr_h16 {C : zC} {n0 : Nat} {ρ : Nat → Nat} {F : Nat → Nat → Prop} {κ τ τ' : zS} (h : kr16 ρ κ τ) (W : zW C n0 τ) (Z : zF F τ τ') (h8 : ∀ f w, zT τ w = 8 → ¬ F f w) (h11 : ∀ f v, zT τ v = 11 → ¬ F f v) : kr16 ρ κ τ' := fun u q hu hr z => fr_z16 W Z h8 h11 (h u q hu hr z)
theorem voS16_s {k : Nat} : ∀ r, sh16 r → ¬ voS16 (100 + 8 * k) r := fun r h z => by
  unfold sh16 at h
  unfold voS16 at z
  omega
theorem kr_e16 {ρ : Nat → Nat} {κ τ τ' : zS} (h : kr16 ρ κ τ) (eT : zT τ' = zT τ) (eI : zI τ' = zI τ) (eA : zA τ' = zA τ) (eR : ∀ g b, g ≠ soVisits → g ≠ soWorths → zR τ' g b = zR τ g b) : kr16 ρ κ τ' := fun u q hu hr z => by
  have z1 := h u q hu hr z
  have nn : ∀ x, nuN τ' x = nuN τ x := fun x => by
    unfold nuN
    rw [eR nuLimbs x (by decide) (by decide), eA, eI]
  unfold fr16 rqW8 at z1 ⊢
  rw [eT, eI, eR raTop u (by decide) (by decide), eR raBottom u (by decide) (by decide), nn, nn]
  exact z1
theorem kr_n16 {C : zC} {n0 t n : Nat} {ρ : Nat → Nat} {κ τ : zS} (W : zW C n0 κ) (e : τ = na κ t n) : kr16 ρ κ τ := fun u q hu hr z => by
  have lt : ∀ x, zT κ x ≠ 0 → x < zn κ := fun x h => (W.2.1 x h).2
  have eI : zI τ = zI κ := by rw [e]; rfl
  have eR : zR τ = zR κ := by rw [e]; rfl
  have eA : ∀ b, b < zn κ → zA τ b = zA κ b := fun b hb => by rw [e]; exact if_neg (Nat.ne_of_lt hb)
  have nn : ∀ x, zT κ x = 8 → nuN τ x = nuN κ x := fun x tx => by
    unfold nuN
    rw [eR, eI, eA _ (lt _ (by rw [ty_nuLimbs W tx]; decide))]
  have z1 := z.2
  refine ⟨by rw [e]; exact (if_neg (Nat.ne_of_lt hu)).trans z.1, ?_⟩
  unfold rqW8 at z1 ⊢
  rw [eI, eR, nn _ (ty_raTop W z.1), nn _ (ty_raBottom W z.1)]
  exact z1
theorem voS16_k {w r : Nat} (h : kpR9 w r) : voS16 w r := by
  rcases h with (z | z | z | z) | z
  · left; omega
  · left; omega
  · left; omega
  · left; omega
  · exact Or.inr z
