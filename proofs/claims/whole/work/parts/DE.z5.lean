section
set_option maxHeartbeats 1600000
/-! the class: Solver's worths made anew, its visits kept -/
theorem uo_n9 {κ τ : zS} {f a r : Nat} (hf : f / 100 = 12) (e : τ = uo κ f a r) : (∀ g b, g / 100 ≠ 12 → zR τ g b = zR κ g b) ∧ ∀ w, nuN τ w = nuN κ w := by
  have h : ∀ g b, g / 100 ≠ 12 → zR τ g b = zR κ g b := fun g b h => by
    rw [e]
    exact if_neg (fun z => h (by rw [z.1]; exact hf))
  refine ⟨h, fun w => ?_⟩
  have i : zI τ = zI κ := by rw [e]; rfl
  have x : zA τ = zA κ := by rw [e]; rfl
  unfold nuN
  rw [h nuLimbs w (by decide), i, x]
theorem fr_q9 {C : zC} {n0 a r n : Nat} {ρ : Nat → Nat} {κ τ τ1 : zS} {m : Int32} (W : zW C n0 κ) (Wt : zW C n0 τ) (Wt1 : zW C n0 τ1) (Ta : zT κ a = 12) (S : soR9 ρ κ a) (hm : m.toInt = (n : Int) ∧ n ≤ 1000) (H : frX9 ρ a 104 soWorths κ τ (zR κ soWorths a) r m m.toNatClampNeg (fun _ => True)) (Cc : frC9 κ τ (zR κ soWorths a) m.toNatClampNeg m.toNatClampNeg) (e : τ1 = uo τ soWorths a r) : zF (frF9 ρ κ soWorths a) κ τ1 ∧ zK9 κ τ1 a ∧ ∃ ρ' : Nat → Nat, (∀ x, x < zn κ → ρ' x = ρ x) ∧ soR9 ρ' τ1 a ∧ wsI9 ρ' τ1 a n 1 ∧ (zR τ1 soTaken a = zR κ soTaken a ∧ zN τ1 (zR κ soTaken a) = zN κ (zR κ soTaken a)) ∧ ∀ i P, i ≤ 1000 → vsI9 ρ κ a i P → vsI9 ρ' τ1 a i P := by
  have hz : zr soWorths = some 25 := by decide +kernel
  have Z := fr_u9 W Wt Ta (Or.inr rfl) rfl ⟨by omega, by omega⟩ H e
  obtain ⟨κ1, ρ', Hw, R1, ⟨N1, S1⟩, Z1, O1, A1, A2, A3, _⟩ := H
  have To := ty_soWorths W Ta
  have rl : ρ (zR κ soLess a) = 8 := S.1.2.1.2.2.2.2.2.1
  have N0 := S.1.1
  obtain ⟨_, K, L, ⟨v1, v2⟩, ⟨w1, w2⟩, r0, l0⟩ := S
  have lv := fr_l9 W To (m := m) ⟨by omega, by omega⟩ w2 Hw Z1
  have lt : ∀ x, zT κ x ≠ 0 → x < zn κ := fun x h => (W.2.1 x h).2
  have la := lt a (by rw [Ta]; decide)
  have nf : ∀ f, 1200 ≤ f → f ≠ soWorths → ¬ frF9 ρ κ soWorths a f a := fun f h1 h2 z => by
    rcases z with z | z | z | z
    · rcases z with ⟨_, z | z | z⟩ | ⟨_, z | z | z | z⟩ <;> (rw [z] at h1; exact absurd h1 (by decide))
    · exact h2 z.1
    · omega
    · omega
  have row : ∀ f t, zr f = some t → 20 ≤ t → f / 100 = 12 → f ≠ soWorths → zQ τ1 (zR τ1 f a) = zQ κ (zR κ f a) ∧ zN τ1 (zR τ1 f a) = zN κ (zR κ f a) := fun f t h1 h2 h3 h4 => by
    have T9 : zT κ a = f / 100 := by rw [h3]; exact Ta
    refine ⟨(Z.row W h1 h2 T9 (nf f (by omega) h4)).2.2, ?_⟩
    have q := W.r h1 T9
    obtain ⟨c, hc⟩ : ∃ c, t = c + 1 := ⟨t - 1, by omega⟩
    rw [Z.r (nf f (by omega) h4)]
    exact Z.l (c := c) (q.trans hc)
  have rw9 := row soVisits 25 (by decide +kernel) (by decide) (by decide) (by decide)
  have rc := row soCells 24 (by decide +kernel) (by decide) (by decide) (by decide)
  have rr := row soRows 20 (by decide +kernel) (by decide) (by decide) (by decide)
  have rt : zR τ1 soTaken a = zR κ soTaken a := Z.r (nf soTaken (by decide) (by decide))
  have ea : zR τ1 soAtlas a = zR κ soAtlas a := Z.r (nf soAtlas (by decide) (by decide))
  have ev : zR τ1 soWorths a = r := by rw [e]; exact if_pos ⟨rfl, rfl⟩
  have eq : zQ τ1 r = zQ τ r := by rw [e]; rfl
  have en : zN τ1 r = zN τ r := by rw [e]; rfl
  have ei : zI τ1 = zI τ := by rw [e]; rfl
  have uo9 := uo_n9 (f := soWorths) (by decide) e
  have tl := ty_soLess W Ta
  have ll := lt _ (show zT κ (zR κ soLess a) ≠ 0 by rw [tl]; decide)
  have nv : ∀ f w, w < zn κ → ρ w < 100 ∨ (ρ w - 100) % 8 < 4 → f / 100 = 8 ∨ f / 100 = 11 → ¬ frF9 ρ κ soWorths a f w := fun f w hw hr hf z => by
    rcases z with z | z | z | z
    · rcases z with ⟨z, _⟩ | ⟨_, z | z | z | z⟩
      · have y := z.2.2 rfl
        have x := z.1
        omega
      · rw [z] at hf; exact absurd hf (by decide)
      · rw [z] at hf; exact absurd hf (by decide)
      · rw [z] at hf; exact absurd hf (by decide)
      · rw [z] at hf; exact absurd hf (by decide)
    · rw [z.1] at hf; exact absurd hf (by decide)
    · rw [z] at hf; exact absurd hf (by decide)
    · omega
  have nl : ∀ f, f / 100 = 8 → ¬ frF9 ρ κ soWorths a f (zR κ soLess a) := fun f hf => nv f _ ll (Or.inl (by rw [rl]; decide)) (Or.inl hf)
  have kc := cnk (x := m) (by omega)
  have kz : zK9 κ τ1 a := by
    have q := fr_n9 (n := m.toNatClampNeg) (by omega) Hw lv.1 lv.2.2.1 (fun j hj => (A3 j hj).imp (fun u h => h.1)) Cc.2
    have e1 : nn9 τ1 (zR τ1 soWorths a) = nn9 τ r := nn_s9 (by rw [ev, en]) (by rw [ev, eq])
    have e2 : nn9 τ1 (zR τ1 soVisits a) = nn9 κ (zR κ soVisits a) := nn_s9 rw9.2 rw9.1
    have e3 : nn9 τ1 (zR τ1 soCells a) = nn9 κ (zR κ soCells a) := nn_s9 rc.2 rc.1
    have t8 : nT9 8 τ1 = nT9 8 τ := nT_09 (by rw [e]; rfl) (fun b _ => by rw [e]; rfl)
    have t11 : nT9 11 τ1 = nT9 11 τ := nT_09 (by rw [e]; rfl) (fun b _ => by rw [e]; rfl)
    obtain ⟨⟨c11, c8⟩, _⟩ := Cc
    unfold zK9 zV9
    rw [e1, e2, e3, t8, t11]
    exact ⟨by omega, by omega⟩
  refine ⟨Z, kz, ρ', R1, ⟨⟨by rw [e]; exact nm_uo9 (by decide) N1, by rw [e]; exact so_uo9 (Or.inr rfl) S1⟩, fun i u hi hu => ?_, by rw [rc.2]; exact L, ⟨fun j u hj hu => ?_, by rw [rw9.2]; exact v2⟩, ⟨fun j u hj hu => ?_, by rw [ev, en]; exact lv.2.1⟩, by rw [rr.2]; exact r0, ?_⟩, ⟨by rw [ev, en]; omega, fun k hk => ?_⟩, ⟨rt, Z.l (ty_soTaken W Ta)⟩, fun i P hi V k hk => ?_⟩
  · rw [rc.1] at hu
    have t := W.2.2.2.1 _ _ _ (ty_soCells W Ta) hu
    rw [R1 u (lt u (by rw [t]; decide))]
    exact K i u hi hu
  · rw [rw9.1] at hu
    have t := W.2.2.2.2.1 _ _ _ (ty_soVisits W Ta) hu
    rw [R1 u (lt u (by rw [t]; decide))]
    exact v1 j u hj hu
  · rw [ev, eq] at hu
    exact A1 j u hj hu
  · rw [Z.r (nf soLess (by decide) (by decide)), (nuB_z (c := 0) W tl Z (nl _ (by decide)) (nl _ (by decide))).2.2.1]
    exact l0
  · obtain ⟨u, hu, hz9, ht, hb⟩ := A3 k (by omega)
    have vu : wU9 τ1 a k = u := by
      unfold wU9
      rw [ev, eq, hu]
      rfl
    rw [vu, ev, eq]
    refine ⟨hu, A1 k u (by omega) hu, ?_⟩
    unfold wsK9
    rw [uo9.1 raTop u (by decide), uo9.1 raBottom u (by decide), uo9.2, uo9.2, ei, ht, hb, hz9]
    exact ⟨⟨by decide, by decide⟩, Or.inr (Nat.dvd_refl 1), by decide, by decide⟩
  · obtain ⟨q1, q2, q3⟩ := V k hk
    have vu : vU9 τ1 a k = vU9 κ a k := by
      unfold vU9
      rw [rw9.1]
    have tu := W.2.2.2.2.1 _ _ _ (ty_soVisits W Ta) q1
    have lu := lt _ (show zT κ (vU9 κ a k) ≠ 0 by rw [tu]; decide)
    have P9 := N0.2 (vU9 κ a k) (by rw [q2]; exact vs_r9 (by omega))
    have tt := ty_raTop W tu
    have tb := ty_raBottom W tu
    have lt9 := lt _ (show zT κ (zR κ raTop (vU9 κ a k)) ≠ 0 by rw [tt]; decide)
    have lb9 := lt _ (show zT κ (zR κ raBottom (vU9 κ a k)) ≠ 0 by rw [tb]; decide)
    have nu := fun f hf => nv f (vU9 κ a k) lu (Or.inr (by rw [q2]; omega)) hf
    have nt := fun f hf => nv f (zR κ raTop (vU9 κ a k)) lt9 (Or.inr (by rw [P9.2.1, q2]; omega)) hf
    have nb9 := fun f hf => nv f (zR κ raBottom (vU9 κ a k)) lb9 (Or.inr (by rw [P9.2.2, q2]; omega)) hf
    have fv := frF9_v (ρ := ρ) (κ := κ) (s := a) (Or.inr (rfl : soWorths = soWorths))
    have tA := ty_soAtlas W Ta
    have dN : dvN9 τ1 (zR κ soAtlas a) k = dvN9 κ (zR κ soAtlas a) k := by
      unfold dvN9 dvA
      rw [(at_v9 W fv Z tA (f := atChooses) (by decide)).2.1, (at_v9 W fv Z tA (f := atTotals) (by decide)).2.1]
    rw [rw9.1, vu, ea, dN, R1 _ lu]
    refine ⟨q1, q2, ?_⟩
    unfold vsK9
    rw [Z.i (nu raSign (by decide)), Z.r (nu raTop (by decide)), Z.r (nu raBottom (by decide)), (nuB_z (c := 0) W tt Z (nt _ (by decide)) (nt _ (by decide))).2.2.1, (nuB_z (c := 0) W tb Z (nb9 _ (by decide)) (nb9 _ (by decide))).2.2.1]
    exact q3

end
section
set_option maxHeartbeats 1600000
/-! the class: what a step of makePlan keeps -/
theorem pwF9_v {ρ : Nat → Nat} {R : Nat → Prop} {ca a m : Nat} : frV9 m (pwF9 ρ R ca a) := fun f b z => by
  rcases z with z | z
  · rcases z with ⟨_, z | z | z⟩ | ⟨_, z | z | z | z⟩
    · rw [z]; exact Or.inr (Or.inl (by decide))
    · rw [z]; exact Or.inr (Or.inl (by decide))
    · rw [z]; exact Or.inr (Or.inr (Or.inl (by decide)))
    · rw [z]; exact Or.inr (Or.inr (Or.inr (Or.inl (by decide))))
    · rw [z]; exact Or.inr (Or.inr (Or.inr (Or.inl (by decide))))
    · rw [z]; exact Or.inr (Or.inr (Or.inr (Or.inl (by decide))))
    · rw [z]; exact Or.inr (Or.inr (Or.inr (Or.inl (by decide))))
  · rw [z.1]; exact Or.inr (Or.inr (Or.inr (Or.inr (Or.inl (by decide)))))
theorem pw_r9 {C : zC} {n0 a ca : Nat} {ρ : Nat → Nat} {R : Nat → Prop} {κ τ : zS} (W : zW C n0 κ) (Ta : zT κ a = 12) (S : soR9 ρ κ a) (Z : zF (pwF9 ρ R ca a) κ τ) (hR : ∀ r, R r → r < 100 ∨ 4 ≤ (r - 100) % 8) (N : nmI ρ τ ∧ soI ρ τ a) (hl : nuN τ (zR κ soLess a) < pB9 4000) : soR9 ρ τ a ∧ (∀ f, 1200 ≤ f → f ≠ soTaken → zR τ f a = zR κ f a ∧ zI τ f a = zI κ f a) ∧ (∀ i P, i ≤ 1000 → vsI9 ρ κ a i P → vsI9 ρ τ a i P) ∧ zQ τ (zR τ soWorths a) = zQ κ (zR κ soWorths a) ∧ zN τ (zR τ soWorths a) = zN κ (zR κ soWorths a) := by
  have N0 := S.1.1
  obtain ⟨_, K, L, ⟨v1, v2⟩, ⟨w1, w2⟩, r0, l0⟩ := S
  have nf : ∀ f, 1200 ≤ f → f ≠ soTaken → ¬ pwF9 ρ R ca a f a := fun f h1 h2 z => by
    rcases z with z | z
    · rcases z with ⟨_, z | z | z⟩ | ⟨_, z | z | z | z⟩ <;> (rw [z] at h1; exact absurd h1 (by decide))
    · exact h2 z.1
  have row : ∀ f t, zr f = some t → 20 ≤ t → f / 100 = 12 → f ≠ soTaken → zQ τ (zR τ f a) = zQ κ (zR κ f a) ∧ zN τ (zR τ f a) = zN κ (zR κ f a) := fun f t h1 h2 h3 h4 => by
    have T9 : zT κ a = f / 100 := by rw [h3]; exact Ta
    refine ⟨(Z.row W h1 h2 T9 (nf f (by omega) h4)).2.2, ?_⟩
    have q := W.r h1 T9
    obtain ⟨c, hc⟩ : ∃ c, t = c + 1 := ⟨t - 1, by omega⟩
    rw [Z.r (nf f (by omega) h4)]
    exact Z.l (c := c) (q.trans hc)
  have rv := row soVisits 25 (by decide +kernel) (by decide) (by decide) (by decide)
  have rw9 := row soWorths 25 (by decide +kernel) (by decide) (by decide) (by decide)
  have rc := row soCells 24 (by decide +kernel) (by decide) (by decide) (by decide)
  have rr := row soRows 20 (by decide +kernel) (by decide) (by decide) (by decide)
  have ea : zR τ soAtlas a = zR κ soAtlas a := Z.r (nf soAtlas (by decide) (by decide))
  have nv : ∀ f w, 100 ≤ ρ w → (ρ w - 100) % 8 < 4 → f / 100 = 8 ∨ f / 100 = 11 → ¬ pwF9 ρ R ca a f w := fun f w hr1 hr2 hf z => by
    rcases z with z | z
    · rcases z with ⟨z, _⟩ | ⟨_, z | z | z | z⟩
      · have y := hR _ z
        omega
      · rw [z] at hf; exact absurd hf (by decide)
      · rw [z] at hf; exact absurd hf (by decide)
      · rw [z] at hf; exact absurd hf (by decide)
      · rw [z] at hf; exact absurd hf (by decide)
    · rw [z.1] at hf; exact absurd hf (by decide)
  refine ⟨⟨N, ?_, by rw [rc.2]; exact L, ⟨by rw [rv.1]; exact v1, by rw [rv.2]; exact v2⟩, ⟨by rw [rw9.1]; exact w1, by rw [rw9.2]; exact w2⟩, by rw [rr.2]; exact r0, ?_⟩, fun f h1 h2 => ⟨Z.r (nf f h1 h2), Z.i (nf f h1 h2)⟩, fun i P hi V k hk => ?_, rw9⟩
  · unfold clK9
    rw [rc.1]
    exact K
  · rw [Z.r (nf soLess (by decide) (by decide))]
    exact hl
  · obtain ⟨q1, q2, q3⟩ := V k hk
    have vu : vU9 τ a k = vU9 κ a k := by
      unfold vU9
      rw [rv.1]
    have tu := W.2.2.2.2.1 _ _ _ (ty_soVisits W Ta) q1
    have P9 := N0.2 (vU9 κ a k) (by rw [q2]; exact vs_r9 (by omega))
    have tt := ty_raTop W tu
    have tb := ty_raBottom W tu
    have nu := fun f hf => nv f (vU9 κ a k) (by rw [q2]; omega) (by rw [q2]; omega) hf
    have nt := fun f hf => nv f (zR κ raTop (vU9 κ a k)) (by rw [P9.2.1, q2]; omega) (by rw [P9.2.1, q2]; omega) hf
    have nb9 := fun f hf => nv f (zR κ raBottom (vU9 κ a k)) (by rw [P9.2.2, q2]; omega) (by rw [P9.2.2, q2]; omega) hf
    have tA := ty_soAtlas W Ta
    have dN : dvN9 τ (zR κ soAtlas a) k = dvN9 κ (zR κ soAtlas a) k := by
      unfold dvN9 dvA
      rw [(at_v9 W pwF9_v Z tA (f := atChooses) (by decide)).2.1, (at_v9 W pwF9_v Z tA (f := atTotals) (by decide)).2.1]
    rw [rv.1, vu, ea, dN]
    refine ⟨q1, q2, ?_⟩
    unfold vsK9
    rw [Z.i (nu raSign (by decide)), Z.r (nu raTop (by decide)), Z.r (nu raBottom (by decide)), (nuB_z (c := 0) W tt Z (nt _ (by decide)) (nt _ (by decide))).2.2.1, (nuB_z (c := 0) W tb Z (nb9 _ (by decide)) (nb9 _ (by decide))).2.2.1]
    exact q3
/-- the roles that a step of makePlan writes are not those of visits -/
theorem fwR9_v {k r : Nat} (h : fwR9 (104 + 8 * k) r) : r < 100 ∨ 4 ≤ (r - 100) % 8 := by
  unfold fwR9 at h
  omega
theorem voR9_v {k r : Nat} (h : voR9 (104 + 8 * k) r) : r < 100 ∨ 4 ≤ (r - 100) % 8 := by
  unfold voR9 at h
  omega

end
section
set_option maxHeartbeats 1600000
/-! the class: Solver's makePlan -/
/-- what makePlan may touch -/
def mpF9 (ρ : Nat → Nat) (κ : zS) (a : Nat) : Nat → Nat → Prop := fun f b => soF ρ (fun _ => True) (zR κ soCalc a) f b ∨ b = zR κ soWeb a ∨ (b = a ∧ (f = soSolved ∨ f = soPlanned ∨ f = soTaken ∨ f = soWorths)) ∨ (b = zR κ soAtlas a ∧ f = atPlan) ∨ f = 0 ∨ b = 0 ∨ zn κ ≤ b
/-- on the way through the states -/
def mpJ9 (ρ : Nat → Nat) (κ τ : zS) (a n : Nat) (ρ' : Nat → Nat) : Prop := ((∀ b, b < zn κ → ρ' b = ρ b) ∧ zF (mpF9 ρ κ a) κ τ) ∧ soR9 ρ' τ a ∧ (weG τ (zR κ soWeb a) (zR κ soAtlas a) 0 n ∧ weKn τ (zR κ soWeb a) n ∧ atW τ (zR κ soAtlas a) n) ∧ (n ≤ (zN τ (zR τ soTaken a)) ∧ ((zN τ (zR τ soTaken a)) = 0 ∨ (zN τ (zR τ soTaken a)) = 1000)) ∧ (∀ i P, i ≤ 1000 → vsI9 ρ κ a i P → vsI9 ρ' τ a i P) ∧ (n ≤ (zN τ (zR τ soWorths a)) ∧ ∀ k, k < n → ∃ u, zQ τ (zR τ soWorths a) k = some u) ∧ (zI τ soSolved a = zI κ soSolved a ∧ zI τ soPlanned a = zI κ soPlanned a) ∧ (zR τ soAtlas a = zR κ soAtlas a ∧ zR τ soWeb a = zR κ soWeb a ∧ zR τ soCalc a = zR κ soCalc a) ∧ zK9 κ τ a
theorem zK_pw9 {C : zC} {n0 a ca : Nat} {ρ : Nat → Nat} {R : Nat → Prop} {κ τ : zS} (W : zW C n0 κ) (Ta : zT κ a = 12) (Z : zF (pwF9 ρ R ca a) κ τ) : zK9 κ τ a := by
  have n : ∀ f b, f = 0 ∨ f = soCells ∨ f = soVisits ∨ f = soWorths → ¬ pwF9 ρ R ca a f b := fun f b hf z => by
    rcases z with z | z
    · rcases hf with q | q | q | q <;> (rw [q] at z; exact absurd z (soF_no9 (by decide)))
    · rcases hf with q | q | q | q <;> (rw [q] at z; exact absurd z.1 (by decide))
  exact zK_z9 W Ta Z (fun b _ => n 0 b (Or.inl rfl)) (n _ _ (Or.inr (Or.inl rfl))) (n _ _ (Or.inr (Or.inr (Or.inl rfl)))) (n _ _ (Or.inr (Or.inr (Or.inr rfl))))
theorem mp_s9 {C : zC} {n0 a n : Nat} {ρ ρ' : Nat → Nat} {R : Nat → Prop} {κ τ τ' : zS} (Wt : zW C n0 τ) (Tt : zT τ a = 12) (J : mpJ9 ρ κ τ a n ρ') (Z : zF (pwF9 ρ' R (zR τ soCalc a) a) τ τ') (hR : ∀ r, R r → r < 100 ∨ 4 ≤ (r - 100) % 8) (N : nmI ρ' τ' ∧ soI ρ' τ' a) (hl : nuN τ' (zR τ soLess a) < pB9 4000) (ht : zR τ' soTaken a = zR τ soTaken a) : mpJ9 ρ κ τ' a n ρ' := by
  obtain ⟨⟨j1, j2⟩, j3, ⟨g1, g2, g3⟩, j5, j6, j7, ⟨j8, j9⟩, ⟨ea, ew, ec⟩, kz⟩ := J
  obtain ⟨r1, r2, r3, r4, r5⟩ := pw_r9 Wt Tt j3 Z hR N hl
  have tw : zT τ (zR κ soWeb a) = 14 := by rw [← ew]; exact ty_soWeb Wt Tt
  have tb : zT τ (zR κ soAtlas a) = 3 := by rw [← ea]; exact ty_soAtlas Wt Tt
  have nt : zN τ' (zR τ' soTaken a) = zN τ (zR τ soTaken a) := by rw [ht]; exact Z.l (ty_soTaken Wt Tt)
  have mn := j2.2.2.2.2.2.2
  refine ⟨⟨j1, j2.tr (Z.mono (fun f b z => ?_))⟩, r1, ⟨weG_v9 Wt pwF9_v Z tw tb g1, weKn_v9 Wt pwF9_v Z tw g2, atW_v9 Wt pwF9_v Z tb g3⟩, by rw [nt]; exact j5, fun i P hi V => r3 i P hi (j6 i P hi V), by rw [r4, r5]; exact j7, ⟨(r2 soSolved (by decide) (by decide)).2.trans j8, (r2 soPlanned (by decide) (by decide)).2.trans j9⟩, ⟨(r2 soAtlas (by decide) (by decide)).1.trans ea, (r2 soWeb (by decide) (by decide)).1.trans ew, (r2 soCalc (by decide) (by decide)).1.trans ec⟩, kz.tr (zK_pw9 Wt Tt Z)⟩
  rcases z with z | z
  · rcases z with z | z
    · exact Or.inl (Or.inl ⟨trivial, z.2⟩)
    · rw [ec] at z
      exact Or.inl (Or.inr z)
  · exact Or.inr (Or.inr (Or.inl ⟨z.2, Or.inr (Or.inr (Or.inl z.1))⟩))
/-- what makePlan leaves -/
def mpP9 (ρ : Nat → Nat) (κ κ' : zS) (a n : Nat) (v : Int32) : Prop := ∃ ρ' : Nat → Nat, ((∀ b, b < zn κ → ρ' b = ρ b) ∧ zF (mpF9 ρ κ a) κ κ') ∧ soR9 ρ' κ' a ∧ (((weU κ' (zR κ soWeb a) ∨ weM κ' (zR κ soWeb a)) ∧ weL κ' (zR κ soWeb a)) ∧ atW κ' (zR κ soAtlas a) n) ∧ ((zN κ' (zR κ' soTaken a)) = 0 ∨ (zN κ' (zR κ' soTaken a)) = 1000) ∧ ((∀ i P, i ≤ 1000 → vsI9 ρ κ a i P → vsI9 ρ' κ' a i P) ∨ zI κ' soSolved a = 0) ∧ ((n ≤ (zN κ' (zR κ' soWorths a)) ∧ ∀ k, k < n → ∃ u, zQ κ' (zR κ' soWorths a) k = some u) ∨ κ' = κ) ∧ ((zI κ' soSolved a = zI κ soSolved a ∧ zI κ' soPlanned a = zI κ soPlanned a) ∨ zI κ' soSolved a = 0) ∧ (zR κ' soAtlas a = zR κ soAtlas a ∧ zR κ' soWeb a = zR κ soWeb a ∧ zR κ' soCalc a = zR κ soCalc a) ∧ zK9 κ κ' a
theorem mp_p9 {ρ ρ' : Nat → Nat} {κ τ : zS} {a n : Nat} {v : Int32} (J : mpJ9 ρ κ τ a n ρ') : mpP9 ρ κ τ a n v := by
  obtain ⟨j1, j3, ⟨g1, g2, g3⟩, j5, j6, j7, j8, j9⟩ := J
  exact ⟨ρ', j1, j3, ⟨⟨Or.inr g1.1.1, g1.1.2⟩, g3⟩, j5.2, Or.inl j6, Or.inl j7, Or.inl j8, j9⟩
/-- nothing is taken yet at a state -/
theorem mp_u9 {C : zC} {n0 a n P k : Nat} {ρ ρ' : Nat → Nat} {κ τ τ' : zS} (Wt : zW C n0 τ) (Tt : zT τ a = 12) (J : mpJ9 ρ κ τ a n ρ') (V : wsI9 ρ' τ a n P) (hk : k < n) (e : τ' = ua τ (zR τ soTaken a) k 0) : pwI9 ρ' τ' τ' a n P ∧ mpJ9 ρ κ τ' a n ρ' ∧ tkI9 τ' τ' a k ∧ nuN τ' (zR τ' soLess a) < pB9 4000 ∧ zR τ' = zR τ := by
  have j3 := J.2.1
  have g3 := J.2.2.1.2.2
  have ea := J.2.2.2.2.2.2.2.1.1
  have J0 : pwI9 ρ' τ τ a n P := ⟨j3.1, ⟨by rw [ea]; exact g3, rfl, rfl, rfl⟩, V, fun _ => rfl, ⟨rfl, rfl⟩, rfl, rfl, rfl⟩
  obtain ⟨K, Z, u⟩ := pw_u9 Wt Tt J0 e
  have er : zR τ' = zR τ := by rw [e]; rfl
  have K1 : pwI9 ρ' τ' τ' a n P := ⟨K.1, ⟨by rw [er]; exact K.2.1.1, rfl, rfl, rfl⟩, K.2.2.1, fun _ => rfl, ⟨rfl, rfl⟩, rfl, rfl, rfl⟩
  have ls := (nuB_z (c := 0) Wt (ty_soLess Wt Tt) Z (fun z => absurd z.1 (by decide)) (fun z => absurd z.1 (by decide))).2.2.1
  have l0 : nuN τ' (zR τ soLess a) < pB9 4000 := by
    rw [ls]
    exact j3.2.2.2.2.2.2
  have Z2 : zF (pwF9 ρ' (fun _ => False) (zR τ soCalc a) a) τ τ' := Z.mono (fun f b z => Or.inr z)
  have wy := wy_9 K1.2.1.1 hk
  have x0 : zA τ' (zR τ' soTaken a) k = 0 := by
    rw [er, u]
    exact if_pos rfl
  refine ⟨K1, mp_s9 Wt Tt J Z2 (fun r h => h.elim) K.1 l0 (by rw [er]), ⟨rfl, ⟨by rw [x0]; decide, ?_⟩, fun _ _ => rfl⟩, by rw [er]; exact l0, er⟩
  rw [x0]
  show (0 : Int) < _
  omega

end
section
set_option maxHeartbeats 1600000
/-! the class: makePlan's last step -/
theorem mp_e9 {C : zC} {n0 a n m : Nat} {ρ ρ' : Nat → Nat} {κ τ τ1 τ2 τ4 : zS} (Wt : zW C n0 τ) (Tt : zT τ a = 12) (J : mpJ9 ρ κ τ a n ρ') (e1 : τ1 = uc τ (zR τ soTaken a) (zR τ atPlan (zR τ soAtlas a)) 0 0 m) (e2 : τ2 = ui τ1 soPlanned a 1) (e4 : τ4 = ui τ2 soSolved a 0) : mpP9 ρ κ τ4 a n 0 := by
  have tb := ty_soAtlas Wt Tt
  have o := Wt.o (show zr atPlan = some 20 by decide +kernel) (by decide) tb
  have Z : zF (fun f b => (f = atPlan ∧ b = zR τ soAtlas a) ∨ (b = a ∧ (f = soPlanned ∨ f = soSolved))) τ τ4 := by
    have z1 : zF (fun f b => (f = atPlan ∧ b = zR τ soAtlas a) ∨ (b = a ∧ (f = soPlanned ∨ f = soSolved))) τ τ1 := by
      rw [e1]
      exact zF_uc (by rw [o]; exact Or.inl ⟨rfl, rfl⟩)
    have z2 : zF (fun f b => (f = atPlan ∧ b = zR τ soAtlas a) ∨ (b = a ∧ (f = soPlanned ∨ f = soSolved))) τ1 τ2 := by
      rw [e2]
      exact zF_ui (Or.inr ⟨rfl, Or.inl rfl⟩)
    have z4 : zF (fun f b => (f = atPlan ∧ b = zR τ soAtlas a) ∨ (b = a ∧ (f = soPlanned ∨ f = soSolved))) τ2 τ4 := by
      rw [e4]
      exact zF_ui (Or.inr ⟨rfl, Or.inr rfl⟩)
    exact (z1.tr z2).tr z4
  have nt : ∀ (t f w : Nat), zT τ w = t → t ≠ 12 → t ≠ 3 → ¬ ((f = atPlan ∧ w = zR τ soAtlas a) ∨ (w = a ∧ (f = soPlanned ∨ f = soSolved))) := fun t f w ht h12 h3 z => by
    rcases z with z | z
    · rw [z.2, tb] at ht
      exact h3 ht.symm
    · rw [z.1, Tt] at ht
      exact h12 ht.symm
  have na9 : ∀ f, f ≠ soSolved → f ≠ soPlanned → ¬ ((f = atPlan ∧ a = zR τ soAtlas a) ∨ (a = a ∧ (f = soPlanned ∨ f = soSolved))) := fun f h1 h2 z => by
    rcases z with z | z
    · rw [← z.2, Tt] at tb
      exact absurd tb (by decide)
    · rcases z.2 with y | y
      · exact h2 y
      · exact h1 y
  have er : zR τ4 = zR τ := by rw [e4, e2, e1]; rfl
  have eN : zN τ4 = zN τ := by rw [e4, e2, e1]; rfl
  have eQ : zQ τ4 = zQ τ := by rw [e4, e2, e1]; rfl
  obtain ⟨⟨j1, j2⟩, j3, ⟨g1, g2, g3⟩, j5, j6, j7, j8, ⟨ea, ew, ec⟩, kz⟩ := J
  have R4 := rs_h9 Wt Tt j3 Z (fun f w h => nt 8 f w h (by decide) (by decide)) (fun f w h => nt 11 f w h (by decide) (by decide)) (fun f w h => nt 4 f w h (by decide) (by decide)) na9
  have nb9 : ∀ f, f ≠ atPlan → f ≠ soPlanned → f ≠ soSolved → ∀ w, ¬ ((f = atPlan ∧ w = zR τ soAtlas a) ∨ (w = a ∧ (f = soPlanned ∨ f = soSolved))) := fun f h1 h2 h3 w z => by
    rcases z with z | z
    · exact h1 z.1
    · rcases z.2 with y | y
      · exact h2 y
      · exact h3 y
  have g : ∀ f t, zr f = some t → 20 ≤ t → f / 100 = 3 → f ≠ atPlan → zA τ4 (zR τ f (zR κ soAtlas a)) = zA τ (zR τ f (zR κ soAtlas a)) := fun f t h1 h2 h3 h4 => by
    have T9 : zT τ (zR κ soAtlas a) = f / 100 := by rw [h3, ← ea]; exact tb
    have q := (Z.row Wt h1 h2 T9 (nb9 f h4 (fun y => by rw [y] at h3; exact absurd h3 (by decide)) (fun y => by rw [y] at h3; exact absurd h3 (by decide)) _)).1
    rw [er] at q
    exact q
  have i1 : ∀ x, zI τ4 hoTotal x = zI τ hoTotal x := fun x => Z.i (nb9 hoTotal (by decide) (by decide) (by decide) x)
  have i2 : zI τ4 atNexts (zR κ soAtlas a) = zI τ atNexts (zR κ soAtlas a) := Z.i (nb9 atNexts (by decide) (by decide) (by decide) _)
  have A4 : atW τ4 (zR κ soAtlas a) n := by
    obtain ⟨A1, A2, A3, A4, A5, A6⟩ := g3
    refine ⟨?_, ?_, A3, ?_, ?_, fun k hk => ?_⟩
    · unfold atM
      rw [er, eN]
      exact A1
    · unfold atL
      rw [er, eN]
      exact A2
    · rw [er, i1]
      exact A4
    · rw [er, eN, i2]
      exact A5
    · have q := A6 k hk
      unfold exK at q ⊢
      rw [er, i1, i1, i2, g atFirsts 20 (by decide +kernel) (by decide) (by decide) (by decide), g atTotals 20 (by decide +kernel) (by decide) (by decide) (by decide), g atChooses 23 (by decide +kernel) (by decide) (by decide) (by decide), g atSorts 20 (by decide +kernel) (by decide) (by decide) (by decide), g atNumbers 20 (by decide +kernel) (by decide) (by decide) (by decide), g atWeights 20 (by decide +kernel) (by decide) (by decide) (by decide)]
      exact q
  refine ⟨ρ', ⟨j1, j2.tr (Z.mono (fun f b z => ?_))⟩, R4.1, ⟨⟨Or.inr ?_, ?_⟩, A4⟩, by rw [er, eN]; exact j5.2, Or.inr ?_, Or.inl (by rw [er, eN, eQ]; exact j7), Or.inr (by rw [e4]; exact if_pos ⟨rfl, rfl⟩), ⟨by rw [er]; exact ea, by rw [er]; exact ew, by rw [er]; exact ec⟩, kz.tr (zK_z9 Wt Tt Z (fun b _ => nb9 0 (by decide) (by decide) (by decide) b) (nb9 soCells (by decide) (by decide) (by decide) a) (nb9 soVisits (by decide) (by decide) (by decide) a) (nb9 soWorths (by decide) (by decide) (by decide) a))⟩
  · rcases z with z | z
    · exact Or.inr (Or.inr (Or.inr (Or.inl ⟨z.2.trans ea, z.1⟩)))
    · exact Or.inr (Or.inr (Or.inl ⟨z.1, z.2.elim (fun y => Or.inr (Or.inl y)) Or.inl⟩))
  · have q := g1.1.1
    unfold weM at q ⊢
    rw [er, eN]
    exact q
  · have q := g1.1.2
    unfold weL at q ⊢
    rw [er, eN]
    exact q
  · rw [e4]
    exact if_pos ⟨rfl, rfl⟩

end
section
set_option maxHeartbeats 1600000
/-! the class: visits kept over a step elsewhere -/
theorem vs_h9 {C : zC} {n0 a i P : Nat} {ρ : Nat → Nat} {F : Nat → Nat → Prop} {κ τ : zS} (W : zW C n0 κ) (Ta : zT κ a = 12) (Z : zF F κ τ) (h8 : ∀ f w, zT κ w = 8 → ¬ F f w) (h11 : ∀ f w, zT κ w = 11 → ¬ F f w) (h3 : ∀ f w, zT κ w = 3 → ¬ F f w) (ha : ∀ f, ¬ F f a) (V : vsI9 ρ κ a i P) : vsI9 ρ τ a i P := fun k hk => by
  obtain ⟨q1, q2, q3⟩ := V k hk
  have rv := (Z.row W (f := soVisits) (t := 25) (by decide +kernel) (by decide) Ta (ha _)).2.2
  have vu : vU9 τ a k = vU9 κ a k := by
    unfold vU9
    rw [rv]
  have tu := W.2.2.2.2.1 _ _ _ (ty_soVisits W Ta) q1
  have tt := ty_raTop W tu
  have tb := ty_raBottom W tu
  have tA := ty_soAtlas W Ta
  have ea : zR τ soAtlas a = zR κ soAtlas a := Z.r (ha _)
  have dN : dvN9 τ (zR κ soAtlas a) k = dvN9 κ (zR κ soAtlas a) k := by
    unfold dvN9 dvA
    rw [(Z.row W (f := atChooses) (t := 23) (by decide +kernel) (by decide) tA (h3 _ _ tA)).1, (Z.row W (f := atTotals) (t := 20) (by decide +kernel) (by decide) tA (h3 _ _ tA)).1]
  rw [rv, vu, ea, dN]
  refine ⟨q1, q2, ?_⟩
  unfold vsK9
  rw [Z.i (h11 _ _ tu), Z.r (h11 _ _ tu), Z.r (h11 _ _ tu), (nuB_z (c := 0) W tt Z (h8 _ _ tt) (h8 _ _ tt)).2.2.1, (nuB_z (c := 0) W tb Z (h8 _ _ tb) (h8 _ _ tb)).2.2.1]
  exact q3

end
section
set_option maxHeartbeats 1600000
/-! the class: Solver's makePlan -/
theorem So_makePlanz_c {C : zC} {n0 : Nat} {a0 : Nat} {κ : zS} {Q : Int32 → zS → Prop} (W : zW C n0 κ) (Ta0 : zT κ a0 = 12) (ρ : Nat → Nat) (n9 : Nat) (hp : soR9 ρ κ a0 ∧ ((weU κ (zR κ soWeb a0) ∨ weM κ (zR κ soWeb a0)) ∧ weL κ (zR κ soWeb a0)) ∧ atW κ (zR κ soAtlas a0) n9 ∧ ((zN κ (zR κ soTaken a0)) = 0 ∨ (zN κ (zR κ soTaken a0)) = 1000)) (h : ∀ (v : Int32) (κ' : zS), (mpP9 ρ κ κ' a0 n9 v) → Q v κ') : zRun C 8 mSo_makePlan [.ref a0] κ (oI Q noX) := by
  refine So_makePlanz_run W Ta0 ?_
  replace W := W.lo (Nat.le_trans W.1.2.1 W.1.2.2) (Nat.le_refl (zn κ))
  unfold w_So_makePlanz_0
  obtain ⟨S0, ⟨U0, L0⟩, A0, T0⟩ := hp
  have tw := ty_soWeb W Ta0
  have tb := ty_soAtlas W Ta0
  have hh76 : ∀ (l0 : Nat) (l1 : Int32) (τ : zS), zW C (zn κ) τ → zT τ l0 = 12 → (a0 = l0 ∧ (∃ ρ' P, mpJ9 ρ κ τ a0 n9 ρ' ∧ wsI9 ρ' τ a0 n9 P ∧ 0 < P ∧ P ≤ pD9 l1.toNatClampNeg) ∧ 0 ≤ l1.toInt ∧ l1.toInt ≤ n9) → w_So_makePlanz_76 C (zn κ) Q  l0 l1 τ := by
    intro z0 z1 τi Wi _ hinit
    unfold w_So_makePlanz_76
    refine ⟨fun n l0 l1 τ => n = ((n9 : Int) - l1.toInt).toNat ∧ (a0 = l0 ∧ (∃ ρ' P, mpJ9 ρ κ τ a0 n9 ρ' ∧ wsI9 ρ' τ a0 n9 P ∧ 0 < P ∧ P ≤ pD9 l1.toNatClampNeg) ∧ 0 ≤ l1.toInt ∧ l1.toInt ≤ n9), ⟨_, rfl, hinit⟩, ?_⟩
    clear hinit
    rintro n76 _ x76_1 κ76 W76 T76_0 ⟨hn76, rfl, i76⟩
    obtain ⟨⟨ρ1, P1, J1, V1, P10, P11⟩, l11, l12⟩ := i76
    have hn := J1.2.2.1.1.2.1.2
    have ea := J1.2.2.2.2.2.2.2.1.1
    have ew := J1.2.2.2.2.2.2.2.1.2.1
    have tot : (zI κ76 weTotal (zR κ76 soWeb a0)).toInt = (n9 : Int) := by rw [ew]; exact J1.2.2.1.1.2.1.1
    have hj141 : ∀ (l0 : Nat) (l1 : Int32) (s0 : Int32) (τ : zS), zW C (zn κ) τ → zT τ l0 = 12 → (a0 = l0 ∧ (s0 ≠ 0 → ∃ ρ' P, mpJ9 ρ κ τ a0 n9 ρ' ∧ wsI9 ρ' τ a0 n9 P ∧ 0 < P ∧ P ≤ pD9 (l1.toNatClampNeg + 1)) ∧ (∃ ρ', mpJ9 ρ κ τ a0 n9 ρ') ∧ 0 ≤ l1.toInt ∧ l1.toInt < n9 ∧ x76_1 = l1) → w_So_makePlanz_141 C (zn κ) Q (fun (l0' : Nat) (l1' : Int32) (τ : zS) => ∃ k < n76, (fun (n : Nat) (l0 : Nat) (l1 : Int32) (τ : zS) => n = ((n9 : Int) - l1.toInt).toNat ∧ (a0 = l0 ∧ (∃ ρ' P, mpJ9 ρ κ τ a0 n9 ρ' ∧ wsI9 ρ' τ a0 n9 P ∧ 0 < P ∧ P ≤ pD9 l1.toNatClampNeg) ∧ 0 ≤ l1.toInt ∧ l1.toInt ≤ n9)) k l0' l1' τ) l0 l1 s0 τ := by
      rintro _ y141_1 y141_s0 τ141 W141 T141_0 ⟨rfl, j141⟩
      unfold w_So_makePlanz_141
      obtain ⟨k1, k2, l31, l32, l33⟩ := j141
      subst l33
      have ix := cn1 l31 (by omega)
      refine ⟨fun c1 => ?_, fun c1 => ?_⟩
      · skip
        intro x2 hx2
        refine ⟨_, ?_, rfl, ?_⟩
        · rw [hx2, ix.2, hn76]; omega  -- d1
        · obtain ⟨ρ2, P2, J2, V2, P20, P21⟩ := k1 c1
          exact ⟨rfl, ⟨ρ2, P2, J2, V2, P20, by rw [hx2, ix.1]; exact P21⟩, by rw [hx2, ix.2]; omega, by rw [hx2, ix.2]; omega⟩
      · skip
        refine h _ _ ?_
        · obtain ⟨ρ2, J2⟩ := k2
          exact mp_p9 J2
    have hj128 : ∀ (l0 : Nat) (l1 : Int32) (l2 : Int32) (τ : zS), zW C (zn κ) τ → zT τ l0 = 12 → (a0 = l0 ∧ τ = ua κ76 (zR κ76 soTaken a0) l2.toNatClampNeg 0 ∧ (0 ≤ l2.toInt ∧ l2.toInt < n9) ∧ l1.toInt < n9 ∧ x76_1 = l1) → w_So_makePlanz_128 C (zn κ) Q (fun (l0' : Nat) (l1' : Int32) (τ : zS) => ∃ k < n76, (fun (n : Nat) (l0 : Nat) (l1 : Int32) (τ : zS) => n = ((n9 : Int) - l1.toInt).toNat ∧ (a0 = l0 ∧ (∃ ρ' P, mpJ9 ρ κ τ a0 n9 ρ' ∧ wsI9 ρ' τ a0 n9 P ∧ 0 < P ∧ P ≤ pD9 l1.toNatClampNeg) ∧ 0 ≤ l1.toInt ∧ l1.toInt ≤ n9)) k l0' l1' τ) l0 l1 l2 τ := by
      rintro _ y128_1 y128_2 τ128 W128 T128_0 ⟨rfl, j128⟩
      unfold w_So_makePlanz_128
      intro T3
      obtain ⟨e, hl2, hl1, hx⟩ := j128
      subst hx
      have kk := cnk hl2.1
      have U := mp_u9 W76 T76_0 J1 V1 (k := y128_2.toNatClampNeg) (by omega) e
      refine So_findWorth_c W128 T3 ρ1 n9 P1 ?_ (fun r4 κ_5 q6 => ?_)
      · exact ⟨U.1, hn, ⟨hl2.1, hl2.2, U.2.1.2.2.2.1.1⟩, U.2.2.1, U.2.2.2.1⟩  -- p4
      intro W7
      intro M8
      obtain ⟨nbv, ⟨Zf, Nf, Sf⟩, lf, tkf, wf, uf⟩ := q6
      have Jf := mp_s9 W128 T128_0 U.2.1 Zf (fun r h => fwR9_v h) ⟨Nf, Sf⟩ lf tkf.1
      refine hj141 _ _ _ _ W7 ?_ ?_
      · exact Zf.t T128_0 (by decide)  -- t5
      · exact ⟨rfl, fun z => ⟨ρ1, P1, Jf, wf z, P10, Nat.le_trans P11 (pD9_l (by omega))⟩, ⟨ρ1, Jf⟩, by omega, hl1, rfl⟩  -- k6
    refine ⟨fun c9 => ?_, fun c9 => ?_⟩
    · skip
      refine ⟨?_, ?_⟩
      · have kt := cnk (x := zI κ76 weTotal (zR κ76 soWeb a0)) (by omega)
        have q := J1.2.2.2.1.1
        refine ⟨by decide, by decide, by rw [lei, t0i, tot]; omega, ?_, ?_⟩
        · show 0 + (zI κ76 weTotal (zR κ76 soWeb a0)).toNatClampNeg ≤ _
          omega
        · show 0 + (zI κ76 weTotal (zR κ76 soWeb a0)).toNatClampNeg ≤ _
          rw [ea, J1.2.2.1.2.2.1.2.2.2.1]
          omega
      intro κ_10 hκ_10
      intro W11
      intro κ_12 hκ_12
      intro W13
      intro κ_14 hκ_14
      intro W15
      refine h _ _ ?_
      · exact mp_e9 W76 T76_0 J1 hκ_10 hκ_12 hκ_14  -- q8
    · skip
      rw [lei, tot] at c9
      have kx := cnk l11
      have wM := J1.2.2.1.1.1.1
      have kO := (J1.2.2.1.2.1.2.2.1 x76_1.toNatClampNeg (by omega)).1
      refine ⟨?_, ?_⟩
      · rw [ew, inb_iff, wM.2.2.2.2.2.1]; omega  -- b9
      intro x16 hx16
      rw [ew] at hx16
      rw [← hx16] at kO
      have kk := cnk kO.1
      refine ⟨?_, ?_⟩
      · have q := J1.2.2.2.1.1
        rw [inb_iff]; omega
      intro κ_17 hκ_17
      intro W18
      have U := mp_u9 W76 T76_0 J1 V1 (k := x16.toNatClampNeg) (by omega) hκ_17
      have A7 := U.1.2.1.1
      have T17 : zT κ_17 a0 = 12 := by rw [hκ_17]; exact T76_0
      refine ⟨?_, ?_⟩
      · rw [inb_iff, A7.1.2.2.2.2.1]; omega  -- b11
      refine ⟨fun c19 => ?_, fun c19 => ?_⟩
      · skip
        refine hj128 _ _ _ _ W18 ?_ ?_
        · exact T17  -- t12
        · exact ⟨rfl, hκ_17, kO, by omega, rfl⟩  -- k13
      · skip
        intro T20
        refine At_waysOf_c W18 T20  ?_ (fun r21 q23 => ?_)
        · exact ⟨A7.1.1, kO.1, by omega⟩  -- p14
        intro W24
        intro M25
        obtain ⟨_, _, ⟨s1, s2⟩, ec9, _⟩ := A7.2.2.2.2.2 x16.toNatClampNeg (by omega)
        rw [ec9 c19] at s1 s2
        refine ⟨fun c26 => ?_, fun c26 => ?_⟩
        · skip
          intro T27
          refine So_mixWorths_c W24 T27 ρ1 n9 P1 ?_ (fun r28 κ_29 q30 => ?_)
          · exact ⟨U.1, hn, kO, ⟨P10, pD9_b P11 (by omega)⟩, s1, s2⟩  -- p15
          intro W31
          intro M32
          obtain ⟨nbv, ⟨Zf, Nf, Sf⟩, lf, wf, uf⟩ := q30
          have Zg : zF (pwF9 ρ1 (voR9 (104 + 8 * x16.toNatClampNeg)) (zR κ_17 soCalc a0) a0) κ_17 κ_29 := Zf.mono (fun f b z => Or.inl z)
          have Jf := mp_s9 W24 T17 U.2.1 Zg (fun r h => voR9_v h) ⟨Nf, Sf⟩ lf (soF_r9 Zf (by decide)).1
          refine hj141 _ _ _ _ W31 ?_ ?_
          · exact Zf.t T17 (by decide)  -- t16
          · exact ⟨rfl, fun z => ⟨ρ1, _, Jf, wf z, Nat.mul_pos P10 (by omega), Nat.le_trans (Nat.mul_le_mul P11 (by omega)) (Nat.le_of_eq pD9_s)⟩, ⟨ρ1, Jf⟩, by omega, by omega, rfl⟩  -- k17
        · skip
          refine hj128 _ _ _ _ W24 ?_ ?_
          · exact T17  -- t18
          · exact ⟨rfl, hκ_17, kO, by omega, rfl⟩  -- k19
  refine ⟨fun c33 => ?_, fun c33 => ?_⟩
  · skip
    intro T34
    intro T35
    refine We_weave_c W T34 T35 n9 ?_ (fun κ_36 q37 => ?_)
    · exact ⟨U0, L0, A0⟩  -- p20
    obtain ⟨Zw, G36, A36⟩ := q37
    have no : ∀ (t f w : Nat), zT κ w = t → t ≠ 14 → ¬ objF (zR κ soWeb a0) f w := fun t f w ht h14 z => by
      rw [show w = zR κ soWeb a0 from z, tw] at ht
      exact h14 ht.symm
    have S36 := rs_h9 W Ta0 S0 Zw (fun f w h => no 8 f w h (by decide)) (fun f w h => no 11 f w h (by decide)) (fun f w h => no 4 f w h (by decide)) (fun f _ _ => no 12 f a0 Ta0 (by decide))
    have T36 : zT κ_36 a0 = 12 := Zw.t Ta0 (by decide)
    have ew36 : zR κ_36 soWeb a0 = zR κ soWeb a0 := S36.2 soWeb (by decide) (by decide)
    have eb36 : zR κ_36 soAtlas a0 = zR κ soAtlas a0 := S36.2 soAtlas (by decide) (by decide)
    have ec36 : zR κ_36 soCalc a0 = zR κ soCalc a0 := S36.2 soCalc (by decide) (by decide)
    have V36 : ∀ i P, vsI9 ρ κ a0 i P → vsI9 ρ κ_36 a0 i P := fun i P V => vs_h9 W Ta0 Zw (fun f w h => no 8 f w h (by decide)) (fun f w h => no 11 f w h (by decide)) (fun f w h => no 3 f w h (by decide)) (fun f => no 12 f a0 Ta0 (by decide)) V
    have tk36 : (zN κ_36 (zR κ_36 soTaken a0)) = (zN κ (zR κ soTaken a0)) := by rw [S36.2 soTaken (by decide) (by decide)]; exact Zw.l (ty_soTaken W Ta0)
    intro W38
    intro M39
    intro T40
    refine We_knot_c W38 T40 n9 ?_ (fun κ_41 q42 => ?_)
    · rw [ew36]
      exact ⟨G36.1.1, G36.2.1, G36.2.2.1, G36.1.2.2.2⟩
    intro W43
    intro M44
    intro T45
    rw [ew36] at q42 T40
    obtain ⟨Kn, KN⟩ := q42
    have tb36 : zT κ_36 (zR κ soAtlas a0) = 3 := by rw [← eb36]; exact ty_soAtlas W38 T36
    have Zk : zF (objF (zR κ soWeb a0)) κ_36 κ_41 := Kn.1.mono (fun f x z => z.1)
    have no2 : ∀ (t f w : Nat), zT κ_36 w = t → t ≠ 14 → ¬ objF (zR κ soWeb a0) f w := fun t f w ht h14 z => by
      rw [show w = zR κ soWeb a0 from z, T40] at ht
      exact h14 ht.symm
    have S41 := rs_h9 W38 T36 S36.1 Zk (fun f w h => no2 8 f w h (by decide)) (fun f w h => no2 11 f w h (by decide)) (fun f w h => no2 4 f w h (by decide)) (fun f _ _ => no2 12 f a0 T36 (by decide))
    have G41 := weG_K9 W38 T40 tb36 Kn G36
    have A41 := atW_E W38 T40 tb36 Zk A36
    have T41 : zT κ_41 a0 = 12 := Zk.t T36 (by decide)
    have ew41 : zR κ_41 soWeb a0 = zR κ soWeb a0 := by rw [S41.2 soWeb (by decide) (by decide)]; exact ew36
    have eb41 : zR κ_41 soAtlas a0 = zR κ soAtlas a0 := by rw [S41.2 soAtlas (by decide) (by decide)]; exact eb36
    have ec41 : zR κ_41 soCalc a0 = zR κ soCalc a0 := by rw [S41.2 soCalc (by decide) (by decide)]; exact ec36
    have V41 : ∀ i P, vsI9 ρ κ a0 i P → vsI9 ρ κ_41 a0 i P := fun i P V => vs_h9 W38 T36 Zk (fun f w h => no2 8 f w h (by decide)) (fun f w h => no2 11 f w h (by decide)) (fun f w h => no2 3 f w h (by decide)) (fun f => no2 12 f a0 T36 (by decide)) (V36 i P V)
    have tk41 : (zN κ_41 (zR κ_41 soTaken a0)) = (zN κ (zR κ soTaken a0)) := by
      rw [S41.2 soTaken (by decide) (by decide), ← tk36]
      exact Zk.l (ty_soTaken W38 T36)
    have hn := G41.2.1.2
    have sl41 : zI κ_41 soSolved a0 = zI κ soSolved a0 := (Zk.i (no2 12 _ a0 T36 (by decide))).trans (Zw.i (no 12 _ a0 Ta0 (by decide)))
    have pl41 : zI κ_41 soPlanned a0 = zI κ soPlanned a0 := (Zk.i (no2 12 _ a0 T36 (by decide))).trans (Zw.i (no 12 _ a0 Ta0 (by decide)))
    have F41 : zF (mpF9 ρ κ a0) κ κ_41 := (Zw.mono (fun f b z => Or.inr (Or.inl z))).tr (Zk.mono (fun f b z => Or.inr (Or.inl z)))
    have mn41 := F41.2.2.2.2.2.2
    have K41 : zK9 κ κ_41 a0 := (zK_w9 W Ta0 (ty_soWeb W Ta0) Zw).tr (zK_w9 W38 T36 T40 Zk)
    have tot := G41.2.1.1
    rw [← ew41] at tot
    refine So_fresh_c W43 T45 ρ a0 104 soWorths ?_ (fun r46 κ_47 q48 => ?_)
    · exact ⟨S41.1.1, T41, ⟨Or.inr rfl, Or.inr rfl, W43.o (show zr soWorths = some 25 by decide +kernel) (by decide) T41, fun _ => rfl⟩, S41.1.2.2.2.2.1.1, S41.1.2.2.2.2.1.2, ⟨by omega, by omega⟩⟩  -- p22
    intro W49
    intro M50
    intro T51
    have wo := fr_o9 (f9 := soWorths) (s := a0) (τ := κ_47) W43 (ty_soWorths W43 T41) T41 (W43.o (show zr soWorths = some 25 by decide +kernel) (by decide) T41) (Exists.choose_spec (Exists.choose_spec q48.1)).1 (Exists.choose_spec (Exists.choose_spec q48.1)).2.2.2.2.1.1
    refine ⟨?_, ?_⟩
    · rcases wo with y | y
      · exact Or.inr y.1
      · exact Or.inl y.1
    intro κ_52 hκ_52
    intro W53
    obtain ⟨Z52, K52, ρ8, h8, R8, V8, ⟨t8, n8⟩, vs8⟩ := fr_q9 (n := n9) W43 W49 W53 T41 S41.1 ⟨tot, hn⟩ q48.1 q48.2 hκ_52
    have T52 : zT κ_52 a0 = 12 := Z52.t T41 (by decide)
    have fv8 := frF9_v (ρ := ρ) (κ := κ_41) (s := a0) (Or.inr (rfl : soWorths = soWorths))
    have nf : ∀ f, f = soAtlas ∨ f = soWeb ∨ f = soCalc ∨ f = soSolved ∨ f = soPlanned → ¬ frF9 ρ κ_41 soWorths a0 f a0 := fun f hf z => by
      have la := (W43.2.1 a0 (by rw [T41]; decide)).2
      rcases z with z | z | z | z
      · rcases z with ⟨_, z | z | z⟩ | ⟨_, z | z | z | z⟩ <;> (rw [z] at hf; exact absurd hf (by decide))
      · rw [z.1] at hf; exact absurd hf (by decide)
      · rw [z] at hf; exact absurd hf (by decide)
      · omega
    have ea8 : zR κ_52 soAtlas a0 = zR κ soAtlas a0 := (Z52.r (nf _ (Or.inl rfl))).trans eb41
    have ew8 : zR κ_52 soWeb a0 = zR κ soWeb a0 := (Z52.r (nf _ (Or.inr (Or.inl rfl)))).trans ew41
    have ec8 : zR κ_52 soCalc a0 = zR κ soCalc a0 := (Z52.r (nf _ (Or.inr (Or.inr (Or.inl rfl))))).trans ec41
    have sl8 : zI κ_52 soSolved a0 = zI κ soSolved a0 := (Z52.i (nf _ (Or.inr (Or.inr (Or.inr (Or.inl rfl)))))).trans sl41
    have pl8 : zI κ_52 soPlanned a0 = zI κ soPlanned a0 := (Z52.i (nf _ (Or.inr (Or.inr (Or.inr (Or.inr rfl)))))).trans pl41
    have tw41 : zT κ_41 (zR κ soWeb a0) = 14 := by rw [← ew41]; exact ty_soWeb W43 T41
    have tb41 : zT κ_41 (zR κ soAtlas a0) = 3 := by rw [← eb41]; exact ty_soAtlas W43 T41
    have G8 := weG_v9 W43 fv8 Z52 tw41 tb41 G41
    have K8 := weKn_v9 W43 fv8 Z52 tw41 KN
    have A8 := atW_v9 W43 fv8 Z52 tb41 A41
    have F52 : zF (mpF9 ρ κ a0) κ κ_52 := F41.tr (Z52.mono (fun f b z => by
      rcases z with z | z | z | z
      · rcases z with z | z
        · exact Or.inl (Or.inl ⟨trivial, z.2⟩)
        · exact Or.inr (Or.inr (Or.inr (Or.inr (Or.inr (Or.inl z.1)))))
      · exact Or.inr (Or.inr (Or.inl ⟨z.2, Or.inr (Or.inr (Or.inr z.1))⟩))
      · exact Or.inr (Or.inr (Or.inr (Or.inr (Or.inl z))))
      · exact Or.inr (Or.inr (Or.inr (Or.inr (Or.inr (Or.inr (by omega))))))))
    have h8' : ∀ b, b < zn κ → ρ8 b = ρ b := fun b hb => h8 b (by omega)
    have tk8 : (zN κ_52 (zR κ_52 soTaken a0)) = (zN κ (zR κ soTaken a0)) := by rw [t8, n8]; exact tk41
    have tot8 : (zI κ_52 weTotal (zR κ_52 soWeb a0)).toInt = (n9 : Int) := by rw [ew8]; exact G8.2.1.1
    have T8 : (zN κ_52 (zR κ_52 soTaken a0)) = 0 ∨ (zN κ_52 (zR κ_52 soTaken a0)) = 1000 := by rw [tk8]; exact T0
    refine ⟨fun c54 => ?_, fun c54 => ?_⟩
    · skip
      refine hh76 _ _ _ W53 (by assumption) ?_
      · rw [lei, tot8, ofn_i (by rcases T8 with y | y <;> rw [y] <;> decide)] at c54
        exact ⟨rfl, ⟨ρ8, 1, ⟨⟨h8', F52⟩, R8, ⟨G8, K8, A8⟩, ⟨by omega, T8⟩, fun i P hi V => vs8 i P hi (V41 i P V), ⟨V8.1, fun k hk => ⟨_, (V8.2 k hk).1⟩⟩, ⟨sl8, pl8⟩, ⟨ea8, ew8, ec8⟩, K41.tr K52⟩, V8, by decide, pD9_p⟩, by decide, by rw [t0i]; omega⟩
    · skip
      refine ⟨?_, ?_⟩
      · exact ⟨by decide, by decide⟩  -- b25
      intro κ_55 hκ_55
      intro W56
      refine ⟨?_, ?_⟩
      · rw [hκ_55]; exact if_pos rfl  -- b26
      intro κ_57 hκ_57
      intro W58
      rw [lei, tot8, ofn_i (by rcases T8 with y | y <;> rw [y] <;> decide)] at c54
      have l0 : (zN κ_52 (zR κ_52 soTaken a0)) = 0 := by
        rcases T8 with y | y
        · exact y
        · omega
      have n1k : (1000 : Int32).toNatClampNeg = 1000 := by decide
      rw [n1k] at hκ_55
      have G := we_gr (f := soTaken) (c := a0) W53 (show zr soTaken = some 20 by decide +kernel) (by decide) T52 hκ_55 hκ_57 (by rw [l0]; decide) (by rw [l0]; decide)
      have T57 : zT κ_57 a0 = 12 := G.1.t T52 (by decide)
      have n57 : zN κ_57 (zR κ_57 soTaken a0) = 1000 := by rw [G.2.2.2.1]; exact G.2.2.2.2.1
      have nt : ∀ (t f w : Nat), zT κ_52 w = t → t ≠ 12 → ¬ (f = soTaken ∧ w = a0) := fun t f w ht h12 z => by
        rw [z.2, T52] at ht
        exact h12 ht.symm
      have Z57 : zF (pwF9 ρ8 (fun _ => False) (zR κ_52 soCalc a0) a0) κ_52 κ_57 := G.1.mono (fun f b z => Or.inr z)
      have ls := (nuB_z (c := 0) W53 (ty_soLess W53 T52) G.1 (fun z => absurd z.1 (by decide)) (fun z => absurd z.1 (by decide))).2.2.1
      have I7 : soI ρ8 κ_57 a0 := so_x9 W53 T52 R8.1.2 G.1 (fun f b z => Or.inr ⟨by rw [z.1]; decide, by rw [z.1]; decide⟩) (fun _ _ => rfl)
      obtain ⟨r1, r2, r3, r4, r5⟩ := pw_r9 W53 T52 R8 Z57 (fun r h => h.elim) ⟨nm_h9 W53 R8.1.1 G.1 (fun f w h => nt 8 f w h (by decide)) (fun f w h => nt 11 f w h (by decide)), I7⟩ (by rw [ls]; exact R8.2.2.2.2.2.2)
      have V7 := (ws_g9 W53 T52 G.1 (fun f w h => nt 8 f w h (by decide)) (fun f w h => nt 11 f w h (by decide)) (fun z => absurd z.1 (by decide)) V8).1
      have tw52 : zT κ_52 (zR κ soWeb a0) = 14 := by rw [← ew8]; exact ty_soWeb W53 T52
      have tb52 : zT κ_52 (zR κ soAtlas a0) = 3 := by rw [← ea8]; exact ty_soAtlas W53 T52
      have F57 : zF (mpF9 ρ κ a0) κ κ_57 := F52.tr (G.1.mono (fun f b z => Or.inr (Or.inr (Or.inl ⟨z.2, Or.inr (Or.inr (Or.inl z.1))⟩))))
      refine hh76 _ _ _ W58 (by assumption) ?_
      · exact ⟨rfl, ⟨ρ8, 1, ⟨⟨h8', F57⟩, r1, ⟨weG_v9 W53 pwF9_v Z57 tw52 tb52 G8, weKn_v9 W53 pwF9_v Z57 tw52 K8, atW_v9 W53 pwF9_v Z57 tb52 A8⟩, ⟨by rw [n57]; exact hn, Or.inr n57⟩, fun i P hi V => r3 i P hi (vs8 i P hi (V41 i P V)), ⟨V7.1, fun k hk => ⟨_, (V7.2 k hk).1⟩⟩, ⟨(r2 soSolved (by decide) (by decide)).2.trans sl8, (r2 soPlanned (by decide) (by decide)).2.trans pl8⟩, ⟨(r2 soAtlas (by decide) (by decide)).1.trans ea8, (r2 soWeb (by decide) (by decide)).1.trans ew8, (r2 soCalc (by decide) (by decide)).1.trans ec8⟩, (K41.tr K52).tr (zK_pw9 W53 T52 Z57)⟩, V7, by decide, pD9_p⟩, by decide, by rw [t0i]; omega⟩  -- j27
  · skip
    refine h _ _ ?_
    · exact ⟨ρ, ⟨fun _ _ => rfl, zF.rf⟩, S0, ⟨⟨U0, L0⟩, A0⟩, T0, Or.inl (fun _ _ _ V => V), Or.inr rfl, Or.inl ⟨rfl, rfl⟩, ⟨rfl, rfl, rfl⟩, zK9.rf⟩  -- q28

end
section
set_option maxHeartbeats 1600000
/-! the class: rows kept once, by what they hold (Hoard) -/
/-- row g holds these numbers -/
def hkM9 (S P : Nat → Int32) (T : Int) (K : Nat → Int32) (L : Int) (g : Nat) : Prop := (g : Int) < T ∧ (S (g + 1)).toInt - (S g).toInt = L ∧ ∀ i : Nat, (i : Int) < L → P ((S g).toInt.toNat + i) = K i
def hk9 (κ : zS) (h : Nat) (K : Nat → Int32) (L : Int) (g : Nat) : Prop := hkM9 (zA κ (zR κ hoStarts h)) (zA κ (zR κ hoPool h)) ((zI κ hoTotal h).toInt) K L g
def hst9 (x k : Int32) : Int32 := ((x ^^^ k) * (-1640531535 : Int32)) ^^^ (Int32.toUInt32 ((x ^^^ k) * (-1640531535 : Int32)) >>> (Int32.toUInt32 (15 : Int32) &&& Int32.toUInt32 31)).toInt32
def hhs9 (K : Nat → Int32) (x : Int32) : Nat → Int32
  | 0 => x
  | n + 1 => hst9 (hhs9 K x n) (K n)
def hsl9 (s m : Int32) : Nat → Int32
  | 0 => s &&& m
  | j + 1 => (hsl9 s m j + 1) &&& m
/-- the slots where a row is looked for -/
def hs9 (S : Nat) (K : Nat → Int32) (L : Int32) (j : Nat) : Int32 := hsl9 (hhs9 K L L.toNatClampNeg) (Int32.ofNat S - 1) j
/-- no number of a row stands in two slots -/
def hoU9 (κ : zS) (h S : Nat) : Prop := ∀ i j, i < S → j < S → zA κ (zR κ hoTable h) i ≠ 0 → zA κ (zR κ hoTable h) i = zA κ (zR κ hoTable h) j → i = j
/-- on the way to a row's slot -/
def hkW9 (κ : zS) (h S : Nat) (K : Nat → Int32) (L : Int32) (j : Nat) : Prop := ∀ i, i < j → zA κ (zR κ hoTable h) (hs9 S K L i).toNatClampNeg ≠ 0 ∧ ¬ hk9 κ h K L.toInt ((zA κ (zR κ hoTable h) (hs9 S K L i).toNatClampNeg).toInt - 1).toNat
/-- the row is there, under this number -/
def hkS9 (κ : zS) (h S : Nat) (K : Nat → Int32) (L : Int32) (g : Nat) : Prop := hk9 κ h K L.toInt g ∧ ∃ j, j < S ∧ hkW9 κ h S K L j ∧ (zA κ (zR κ hoTable h) (hs9 S K L j).toNatClampNeg).toInt = (g : Int) + 1
theorem bv_n9 {y : Int32} (hy : 0 ≤ y.toInt) : y.toInt = (y.toBitVec.toNat : Int) := BitVec.toInt_eq_toNat_of_lt (by
  have h9 : 0 ≤ y.toBitVec.toInt := hy
  rw [BitVec.toInt_eq_toNat_cond] at h9
  have l := y.toBitVec.isLt
  split at h9
  · assumption
  · omega)
theorem and_k9 {y m : Int32} {k : Nat} (hy : 0 ≤ y.toInt) (hm : m.toBitVec.toNat = 2 ^ k - 1) (hk : 2 ^ k ≤ 2 ^ 30) : (y &&& m).toInt = y.toInt % (2 ^ k : Nat) := by
  have e2 : (y &&& m).toBitVec.toNat = y.toBitVec.toNat &&& m.toBitVec.toNat := by
    show (y.toBitVec &&& m.toBitVec).toNat = _
    exact BitVec.toNat_and _ _
  rw [hm, Nat.and_two_pow_sub_one_eq_mod] at e2
  have p : 0 < 2 ^ k := Nat.pow_pos (by decide)
  have l : y.toBitVec.toNat % 2 ^ k < 2 ^ k := Nat.mod_lt _ p
  have e3 : (y &&& m).toInt = ((y &&& m).toBitVec.toNat : Int) := BitVec.toInt_eq_toNat_of_lt (by rw [e2]; omega)
  rw [e3, e2, bv_n9 hy]
  exact Int.natCast_emod _ _
theorem hsl_m9 {s : Int32} {S : Nat} (hS : S = 2048 ∨ S = 8192) (j : Nat) : (hsl9 s (Int32.ofNat S - 1) j).toInt = ((s &&& (Int32.ofNat S - 1)).toInt + (j : Int)) % (S : Int) := by
  have q : ∀ y : Int32, 0 ≤ (y &&& (Int32.ofNat S - 1)).toInt ∧ (y &&& (Int32.ofNat S - 1)).toInt < S ∧ (0 ≤ y.toInt → (y &&& (Int32.ofNat S - 1)).toInt = y.toInt % (S : Int)) := fun y => by
    rcases hS with e | e
    · subst e
      have a := andi_i (x := y) (m := Int32.ofNat 2048 - 1) (by decide)
      have z : (Int32.ofNat 2048 - 1).toInt = 2047 := by decide
      rw [z] at a
      exact ⟨a.1, by omega, fun h => and_k9 (k := 11) h (by decide) (by decide)⟩
    · subst e
      have a := andi_i (x := y) (m := Int32.ofNat 8192 - 1) (by decide)
      have z : (Int32.ofNat 8192 - 1).toInt = 8191 := by decide
      rw [z] at a
      exact ⟨a.1, by omega, fun h => and_k9 (k := 13) h (by decide) (by decide)⟩
  have s1 := q s
  have p : (0 : Int) < S := by rcases hS with e | e <;> subst e <;> decide
  have p31 : (S : Int) ≤ 8192 := by rcases hS with e | e <;> subst e <;> decide
  induction j with
  | zero =>
    show (s &&& (Int32.ofNat S - 1)).toInt = _
    have z : ((s &&& (Int32.ofNat S - 1)).toInt + ((0 : Nat) : Int)) = (s &&& (Int32.ofNat S - 1)).toInt := Int.add_zero _
    rw [z]
    exact (Int.emod_eq_of_lt s1.1 s1.2.1).symm
  | succ j ih =>
    show ((hsl9 s (Int32.ofNat S - 1) j + 1) &&& (Int32.ofNat S - 1)).toInt = _
    have x0 : 0 ≤ (hsl9 s (Int32.ofNat S - 1) j).toInt := by rw [ih]; exact Int.emod_nonneg _ (by omega)
    have x1 : (hsl9 s (Int32.ofNat S - 1) j).toInt < S := by rw [ih]; exact Int.emod_lt_of_pos _ p
    have e : (hsl9 s (Int32.ofNat S - 1) j + 1).toInt = (hsl9 s (Int32.ofNat S - 1) j).toInt + 1 := by rw [add_i (by rw [t1i]; omega) (by rw [t1i]; omega), t1i]
    rw [(q _).2.2 (by rw [e]; omega), e, ih, Int.emod_add_emod, Int.add_assoc]
    rfl
theorem hsl_r9 {s : Int32} {S : Nat} (hS : S = 2048 ∨ S = 8192) (j : Nat) : 0 ≤ (hsl9 s (Int32.ofNat S - 1) j).toInt ∧ (hsl9 s (Int32.ofNat S - 1) j).toInt < S := by
  have p : (0 : Int) < S := by rcases hS with e | e <;> subst e <;> decide
  rw [hsl_m9 hS]
  exact ⟨Int.emod_nonneg _ (by omega), Int.emod_lt_of_pos _ p⟩
theorem hsl_j9 {s : Int32} {S i j : Nat} (hS : S = 2048 ∨ S = 8192) (hi : i < S) (hj : j < S) (e : (hsl9 s (Int32.ofNat S - 1) i).toNatClampNeg = (hsl9 s (Int32.ofNat S - 1) j).toNatClampNeg) : i = j := by
  have a := hsl_r9 (s := s) hS i
  have b := hsl_r9 (s := s) hS j
  have ka := cnk a.1
  have kb := cnk b.1
  have ma := hsl_m9 (s := s) hS i
  have mb := hsl_m9 (s := s) hS j
  generalize (s &&& (Int32.ofNat S - 1)).toInt = x at *
  rcases hS with z | z
  · subst z
    omega
  · subst z
    omega
theorem hoP_S9 {M D S : Nat} (h : hoP M D S) : (S = 2048 ∨ S = 8192) ∧ M < S := by
  rcases h with ⟨rfl, rfl, rfl⟩ | ⟨rfl, rfl, rfl⟩ | ⟨rfl, rfl, rfl⟩ <;> decide
theorem php9 : ∀ (n m : Nat) (f : Nat → Nat), (∀ i, i < n → f i < m) → (∀ i j, i < n → j < n → f i = f j → i = j) → n ≤ m := by
  intro n
  induction n with
  | zero => intro m f _ _; exact Nat.zero_le _
  | succ n ih =>
    intro m f h1 h2
    have a := h1 n (Nat.lt_succ_self n)
    obtain ⟨m', rfl⟩ : ∃ m', m = m' + 1 := ⟨m - 1, by omega⟩
    refine Nat.succ_le_succ (ih m' (fun i => if f i = m' then f n else f i) (fun i hi => ?_) (fun i j hi hj e => ?_))
    · by_cases z : f i = m'
      · rw [if_pos z]
        have ne : f n ≠ m' := fun y => by
          have w := h2 i n (by omega) (by omega) (z.trans y.symm)
          omega
        omega
      · rw [if_neg z]
        have w := h1 i (by omega)
        omega
    · by_cases z : f i = m'
      · rw [if_pos z] at e
        by_cases y : f j = m'
        · exact h2 i j (by omega) (by omega) (z.trans y.symm)
        · rw [if_neg y] at e
          have w := h2 n j (by omega) (by omega) e
          omega
      · rw [if_neg z] at e
        by_cases y : f j = m'
        · rw [if_pos y] at e
          have w := h2 i n (by omega) (by omega) e
          omega
        · rw [if_neg y] at e
          exact h2 i j (by omega) (by omega) e
/-- some slot is empty -/
theorem hs_e9 {κ : zS} {h M D S j : Nat} {K : Nat → Int32} {L : Int32} (A : hoA κ h M D S) (P : hoP M D S) (U : hoU9 κ h S) (t0 : 0 ≤ (zI κ hoTotal h).toInt) (tM : (zI κ hoTotal h).toInt ≤ M) (hw : hkW9 κ h S K L j) (hj : S ≤ j) : False := by
  obtain ⟨hS, hM⟩ := hoP_S9 P
  have sl : ∀ i, (hs9 S K L i).toNatClampNeg < S := fun i => by
    have r := hsl_r9 (s := hhs9 K L L.toNatClampNeg) hS i
    have k := cnk r.1
    show (hsl9 (hhs9 K L L.toNatClampNeg) (Int32.ofNat S - 1) i).toNatClampNeg < S
    omega
  have q := php9 S ((zI κ hoTotal h).toInt).toNat (fun i => ((zA κ (zR κ hoTable h) (hs9 S K L i).toNatClampNeg).toInt - 1).toNat) (fun i hi => ?_) (fun i k hi hk e => ?_)
  · omega
  · have z := A.2.2.2.2.2 _ (sl i)
    have n : (zA κ (zR κ hoTable h) (hs9 S K L i).toNatClampNeg).toInt ≠ 0 := fun e => (hw i (by omega)).1 (Int32.toInt_inj.mp e)
    omega
  · have z1 := A.2.2.2.2.2 _ (sl i)
    have z2 := A.2.2.2.2.2 _ (sl k)
    have n1 : (zA κ (zR κ hoTable h) (hs9 S K L i).toNatClampNeg).toInt ≠ 0 := fun e => (hw i (by omega)).1 (Int32.toInt_inj.mp e)
    have n2 : (zA κ (zR κ hoTable h) (hs9 S K L k).toNatClampNeg).toInt ≠ 0 := fun e => (hw k (by omega)).1 (Int32.toInt_inj.mp e)
    have e2 : (zA κ (zR κ hoTable h) (hs9 S K L i).toNatClampNeg).toInt = (zA κ (zR κ hoTable h) (hs9 S K L k).toNatClampNeg).toInt := by omega
    exact hsl_j9 hS hi hk (U _ _ (sl i) (sl k) (hw i (by omega)).1 (Int32.toInt_inj.mp e2))
theorem Ho_lengthOf_c2 {C : zC} {n0 : Nat} {a0 : Nat} {a1 : Int32} {κ : zS} {Q : Int32 → zS → Prop} (W : zW C n0 κ) (Ta0 : zT κ a0 = 6) (M D S : Nat) (hp : hoI κ a0 M D S ∧ hoP M D S) (h : ∀ (v : Int32), ((0 ≤ v.toInt ∧ v.toInt ≤ D) ∧ v.toInt = if 0 ≤ a1.toInt ∧ a1.toInt < (zI κ hoTotal a0).toInt then (zA κ (zR κ hoStarts a0) (a1.toNatClampNeg + 1)).toInt - (zA κ (zR κ hoStarts a0) a1.toNatClampNeg).toInt else 0) → Q v κ) : zRun C 0 mHo_lengthOf [.ref a0, .int a1] κ (oI Q noX) := by
  refine Ho_lengthOf_run W Ta0 ?_
  replace W := W.lo (Nat.le_trans W.1.2.1 W.1.2.2) (Nat.le_refl (zn κ))
  unfold w_Ho_lengthOf_0
  obtain ⟨H, P⟩ := hp
  have B := hoP_b P
  refine ⟨fun c1 => ?_, fun c1 => ?_⟩
  · skip
    refine h _ ?_
    · rw [lti, t0i] at c1
      rw [if_neg (by omega)]
      exact ⟨⟨by decide, Int.natCast_nonneg D⟩, rfl⟩
  · skip
    refine ⟨fun c2 => ?_, fun c2 => ?_⟩
    · skip
      refine h _ ?_
      · rw [lei] at c2
        rw [if_neg (by omega)]
        exact ⟨⟨by decide, Int.natCast_nonneg D⟩, rfl⟩
    · skip
      have c0 : 0 ≤ a1.toInt := by rw [lti, t0i] at c1; omega
      have c3 : a1.toInt < (zI κ hoTotal a0).toInt := by rw [lei] at c2; omega
      have k9 := cnk c0
      have tM := H.2.1.2
      have A := hoI_A H (Or.inl (by omega))
      have e1 : (a1 + 1).toInt = a1.toInt + 1 := by rw [add_i (by rw [t1i]; omega) (by rw [t1i]; omega), t1i]
      have n1 : (a1 + 1).toNatClampNeg = a1.toNatClampNeg + 1 := by have := cnk (x := a1 + 1) (by omega); omega
      have sl : zN κ (zR κ hoStarts a0) = M + 1 := A.2.1
      refine ⟨?_, ?_⟩
      · rw [inb_iff, e1, sl]; omega  -- b3
      refine ⟨?_, ?_⟩
      · rw [inb_iff, sl]; omega  -- b4
      refine h _ ?_
      · rw [n1]
        have a := hoA_0 A (k := a1.toNatClampNeg) (by omega)
        have b := A.2.2.2.1 a1.toNatClampNeg (by omega)
        have t := hoA_t A (k := a1.toNatClampNeg + 1) (by omega)
        have p := H.2.2.1.2
        have e : (zA κ (zR κ hoStarts a0) (a1.toNatClampNeg + 1) - zA κ (zR κ hoStarts a0) a1.toNatClampNeg).toInt = (zA κ (zR κ hoStarts a0) (a1.toNatClampNeg + 1)).toInt - (zA κ (zR κ hoStarts a0) a1.toNatClampNeg).toInt := sub_i (by omega) (by omega)
        rw [e, if_pos ⟨c0, c3⟩]
        exact ⟨⟨by omega, by omega⟩, rfl⟩

/-- number i of row g, 0 if there is none -/
def pV9 (κ : zS) (h : Nat) (g i : Int32) : Int32 := if (0 ≤ g.toInt ∧ g.toInt < (zI κ hoTotal h).toInt) ∧ 0 ≤ i.toInt ∧ i.toInt < (zA κ (zR κ hoStarts h) (g.toNatClampNeg + 1)).toInt - (zA κ (zR κ hoStarts h) g.toNatClampNeg).toInt then zA κ (zR κ hoPool h) (((zA κ (zR κ hoStarts h) g.toNatClampNeg).toInt).toNat + i.toNatClampNeg) else 0
theorem pV9_k {κ : zS} {h : Nat} {g i : Int32} {K : Nat → Int32} {L : Int} (hg : 0 ≤ g.toInt) (hk : hk9 κ h K L g.toNatClampNeg) (h0 : 0 ≤ i.toInt) (h1 : i.toInt < L) : pV9 κ h g i = K i.toNatClampNeg := by
  have k := cnk hg
  have k1 := cnk h0
  obtain ⟨a, b, c⟩ := hk
  unfold pV9
  rw [if_pos ⟨⟨hg, by omega⟩, h0, by omega⟩]
  exact c i.toNatClampNeg (by omega)
theorem Ho_part_c2 {C : zC} {n0 : Nat} {a0 : Nat} {a1 : Int32} {a2 : Int32} {κ : zS} {Q : Int32 → zS → Prop} (W : zW C n0 κ) (Ta0 : zT κ a0 = 6) (M D S : Nat) (hp : hoI κ a0 M D S ∧ hoP M D S) (h : ∀ (v : Int32), (v = pV9 κ a0 a1 a2) → Q v κ) : zRun C 1 mHo_part [.ref a0, .int a1, .int a2] κ (oI Q noX) := by
  refine Ho_part_run W Ta0 ?_
  replace W := W.lo (Nat.le_trans W.1.2.1 W.1.2.2) (Nat.le_refl (zn κ))
  unfold w_Ho_part_0
  obtain ⟨H, P⟩ := hp
  have B := hoP_b P
  refine ⟨fun c1 => ?_, fun c1 => ?_⟩
  · skip
    refine h _ ?_
    · rw [lti, t0i] at c1
      unfold pV9
      rw [if_neg (fun z => by omega)]
  · skip
    intro T2
    refine Ho_lengthOf_c2 W T2 M D S ?_ (fun r3 q5 => ?_)
    · exact ⟨H, P⟩  -- p2
    intro W6
    intro M7
    refine ⟨fun c8 => ?_, fun c8 => ?_⟩
    · skip
      refine h _ ?_
      · rw [lei] at c8
        rw [lti, t0i] at c1
        have q := q5.2
        unfold pV9
        by_cases z : 0 ≤ a1.toInt ∧ a1.toInt < (zI κ hoTotal a0).toInt
        · rw [if_pos z] at q
          rw [if_neg (fun y => by omega)]
        · rw [if_neg (fun y => z y.1)]
    · skip
      have c0 : 0 ≤ a2.toInt := by rw [lti, t0i] at c1; omega
      have c9 : a2.toInt < r3.toInt := by rw [lei] at c8; omega
      have q := q5.2
      have z : 0 ≤ a1.toInt ∧ a1.toInt < (zI κ hoTotal a0).toInt := by
        by_cases z : 0 ≤ a1.toInt ∧ a1.toInt < (zI κ hoTotal a0).toInt
        · exact z
        · rw [if_neg z] at q
          omega
      rw [if_pos z] at q
      have k9 := cnk z.1
      have tM := H.2.1.2
      have A := hoI_A H (Or.inl (by omega))
      have sl : zN κ (zR κ hoStarts a0) = M + 1 := A.2.1
      have a := hoA_0 A (k := a1.toNatClampNeg) (by omega)
      have t := hoA_t A (k := a1.toNatClampNeg + 1) (by omega)
      have p := H.2.2.1.2
      have e : (zA κ (zR κ hoStarts a0) a1.toNatClampNeg + a2).toInt = (zA κ (zR κ hoStarts a0) a1.toNatClampNeg).toInt + a2.toInt := add_i (by omega) (by omega)
      have t2 : (zA κ (zR κ hoStarts a0) (a1.toNatClampNeg + 1)).toInt ≤ zN κ (zR κ hoPool a0) := t
      refine ⟨?_, ?_⟩
      · rw [inb_iff, sl]; omega  -- b4
      refine ⟨?_, ?_⟩
      · rw [inb_iff, e]
        omega
      refine h _ ?_
      · unfold pV9
        rw [if_pos ⟨z, c0, by omega⟩]
        have ke := cnk (x := zA κ (zR κ hoStarts a0) a1.toNatClampNeg + a2) (by omega)
        have k2 := cnk c0
        rw [show (zA κ (zR κ hoStarts a0) a1.toNatClampNeg + a2).toNatClampNeg = ((zA κ (zR κ hoStarts a0) a1.toNatClampNeg).toInt).toNat + a2.toNatClampNeg by omega]

theorem Ho_isRow_c2 {C : zC} {n0 : Nat} {a0 : Nat} {a1 : Int32} {a2 : Nat} {a3 : Int32} {κ : zS} {Q : Int32 → zS → Prop} (W : zW C n0 κ) (Ta0 : zT κ a0 = 6) (Ta2 : zT κ a2 = 20) (M D S : Nat) (hp : hoA κ a0 M D S ∧ hoP M D S ∧ 0 ≤ (zI κ hoTotal a0).toInt ∧ (zI κ hoTotal a0).toInt ≤ M ∧ (zN κ (zR κ hoPool a0)) ≤ M * D ∧ 0 ≤ a1.toInt ∧ a1.toInt < (zI κ hoTotal a0).toInt ∧ a3.toInt ≤ zN κ a2) (h : ∀ (v : Int32), (nb v ∧ (v ≠ 0 ↔ hk9 κ a0 (zA κ a2) a3.toInt a1.toNatClampNeg)) → Q v κ) : zRun C 0 mHo_isRow [.ref a0, .int a1, .ref a2, .int a3] κ (oI Q noX) := by
  refine Ho_isRow_run W Ta0 Ta2 ?_
  replace W := W.lo (Nat.le_trans W.1.2.1 W.1.2.2) (Nat.le_refl (zn κ))
  unfold w_Ho_isRow_0
  obtain ⟨A, P, h0, h1, hpl, k0, k1, hl⟩ := hp
  have B := hoP_b P
  have k9 := cnk k0
  have sl : zN κ (zR κ hoStarts a0) = M + 1 := A.2.1
  have e1 : (a1 + 1).toInt = a1.toInt + 1 := by rw [add_i (by rw [t1i]; omega) (by rw [t1i]; omega), t1i]
  have n1 : (a1 + 1).toNatClampNeg = a1.toNatClampNeg + 1 := by have := cnk (x := a1 + 1) (by omega); omega
  have a := hoA_0 A (k := a1.toNatClampNeg) (by omega)
  have b := A.2.2.2.1 a1.toNatClampNeg (by omega)
  have t : (zA κ (zR κ hoStarts a0) (a1.toNatClampNeg + 1)).toInt ≤ zN κ (zR κ hoPool a0) := hoA_t A (k := a1.toNatClampNeg + 1) (by omega)
  have p : zN κ (zR κ hoPool a0) ≤ M * D := hpl
  have e9 : (zA κ (zR κ hoStarts a0) (a1.toNatClampNeg + 1) - zA κ (zR κ hoStarts a0) a1.toNatClampNeg).toInt = (zA κ (zR κ hoStarts a0) (a1.toNatClampNeg + 1)).toInt - (zA κ (zR κ hoStarts a0) a1.toNatClampNeg).toInt := sub_i (by omega) (by omega)
  refine ⟨?_, ?_⟩
  · rw [inb_iff, sl]; omega  -- b1
  intro x1 hx1
  refine ⟨?_, ?_⟩
  · rw [inb_iff, e1, sl]; omega  -- b2
  refine ⟨fun c2 => ?_, fun c2 => ?_⟩
  · skip
    unfold w_Ho_isRow_28
    refine ⟨fun n l0 l2 l3 l4 l5 τ => n = (l3 - l5).toNatClampNeg ∧ (κ = τ ∧ a0 = l0 ∧ a2 = l2 ∧ a3 = l3 ∧ 0 ≤ l5.toInt ∧ l4.toInt = (zA κ (zR κ hoStarts a0) a1.toNatClampNeg).toInt ∧ a3.toInt = (zA κ (zR κ hoStarts a0) (a1.toNatClampNeg + 1)).toInt - (zA κ (zR κ hoStarts a0) a1.toNatClampNeg).toInt ∧ l5.toInt ≤ a3.toInt ∧ ∀ i : Nat, (i : Int) < l5.toInt → zA κ (zR κ hoPool a0) (((zA κ (zR κ hoStarts a0) a1.toNatClampNeg).toInt).toNat + i) = zA κ a2 i), ⟨_, rfl, ?_⟩, ?_⟩
    · rw [n1, hx1] at c2
      have c3 : (zA κ (zR κ hoStarts a0) (a1.toNatClampNeg + 1) - zA κ (zR κ hoStarts a0) a1.toNatClampNeg).toInt = a3.toInt := congrArg Int32.toInt c2
      rw [e9] at c3
      exact ⟨rfl, rfl, rfl, rfl, by decide, by rw [hx1], c3.symm, by rw [t0i]; omega, fun i hi => by rw [t0i] at hi; omega⟩
    rintro n28 _ _ _ x28_4 x28_5 _ W28 T28_0 T28_1 ⟨hn28, rfl, rfl, rfl, rfl, i28⟩
    obtain ⟨m0, m1, m2, m3, m4⟩ := i28
    refine ⟨fun c3 => ?_, fun c3 => ?_⟩
    · skip
      refine h _ ?_
      · rw [lei] at c3
        exact ⟨nb_1, fun _ => ⟨by omega, m2.symm, fun i hi => m4 i (by omega)⟩, fun _ => by decide⟩
    · skip
      have c9 : x28_5.toInt < a3.toInt := by rw [lei] at c3; omega
      have e : (x28_4 + x28_5).toInt = x28_4.toInt + x28_5.toInt := add_i (by omega) (by omega)
      have ke := cnk (x := x28_4 + x28_5) (by omega)
      have k5 := cnk m0
      have n5 : (x28_4 + x28_5).toNatClampNeg = ((zA κ (zR κ hoStarts a0) a1.toNatClampNeg).toInt).toNat + x28_5.toNatClampNeg := by omega
      refine ⟨?_, ?_⟩
      · rw [inb_iff, e]; omega  -- b5
      refine ⟨?_, ?_⟩
      · rw [inb_iff]; omega  -- b6
      refine ⟨fun c4 => ?_, fun c4 => ?_⟩
      · skip
        intro x5 hx5
        refine ⟨_, cn_lt2 hn28 ?_ ?_, rfl, ?_⟩
        · rw [hx5, lei, t0i]
          have e : (x28_5 + 1).toInt = x28_5.toInt + 1 := by rw [add_i (by rw [t1i]; omega) (by rw [t1i]; omega), t1i]
          rw [sub_i (by rw [e]; omega) (by rw [e]; omega), e]; omega
        · rw [hx5, lti]
          have e : (x28_5 + 1).toInt = x28_5.toInt + 1 := by rw [add_i (by rw [t1i]; omega) (by rw [t1i]; omega), t1i]
          rw [sub_i (by rw [e]; omega) (by rw [e]; omega), e, sub_i (by omega) (by omega)]; omega
        · have e : (x28_5 + 1).toInt = x28_5.toInt + 1 := by rw [add_i (by rw [t1i]; omega) (by rw [t1i]; omega), t1i]
          refine ⟨rfl, rfl, rfl, rfl, by rw [hx5, e]; omega, m1, m2, by rw [hx5, e]; omega, fun i hi => ?_⟩
          rw [hx5, e] at hi
          by_cases z : i = x28_5.toNatClampNeg
          · rw [z, ← n5]
            exact c4
          · exact m4 i (by omega)
      · skip
        refine h _ ?_
        · refine ⟨nb_0, fun z => absurd rfl z, fun z => ?_⟩
          have q := z.2.2 x28_5.toNatClampNeg (by omega)
          rw [← n5] at q
          exact absurd q c4
  · skip
    refine h _ ?_
    · refine ⟨nb_0, fun z => absurd rfl z, fun z => ?_⟩
      rw [n1, hx1] at c2
      exact absurd (Int32.toInt_inj.mp (e9.trans z.2.1)) c2

theorem Ho_slotOf_c2 {C : zC} {n0 : Nat} {a0 : Nat} {a1 : Nat} {a2 : Int32} {κ : zS} {Q : Int32 → zS → Prop} (W : zW C n0 κ) (Ta0 : zT κ a0 = 6) (Ta1 : zT κ a1 = 20) (M D S : Nat) (hp : hoA κ a0 M D S ∧ hoP M D S ∧ 0 ≤ (zI κ hoTotal a0).toInt ∧ (zI κ hoTotal a0).toInt ≤ M ∧ (zN κ (zR κ hoPool a0)) ≤ M * D ∧ a2.toInt ≤ zN κ a1 ∧ hoU9 κ a0 S ∧ 0 ≤ a2.toInt) (h : ∀ (v : Int32), ((0 ≤ v.toInt ∧ v.toInt < S) ∧ ∃ j, j < S ∧ v = hs9 S (zA κ a1) a2 j ∧ hkW9 κ a0 S (zA κ a1) a2 j ∧ (zA κ (zR κ hoTable a0) v.toNatClampNeg = 0 ∨ hk9 κ a0 (zA κ a1) a2.toInt ((zA κ (zR κ hoTable a0) v.toNatClampNeg).toInt - 1).toNat)) → Q v κ) : zRun C 1 mHo_slotOf [.ref a0, .ref a1, .int a2] κ (oI Q noX) := by
  refine Ho_slotOf_run W Ta0 Ta1 ?_
  replace W := W.lo (Nat.le_trans W.1.2.1 W.1.2.2) (Nat.le_refl (zn κ))
  unfold w_Ho_slotOf_0
  obtain ⟨A, P, h0, h1, hpl, hl, U, h2⟩ := hp
  have B := hoP_b P
  have tl : zN κ (zR κ hoTable a0) = S := A.1
  have nN := W.n Ta1
  have eS : (Int32.ofNat S).toInt = S := ofn_i (by omega)
  have eM : (Int32.ofNat S - 1).toInt = S - 1 := by rw [sub_i (by rw [eS, t1i]; omega) (by rw [eS, t1i]; omega), eS, t1i]
  unfold w_Ho_slotOf_5
  refine ⟨fun n l0 l1 l2 l3 l4 τ => n = (a2.toInt - l4.toInt).toNat ∧ (κ = τ ∧ a0 = l0 ∧ a1 = l1 ∧ a2 = l2 ∧ 0 ≤ l4.toInt ∧ l4.toInt ≤ a2.toInt ∧ l3 = hhs9 (zA κ a1) a2 l4.toNatClampNeg), ⟨_, rfl, ?_⟩, ?_⟩
  · exact ⟨rfl, rfl, rfl, rfl, by decide, h2, rfl⟩  -- j1
  rintro n5 _ _ _ x5_3 x5_4 _ W5 T5_0 T5_1 ⟨hn5, rfl, rfl, rfl, rfl, i5⟩
  obtain ⟨k0, k1, k2⟩ := i5
  have kk := cnk k0
  have k2a := cnk h2
  refine ⟨fun c1 => ?_, fun c1 => ?_⟩
  · skip
    intro x2 hx2
    unfold w_Ho_slotOf_48
    refine ⟨fun n l0 l1 l2 l4 l5 τ => n = ((S : Int) - l5.toInt).toNat ∧ (κ = τ ∧ a0 = l0 ∧ a1 = l1 ∧ a2 = l2 ∧ (0 ≤ l4.toInt ∧ l4.toInt < S) ∧ 0 ≤ l5.toInt ∧ l4 = hs9 S (zA κ a1) a2 l5.toNatClampNeg ∧ hkW9 κ a0 S (zA κ a1) a2 l5.toNatClampNeg), ⟨_, rfl, ?_⟩, ?_⟩
    · rw [tl] at hx2
      rw [lei] at c1
      have q := andi_i (x := x5_3) (m := Int32.ofNat S - 1) (by rw [eM]; omega)
      rw [eM] at q
      have z : x5_4.toNatClampNeg = a2.toNatClampNeg := by omega
      refine ⟨rfl, rfl, rfl, rfl, ⟨by rw [hx2]; exact q.1, by rw [hx2]; omega⟩, by decide, ?_, fun i hi => absurd hi (Nat.not_lt_zero _)⟩
      rw [hx2, k2, z]
      rfl
    rintro n48 _ _ _ x48_4 x48_5 _ W48 T48_0 T48_1 ⟨hn48, rfl, rfl, rfl, rfl, i48⟩
    obtain ⟨⟨m0, m1⟩, m2, m3, m4⟩ := i48
    have k5 := cnk m2
    refine ⟨fun c3 => ?_, fun c3 => ?_⟩
    · skip
      refine h _ ?_
      · rw [lei, tl, eS] at c3
        exact False.elim (hs_e9 A P U h0 h1 m4 (by omega))
    · skip
      have c9 : x48_5.toInt < S := by rw [lei, tl, eS] at c3; omega
      refine ⟨?_, ?_⟩
      · rw [inb_iff, tl]; exact ⟨m0, m1⟩  -- b4
      refine ⟨fun c4 => ?_, fun c4 => ?_⟩
      · skip
        refine h _ ?_
        · exact ⟨⟨m0, m1⟩, x48_5.toNatClampNeg, by omega, m3, m4, Or.inl c4⟩  -- q5
      · skip
        refine ⟨?_, ?_⟩
        · rw [inb_iff, tl]; exact ⟨m0, m1⟩  -- b6
        intro T5
        intro T6
        have z := A.2.2.2.2.2 x48_4.toNatClampNeg (by have := cnk m0; omega)
        have z2 : zA κ (zR κ hoTable a0) x48_4.toNatClampNeg ≠ 0 := c4
        have z3 : (zA κ (zR κ hoTable a0) x48_4.toNatClampNeg).toInt ≠ 0 := fun e => z2 (Int32.toInt_inj.mp e)
        have ez : (zA κ (zR κ hoTable a0) x48_4.toNatClampNeg - 1).toInt = (zA κ (zR κ hoTable a0) x48_4.toNatClampNeg).toInt - 1 := by rw [sub_i (by rw [t1i]; omega) (by rw [t1i]; omega), t1i]
        have kz := cnk (x := zA κ (zR κ hoTable a0) x48_4.toNatClampNeg - 1) (by omega)
        have nz9 : (zA κ (zR κ hoTable a0) x48_4.toNatClampNeg - 1).toNatClampNeg = ((zA κ (zR κ hoTable a0) x48_4.toNatClampNeg).toInt - 1).toNat := by omega
        refine Ho_isRow_c2 W48 T5 T6 M D S ?_ (fun r7 q9 => ?_)
        · exact ⟨A, P, h0, h1, hpl, by rw [ez]; omega, by rw [ez]; omega, hl⟩  -- p7
        intro W10
        intro M11
        have qq := q9.2
        rw [nz9] at qq
        refine ⟨fun c12 => ?_, fun c12 => ?_⟩
        · skip
          intro x13 hx13
          intro x14 hx14
          refine ⟨_, ?_, rfl, ?_⟩
          · have e : (x48_5 + 1).toInt = x48_5.toInt + 1 := by rw [add_i (by rw [t1i]; omega) (by rw [t1i]; omega), t1i]
            rw [hn48, hx14, e]; omega
          · have e := cn1 (x := x48_5) m2 (by omega)
            rw [tl] at hx13
            have q := andi_i (x := x48_4 + 1) (m := Int32.ofNat S - 1) (by rw [eM]; omega)
            rw [eM] at q
            refine ⟨rfl, rfl, rfl, rfl, ⟨by rw [hx13]; exact q.1, by rw [hx13]; omega⟩, by rw [hx14, e.2]; omega, ?_, fun i hi => ?_⟩
            · rw [hx13, hx14, e.1]
              show _ = (hs9 S (zA κ a1) a2 x48_5.toNatClampNeg + 1) &&& (Int32.ofNat S - 1)
              rw [← m3]
            · rw [hx14, e.1] at hi
              by_cases y : i = x48_5.toNatClampNeg
              · rw [y, ← m3]
                exact ⟨c4, fun w => absurd c12 (qq.mpr w)⟩
              · exact m4 i (by omega)
        · skip
          refine h _ ?_
          · exact ⟨⟨m0, m1⟩, x48_5.toNatClampNeg, by omega, m3, m4, Or.inr (qq.mp c12)⟩  -- q10
  · skip
    have c9 : x5_4.toInt < a2.toInt := by rw [lei] at c1; omega
    have hi2 := ihi a2
    have e := cn1 (x := x5_4) k0 (by omega)
    refine ⟨?_, ?_⟩
    · rw [inb_iff]; omega  -- b11
    intro x15 hx15
    intro x16 hx16
    intro x17 hx17
    refine ⟨_, ?_, rfl, ?_⟩
    · rw [hn5, hx17, e.2]; omega  -- d12
    · refine ⟨rfl, rfl, rfl, rfl, by rw [hx17, e.2]; omega, by rw [hx17, e.2]; omega, ?_⟩
      rw [hx17, e.1, hx16, hx15, k2]
      rfl

end
section
set_option maxHeartbeats 1600000
/-! the class: Hoard's enter, by what the rows hold -/
theorem hk_m9 {S S' P P' : Nat → Int32} {T T' : Int} {K : Nat → Int32} {L : Int} {g n : Nat} {e : Int} (hg : g < n) (hT : T = (n : Int)) (hT' : T' = (n : Int) ∨ T' = (n : Int) + 1) (hs : ∀ k, k ≤ n → (S' k).toInt = (S k).toInt) (hb : ∀ k, k < n → 0 ≤ (S k).toInt ∧ (S (k + 1)).toInt ≤ e) (hp : ∀ i : Nat, (i : Int) < e → P' i = P i) : hkM9 S' P' T' K L g ↔ hkM9 S P T K L g := by
  unfold hkM9
  have s0 := hs g (by omega)
  have s1 := hs (g + 1) (by omega)
  have b := hb g hg
  rw [s0, s1]
  constructor
  · rintro ⟨a1, a2, a3⟩
    exact ⟨by omega, a2, fun i hi => by rw [← hp _ (by omega)]; exact a3 i hi⟩
  · rintro ⟨a1, a2, a3⟩
    exact ⟨by omega, a2, fun i hi => by rw [hp _ (by omega)]; exact a3 i hi⟩
/-- what entering a row leaves -/
def enP9 (κ κ' : zS) (h M D S : Nat) (K : Nat → Int32) (L m v : Int32) : Prop := hoU9 κ' h S ∧ (∀ K' L' g, hkS9 κ h S K' L' g → hkS9 κ' h S K' L' g) ∧ (0 ≤ v.toInt → hkS9 κ' h S K L v.toNatClampNeg) ∧ (∀ g : Nat, hkS9 κ h S K L g → κ' = κ ∧ v.toInt = (g : Int)) ∧ (v.toInt < 0 → m.toInt ≤ (zI κ hoTotal h).toInt ∨ (M : Int) ≤ (zI κ hoTotal h).toInt ∨ (D : Int) < L.toInt) ∧ ∀ g i : Int32, g.toInt < (zI κ hoTotal h).toInt → pV9 κ' h g i = pV9 κ h g i
theorem en_f9 {κ κ' : zS} {h M D S j : Nat} {K : Nat → Int32} {L m v x l5 : Int32} (A : hoA κ h M D S) (P : hoP M D S) (U : hoU9 κ h S) (t0 : 0 ≤ (zI κ hoTotal h).toInt) (hj : j < S) (hx : x = hs9 S K L j) (hw : hkW9 κ h S K L j) (z0 : zA κ (zR κ hoTable h) x.toNatClampNeg = 0) (hL : 0 ≤ L.toInt) (hl : l5.toInt = (zA κ (zR κ hoStarts h) (((zI κ hoTotal h).toInt).toNat)).toInt) (e0 : (zI κ' hoTotal h).toInt = (zI κ hoTotal h).toInt + 1) (hb : (zI κ hoTotal h).toInt < 4000) (ev : v.toInt = (zI κ hoTotal h).toInt) (es : ∀ k, k ≤ ((zI κ hoTotal h).toInt).toNat → (zA κ' (zR κ' hoStarts h) k).toInt = (zA κ (zR κ hoStarts h) k).toInt) (en : (zA κ' (zR κ' hoStarts h) (((zI κ hoTotal h).toInt).toNat + 1)).toInt = l5.toInt + L.toInt) (ep : ∀ i : Nat, (i : Int) < l5.toInt → zA κ' (zR κ' hoPool h) i = zA κ (zR κ hoPool h) i) (eq : ∀ i : Nat, (i : Int) < L.toInt → zA κ' (zR κ' hoPool h) (l5.toInt.toNat + i) = K i) (et : ∀ i, zA κ' (zR κ' hoTable h) i = if i = x.toNatClampNeg then zI κ' hoTotal h else zA κ (zR κ hoTable h) i) : enP9 κ κ' h M D S K L m v := by
  obtain ⟨hS, hM⟩ := hoP_S9 P
  have kv := cnk (x := v) (by omega)
  have l0 : 0 ≤ l5.toInt := by rw [hl]; exact hoA_0 A (Nat.le_refl _)
  have row : ∀ K' L' g, g < ((zI κ hoTotal h).toInt).toNat → (hk9 κ' h K' L' g ↔ hk9 κ h K' L' g) := fun K' L' g hg => hk_m9 (n := ((zI κ hoTotal h).toInt).toNat) (e := l5.toInt) hg (by omega) (Or.inr (by omega)) es (fun k hk => ⟨hoA_0 A (by omega), by rw [hl]; exact hoA_mono A _ _ (by omega) (Nat.le_refl _)⟩) ep
  have sl : ∀ K' L' i, (hs9 S K' L' i).toNatClampNeg < S := fun K' L' i => by
    have r := hsl_r9 (s := hhs9 K' L' L'.toNatClampNeg) hS i
    have k := cnk r.1
    show (hsl9 (hhs9 K' L' L'.toNatClampNeg) (Int32.ofNat S - 1) i).toNatClampNeg < S
    omega
  have ne : ∀ i, zA κ (zR κ hoTable h) i ≠ 0 → zA κ' (zR κ' hoTable h) i = zA κ (zR κ hoTable h) i := fun i hi => by
    rw [et]
    exact if_neg (fun y => hi (by rw [y]; exact z0))
  have way : ∀ K' L' j', hkW9 κ h S K' L' j' → hkW9 κ' h S K' L' j' := fun K' L' j' w i hi => by
    obtain ⟨a, b⟩ := w i hi
    have t := A.2.2.2.2.2 _ (sl K' L' i)
    have n0 : (zA κ (zR κ hoTable h) (hs9 S K' L' i).toNatClampNeg).toInt ≠ 0 := fun y => a (Int32.toInt_inj.mp y)
    rw [ne _ a]
    exact ⟨a, fun y => b ((row _ _ _ (by omega)).mp y)⟩
  have hn : hk9 κ' h K L.toInt v.toNatClampNeg := by
    have v9 : v.toNatClampNeg = ((zI κ hoTotal h).toInt).toNat := by omega
    rw [v9]
    have s1 := es ((zI κ hoTotal h).toInt).toNat (Nat.le_refl _)
    refine ⟨by omega, by rw [en, s1, ← hl]; omega, fun i hi => ?_⟩
    rw [s1, ← hl]
    exact eq i hi
  refine ⟨fun i k hi hk h1 h2 => ?_, fun K' L' g H => ?_, fun _ => ⟨hn, j, hj, way _ _ _ hw, ?_⟩, fun g H => ?_, fun y => by omega, fun g i hg => ?_⟩
  · have ti := A.2.2.2.2.2 i hi
    have tk := A.2.2.2.2.2 k hk
    rw [et] at h1
    rw [et, et] at h2
    by_cases y : i = x.toNatClampNeg
    · by_cases w : k = x.toNatClampNeg
      · rw [y, w]
      · rw [if_pos y, if_neg w] at h2
        have q := congrArg Int32.toInt h2
        omega
    · rw [if_neg y] at h1 h2
      by_cases w : k = x.toNatClampNeg
      · rw [if_pos w] at h2
        have q := congrArg Int32.toInt h2
        omega
      · rw [if_neg w] at h2
        exact U i k hi hk h1 h2
  · obtain ⟨H1, j', H2, H3, H4⟩ := H
    have g1 := H1.1
    refine ⟨(row _ _ _ (by omega)).mpr H1, j', H2, way _ _ _ H3, ?_⟩
    rw [ne _ (fun y => by rw [y, t0i] at H4; omega)]
    exact H4
  · rw [← hx, et, if_pos rfl, e0]
    omega
  · obtain ⟨H1, j', H2, H3, H4⟩ := H
    exfalso
    by_cases y : j < j'
    · exact (H3 j y).1 (by rw [← hx]; exact z0)
    · by_cases w : j' < j
      · have q := (hw j' w).2
        rw [H4] at q
        rw [show ((g : Int) + 1 - 1).toNat = g by omega] at q
        exact q H1
      · have q : j' = j := by omega
        rw [q, ← hx, z0, t0i] at H4
        omega
  · unfold pV9
    by_cases y : 0 ≤ g.toInt
    · have kg := cnk y
      have s0 := es g.toNatClampNeg (by omega)
      have s1 := es (g.toNatClampNeg + 1) (by omega)
      have b0 := hoA_0 A (k := g.toNatClampNeg) (by omega)
      have b1 : (zA κ (zR κ hoStarts h) (g.toNatClampNeg + 1)).toInt ≤ l5.toInt := by rw [hl]; exact hoA_mono A _ _ (by omega) (Nat.le_refl _)
      rw [s0, s1]
      by_cases w : 0 ≤ i.toInt ∧ i.toInt < (zA κ (zR κ hoStarts h) (g.toNatClampNeg + 1)).toInt - (zA κ (zR κ hoStarts h) g.toNatClampNeg).toInt
      · have ki := cnk w.1
        rw [if_pos ⟨⟨y, by omega⟩, w⟩, if_pos ⟨⟨y, hg⟩, w⟩]
        exact ep _ (by omega)
      · rw [if_neg (fun q => w q.2), if_neg (fun q => w q.2)]
    · rw [if_neg (fun q => y q.1.1), if_neg (fun q => y q.1.1)]
theorem en_o9 {κ : zS} {h M D S j : Nat} {K : Nat → Int32} {L m v x : Int32} (U : hoU9 κ h S) (hj : j < S) (hx : x = hs9 S K L j) (hw : hkW9 κ h S K L j) (z1 : (zA κ (zR κ hoTable h) x.toNatClampNeg).toInt = v.toInt + 1) (hv : 0 ≤ v.toInt) (hk : hk9 κ h K L.toInt ((zA κ (zR κ hoTable h) x.toNatClampNeg).toInt - 1).toNat) : enP9 κ κ h M D S K L m v := by
  have kv := cnk hv
  rw [z1, show (v.toInt + 1 - 1).toNat = v.toNatClampNeg by omega] at hk
  refine ⟨U, fun _ _ _ H => H, fun _ => ⟨hk, j, hj, hw, by rw [← hx, z1]; omega⟩, fun g H => ⟨rfl, ?_⟩, fun y => by omega, fun _ _ _ => rfl⟩
  obtain ⟨H1, j', H2, H3, H4⟩ := H
  by_cases y : j < j'
  · have q := (H3 j y).2
    rw [← hx, z1, show (v.toInt + 1 - 1).toNat = v.toNatClampNeg by omega] at q
    exact absurd hk q
  · by_cases w : j' < j
    · have q := (hw j' w).2
      rw [H4, show ((g : Int) + 1 - 1).toNat = g by omega] at q
      exact absurd H1 q
    · have q : j' = j := by omega
      rw [q, ← hx, z1] at H4
      omega
theorem en_n9 {κ : zS} {h M D S j : Nat} {K : Nat → Int32} {L m x : Int32} (U : hoU9 κ h S) (hx : x = hs9 S K L j) (hw : hkW9 κ h S K L j) (z0 : zA κ (zR κ hoTable h) x.toNatClampNeg = 0) (hf : m.toInt ≤ (zI κ hoTotal h).toInt ∨ (M : Int) ≤ (zI κ hoTotal h).toInt ∨ (D : Int) < L.toInt) : enP9 κ κ h M D S K L m (-1) := by
  refine ⟨U, fun _ _ _ H => H, fun y => absurd y (by decide), fun g H => ?_, fun _ => hf, fun _ _ _ => rfl⟩
  exfalso
  obtain ⟨H1, j', H2, H3, H4⟩ := H
  by_cases y : j < j'
  · exact (H3 j y).1 (by rw [← hx]; exact z0)
  · by_cases w : j' < j
    · have q := (hw j' w).2
      rw [H4, show ((g : Int) + 1 - 1).toNat = g by omega] at q
      exact q H1
    · have q : j' = j := by omega
      rw [q, ← hx, z0, t0i] at H4
      omega
theorem Ho_enter_c2 {C : zC} {n0 : Nat} {a0 : Nat} {a1 : Nat} {a2 : Int32} {a3 : Int32} {κ : zS} {Q : Int32 → zS → Prop} (W : zW C n0 κ) (Ta0 : zT κ a0 = 6) (Ta1 : zT κ a1 = 20) (M D S : Nat) (hp : hoI κ a0 M D S ∧ hoP M D S ∧ 0 ≤ a2.toInt ∧ hoA κ a0 M D S ∧ hoU9 κ a0 S ∧ a2.toInt ≤ zN κ a1) (h : ∀ (v : Int32) (κ' : zS), ((zF (hoF a0) κ κ' ∧ hoI κ' a0 M D S ∧ hoA κ' a0 M D S ∧ -1 ≤ v.toInt ∧ v.toInt < (zI κ' hoTotal a0).toInt ∧ enS κ κ' a0 a2 a3 v) ∧ enP9 κ κ' a0 M D S (zA κ a1) a2 a3 v) → Q v κ') : zRun C 2 mHo_enter [.ref a0, .ref a1, .int a2, .int a3] κ (oI Q noX) := by
  refine Ho_enter_run W Ta0 Ta1 ?_
  replace W := W.lo (Nat.le_trans W.1.2.1 W.1.2.2) (Nat.le_refl (zn κ))
  unfold w_Ho_enter_0
  obtain ⟨H, P, h2, A, U, c2⟩ := hp
  have B := hoP_b P
  have nN := W.n Ta1
  have pN := W.n (ty_hoPool W Ta0)
  have b0 := H.2.1.1
  have b1 := H.2.1.2
  have tl : zN κ (zR κ hoTable a0) = S := A.1
  have hj125 : ∀ (l0 : Nat) (l1 : Nat) (l2 : Int32) (l4 : Int32) (l5 : Int32) (τ : zS), zW C (zn κ) τ → zT τ l0 = 6 → zT τ l1 = 20 → (a0 = l0 ∧ a1 = l1 ∧ a2 = l2 ∧ enJ κ τ a0 a1 M D S a2 a3 l4 l5 ∧ (∀ i : Nat, (i : Int) < l5.toInt → zA τ (zR τ hoPool a0) i = zA κ (zR κ hoPool a0) i) ∧ zA τ a1 = zA κ a1 ∧ zA κ (zR κ hoTable a0) l4.toNatClampNeg = 0 ∧ ∃ j, j < S ∧ l4 = hs9 S (zA κ a1) a2 j ∧ hkW9 κ a0 S (zA κ a1) a2 j) → w_Ho_enter_125 C (zn κ) Q  l0 l1 l2 l4 l5 τ := by
    rintro _ _ _ y125_4 y125_5 τ125 W125 T125_0 T125_1 ⟨rfl, rfl, rfl, j125⟩
    unfold w_Ho_enter_125
    obtain ⟨J, Jp, J1, Jz, j9, jj, jx, jw⟩ := j125
    have J' := J
    obtain ⟨⟨j0, j1⟩, A, ⟨jM, j3, jD, jn⟩, jl, F, jI, ⟨jS, jT⟩, ⟨aS, aT⟩, jp1, jp2, jp3⟩ := J'
    have l0 : 0 ≤ y125_5.toInt := by rw [jl]; exact hoA_0 A (Nat.le_refl _)
    have k5 := cnk l0
    have k2 := cnk h2
    have lS : zN τ125 (zR κ hoStarts a0) = zN κ (zR κ hoStarts a0) := F.l (ty_hoStarts W Ta0)
    have lT : zN τ125 (zR κ hoTable a0) = zN κ (zR κ hoTable a0) := F.l (ty_hoTable W Ta0)
    have l1 : zN τ125 a1 = zN κ a1 := F.l Ta1
    refine ⟨?_, ?_⟩
    · refine ⟨by decide, by rw [lei, t0i]; exact l0, by rw [lei, t0i]; exact h2, ?_, ?_⟩
      · rw [l1]
        show 0 + a2.toNatClampNeg ≤ _
        omega
      · omega
    intro κ_1 hκ_1
    intro W2
    intro κ_3 hκ_3
    intro W4
    have i3 : zI κ_3 hoTotal a0 = zI κ hoTotal a0 + 1 := by
      rw [hκ_3]
      refine (if_pos ⟨rfl, rfl⟩).trans ?_
      rw [hκ_1]
      show zI τ125 hoTotal a0 + 1 = _
      rw [jI]
    have t3 : (zI κ_3 hoTotal a0).toInt = (zI κ hoTotal a0).toInt + 1 := by rw [i3, add_i (by rw [t1i]; omega) (by rw [t1i]; omega), t1i]
    have r3 : zR κ_3 = zR τ125 := by rw [hκ_3, hκ_1]; rfl
    have m3 : zN κ_3 = zN τ125 := by rw [hκ_3, hκ_1]; rfl
    refine ⟨?_, ?_⟩
    · rw [inb_iff, t3, r3, m3, jS, lS, show zN κ (zR κ hoStarts a0) = M + 1 from A.2.1]; omega  -- b2
    intro κ_5 hκ_5
    intro W6
    refine ⟨?_, ?_⟩
    · have r5 : zR κ_5 = zR τ125 := by rw [hκ_5]; exact r3
      have m5 : zN κ_5 = zN τ125 := by rw [hκ_5]; exact m3
      rw [inb_iff, r5, m5, jT, lT, show zN κ (zR κ hoTable a0) = S from A.1]; exact ⟨j0, j1⟩
    intro κ_7 hκ_7
    intro W8
    refine h _ _ ?_
    · have Q := en_q W Ta0 W125 H P h2 J hκ_1 hκ_3 hκ_5 hκ_7
      have Tt : zT τ125 a0 = 6 := T125_0
      have nSP : zR τ125 hoStarts a0 ≠ zR τ125 hoPool a0 := ow_ne W125 (by decide +kernel : zr hoStarts = some 20) (by decide) Tt (by decide +kernel : zr hoPool = some 20) (by decide) Tt (by decide)
      have nTP : zR τ125 hoTable a0 ≠ zR τ125 hoPool a0 := ow_ne W125 (by decide +kernel : zr hoTable = some 20) (by decide) Tt (by decide +kernel : zr hoPool = some 20) (by decide) Tt (by decide)
      have nST : zR τ125 hoStarts a0 ≠ zR τ125 hoTable a0 := ow_ne W125 (by decide +kernel : zr hoStarts = some 20) (by decide) Tt (by decide +kernel : zr hoTable = some 20) (by decide) Tt (by decide)
      have r5 : zR κ_5 = zR τ125 := by rw [hκ_5]; exact r3
      have r7 : zR κ_7 = zR τ125 := by rw [hκ_7]; exact r5
      have i7 : zI κ_7 = zI κ_3 := by rw [hκ_7, hκ_5]; rfl
      have i5 : zI κ_5 = zI κ_3 := by rw [hκ_5]; rfl
      have x1 : zA κ_1 (zR τ125 hoPool a0) = va_cpy (zA τ125 a1) (zA τ125 (zR τ125 hoPool a0)) 0 y125_5.toNatClampNeg a2.toNatClampNeg := by rw [hκ_1]; exact if_pos rfl
      have x3 : zA κ_3 = zA κ_1 := by rw [hκ_3]; rfl
      have x7p : zA κ_7 (zR τ125 hoPool a0) = va_cpy (zA τ125 a1) (zA τ125 (zR τ125 hoPool a0)) 0 y125_5.toNatClampNeg a2.toNatClampNeg := by
        rw [hκ_7, r5]
        refine (if_neg (Ne.symm nTP)).trans ?_
        rw [hκ_5, r3]
        refine (if_neg (Ne.symm nSP)).trans ?_
        show zA κ_3 (zR τ125 hoPool a0) = _
        rw [x3, x1]
      have x5t : zA κ_5 (zR τ125 hoTable a0) = zA κ (zR κ hoTable a0) := by
        rw [hκ_5, r3]
        refine (if_neg (Ne.symm nST)).trans ?_
        show zA κ_3 (zR τ125 hoTable a0) = _
        rw [x3, hκ_1]
        refine (if_neg nTP).trans ?_
        show zA τ125 (zR τ125 hoTable a0) = _
        rw [jT]
        exact aT
      have x7t : zA κ_7 (zR τ125 hoTable a0) = upd (zA κ (zR κ hoTable a0)) y125_4.toNatClampNeg (zI κ_3 hoTotal a0) := by
        rw [hκ_7, r5, i5]
        refine (if_pos rfl).trans ?_
        show upd (zA κ_5 (zR τ125 hoTable a0)) _ _ = _
        rw [x5t]
      have A7 : hoA κ_7 a0 M D S := hoI_A Q.2.1 (Or.inl (by rw [i7]; omega))
      refine ⟨⟨Q.1, Q.2.1, A7, Q.2.2⟩, ?_⟩
      rcases Q.2.2.2.2 with z | z
      · exfalso
        rw [z] at i7
        have q := congrArg (fun f => (f hoTotal a0).toInt) i7
        omega
      · refine en_f9 (l5 := y125_5) (x := y125_4) A P U b0 jj jx jw Jz h2 jl z.1 (by omega) z.2.1 z.2.2.2.1 (by rw [z.2.2.2.2, jl]) (fun i hi => ?_) (fun i hi => ?_) (fun i => ?_)
        · rw [r7, x7p]
          unfold va_cpy
          rw [if_neg (by omega)]
          exact Jp i hi
        · rw [r7, x7p, ← J1]
          unfold va_cpy
          rw [if_pos (by omega)]
          congr 1
          omega
        · rw [r7, x7t, i7]
          rfl
  refine ⟨fun c9 => ?_, fun c9 => ?_⟩
  · skip
    refine h _ _ ?_
    · exfalso
      have e := congrArg Int32.toInt c9
      rw [tl, ofn_i (by omega), t0i] at e
      omega
  · skip
    refine ⟨fun c10 => ?_, fun c10 => ?_⟩
    · skip
      intro T11
      intro T12
      refine Ho_slotOf_c2 W T11 T12 M D S ?_ (fun r13 q15 => ?_)
      · exact ⟨A, P, b0, b1, H.2.2.1.2, c2, U, h2⟩  -- p6
      intro W16
      intro M17
      obtain ⟨qr9, j9, jj, jx, jw, jz⟩ := q15
      refine ⟨?_, ?_⟩
      · rw [inb_iff, tl]; exact qr9  -- b7
      refine ⟨fun c18 => ?_, fun c18 => ?_⟩
      · skip
        refine ⟨fun c19 => ?_, fun c19 => ?_⟩
        · skip
          refine h _ _ ?_
          · rw [lei] at c19
            exact ⟨⟨zF.rf, H, A, by decide, by rw [tmi]; omega, Or.inl rfl⟩, en_n9 U jx jw c18 (Or.inl c19)⟩
        · skip
          refine ⟨fun c20 => ?_, fun c20 => ?_⟩
          · skip
            refine h _ _ ?_
            · rw [lei, H.1.1] at c20
              exact ⟨⟨zF.rf, H, A, by decide, by rw [tmi]; omega, Or.inl rfl⟩, en_n9 U jx jw c18 (Or.inr (Or.inl c20))⟩
          · skip
            have d1 : (zI κ hoTotal a0).toInt < a3.toInt := by rw [lei] at c19; omega
            have d2 : (zI κ hoTotal a0).toInt < M := by rw [lei, H.1.1] at c20; omega
            have kt := cnk b0
            have kn : (zI κ hoTotal a0).toNatClampNeg = ((zI κ hoTotal a0).toInt).toNat := rfl
            refine ⟨fun c21 => ?_, fun c21 => ?_⟩
            · skip
              refine ⟨?_, ?_⟩
              · rw [inb_iff, show zN κ (zR κ hoStarts a0) = M + 1 from A.2.1]; omega  -- b10
              intro x22 hx22
              rw [kn] at hx22
              have d3 : a2.toInt ≤ D := by rw [lei, H.1.2.1] at c21; exact c21
              have f0 := hoA_0 A (Nat.le_refl ((zI κ hoTotal a0).toInt).toNat)
              have f1 : (zA κ (zR κ hoStarts a0) (((zI κ hoTotal a0).toInt).toNat)).toInt ≤ (((zI κ hoTotal a0).toInt).toNat : Int) * D := hoA_D A _ (Nat.le_refl _)
              have f2 := A.2.2.2.2.1
              have f3 := H.2.2.1
              have ex : x22.toInt = (zA κ (zR κ hoStarts a0) (((zI κ hoTotal a0).toInt).toNat)).toInt := by rw [hx22]
              have ea : (x22 + a2).toInt = x22.toInt + a2.toInt := add_i (by omega) (by omega)
              refine ⟨fun c23 => ?_, fun c23 => ?_⟩
              · skip
                refine hj125 _ _ _ _ _ _ W16 ?_ ?_ ?_
                · exact Ta0  -- t11
                · exact Ta1  -- t12
                · rw [lei, ea, ofn_i pN] at c23
                  exact ⟨rfl, rfl, rfl, ⟨qr9, A, ⟨d2, d1, d3, c2⟩, ex, zF.rf, rfl, ⟨rfl, rfl⟩, ⟨rfl, rfl⟩, c23, f3.1, f3.2⟩, fun _ _ => rfl, rfl, c18, j9, jj, jx, jw⟩
              · skip
                intro T24
                have c24 : (zN κ (zR κ hoPool a0) : Int) < x22.toInt + a2.toInt := by rw [lei, ea, ofn_i pN] at c23; omega
                have md : (zI κ hoMost a0 * zI κ hoWidest a0).toInt = (M : Int) * D := by rw [mul_i (by rw [H.1.1, H.1.2.1]; omega) (by rw [H.1.1, H.1.2.1]; omega), H.1.1, H.1.2.1]
                have mu : ((x22 + a2) * 2).toInt = (x22.toInt + a2.toInt) * 2 := by rw [mul_i (by rw [ea, t2i]; omega) (by rw [ea, t2i]; omega), ea, t2i]
                have up : x22.toInt + a2.toInt ≤ (M : Int) * D := by
                  have g : ((((zI κ hoTotal a0).toInt).toNat + 1 : Nat) : Int) * D ≤ (M : Int) * D := Int.mul_le_mul_of_nonneg_right (by omega) (Int.natCast_nonneg D)
                  have g2 : ((((zI κ hoTotal a0).toInt).toNat + 1 : Nat) : Int) * D = (((zI κ hoTotal a0).toInt).toNat : Int) * D + D := by rw [Int.natCast_add]; simp [Int.add_mul]
                  omega
                obtain ⟨nn, hnn⟩ : ∃ nn, nn = (if zI κ hoMost a0 * zI κ hoWidest a0 < (x22 + a2) * 2 then zI κ hoMost a0 * zI κ hoWidest a0 else (x22 + a2) * 2) := ⟨_, rfl⟩
                rw [← hnn]
                have nt : x22.toInt + a2.toInt ≤ nn.toInt ∧ nn.toInt ≤ (M : Int) * D ∧ (nn.toInt = (M : Int) * D ∨ nn.toInt = (x22.toInt + a2.toInt) * 2) := by
                  rw [hnn]
                  by_cases z : zI κ hoMost a0 * zI κ hoWidest a0 < (x22 + a2) * 2
                  · rw [if_pos z, md]; exact ⟨up, Int.le_refl _, Or.inl rfl⟩
                  · rw [if_neg z, mu]
                    rw [lti, md, mu] at z
                    exact ⟨by omega, by omega, Or.inr rfl⟩
                have kn9 := cnk (x := nn) (by omega)
                refine Ar_copyOf_c W16 T24  ?_ (fun r25 κ_26 q27 => ?_)
                · exact ⟨⟨by rw [lei, t0i]; omega, by omega⟩, fun e => by
                    have e9 := congrArg Int32.toInt e
                    rw [ofn_i pN] at e9
                    omega⟩
                intro W28
                intro M29
                intro T30
                refine ⟨?_, ?_⟩
                · rw [q27.1]; exact q27.2.2.1  -- b15
                intro κ_31 hκ_31
                intro W32
                have h9 : κ_31 = uo κ_26 hoPool a0 (zn κ) := by rw [hκ_31, q27.1]
                have hw := wS_pool (n := nn.toNatClampNeg) (o := zN κ (zR κ hoPool a0)) (by omega) (by omega) (by
                  rcases nt.2.2 with z | z
                  · left
                    have z2 : (nn.toNatClampNeg : Int) = (M * D : Nat) := by rw [kn9, z]; simp
                    have z3 : nn.toNatClampNeg = M * D := by omega
                    rw [z3]
                    rcases P with ⟨rfl, rfl, rfl⟩ | ⟨rfl, rfl, rfl⟩ | ⟨rfl, rfl, rfl⟩
                    · exact Or.inl rfl
                    · exact Or.inr (Or.inl rfl)
                    · exact Or.inr (Or.inr rfl)
                  · right; omega)
                have F9 : zF (hoF a0) κ κ_31 := zF_uo (t := 20) (n := nn.toNatClampNeg) (f := hoPool) (q := 20) W (by decide +kernel) (by decide) Ta0 (by decide) ⟨rfl, Or.inr (Or.inr (Or.inl rfl))⟩ q27.2.1 h9 hw.1 hw.2
                have gc := q27.2.2.2.1
                obtain ⟨g1, g2, g3, g4, g5, -⟩ := q27.2.1
                have rp : zR κ_31 hoPool a0 = zn κ := by rw [h9]; exact if_pos ⟨rfl, rfl⟩
                have gp : zN κ_31 (zR κ_31 hoPool a0) = nn.toNatClampNeg := by
                  rw [rp, h9]
                  show zN κ_26 (zn κ) = _
                  rw [g2]; exact if_pos rfl
                refine hj125 _ _ _ _ _ _ W32 ?_ ?_ ?_
                · exact F9.t Ta0 (by decide)  -- t16
                · exact F9.t Ta1 (by decide)  -- t17
                · refine ⟨rfl, rfl, rfl, ⟨qr9, A, ⟨d2, d1, d3, c2⟩, ex, F9, by rw [h9]; exact g3, ⟨?_, ?_⟩, ⟨?_, ?_⟩, ?_, ?_, ?_⟩, fun i hi => ?_, ?_, c18, j9, jj, jx, jw⟩
                  · rw [h9]; exact (uo_ne (by decide)).trans (by rw [g4])
                  · rw [h9]; exact (uo_ne (by decide)).trans (by rw [g4])
                  · rw [h9]; exact (g5 _ (W.nw (ty_hoStarts W Ta0))).1
                  · rw [h9]; exact (g5 _ (W.nw (ty_hoTable W Ta0))).1
                  · rw [gp]; omega
                  · rw [gp]; omega
                  · rw [gp]; omega
                  · rw [rp, h9]
                    show zA κ_26 (zn κ) i = _
                    have f9 : (zA κ (zR κ hoStarts a0) (((zI κ hoTotal a0).toInt).toNat)).toInt ≤ zN κ (zR κ hoPool a0) := f2
                    exact gc i (by omega) (by omega)
                  · rw [h9]; exact (g5 _ (W.nw Ta1)).1
            · skip
              refine h _ _ ?_
              · rw [lei, H.1.2.1] at c21
                exact ⟨⟨zF.rf, H, A, by decide, by rw [tmi]; omega, Or.inl rfl⟩, en_n9 U jx jw c18 (Or.inr (Or.inr (by omega)))⟩
      · skip
        refine ⟨?_, ?_⟩
        · rw [inb_iff, tl]; exact qr9  -- b20
        refine h _ _ ?_
        · have z := A.2.2.2.2.2 r13.toNatClampNeg (by have := cnk qr9.1; omega)
          have e : (zA κ (zR κ hoTable a0) r13.toNatClampNeg - 1).toInt = (zA κ (zR κ hoTable a0) r13.toNatClampNeg).toInt - 1 := by rw [sub_i (by rw [t1i]; omega) (by rw [t1i]; omega), t1i]
          have nz9 : (zA κ (zR κ hoTable a0) r13.toNatClampNeg).toInt ≠ 0 := fun y => c18 (Int32.toInt_inj.mp y)
          refine ⟨⟨zF.rf, H, A, by rw [e]; omega, by rw [e]; omega, Or.inl rfl⟩, en_o9 U jj jx jw (by rw [e]; omega) (by rw [e]; omega) ?_⟩
          rcases jz with y | y
          · exact absurd y c18
          · exact y
    · skip
      refine h _ _ ?_
      · exfalso
        rw [lei, ofn_i nN] at c10
        omega

end
section
set_option maxHeartbeats 1600000
/-! the class: what Odds reads, and its frames -/
/-- a frame that leaves atlas, code and all hoards but one alone -/
def frO9 (m g : Nat) (F : Nat → Nat → Prop) : Prop := ∀ f b, F f b → m ≤ b ∨ f / 100 = 8 ∨ f / 100 = 11 ∨ f / 100 = 4 ∨ f / 100 = 12 ∨ f / 100 = 9 ∨ f = 0 ∨ (f / 100 = 6 ∧ b = g)
theorem frO9_n {C : zC} {n0 f b c g : Nat} {F : Nat → Nat → Prop} {κ : zS} (W : zW C n0 κ) (H : frO9 (zn κ) g F) (T : zT κ b = c + 1) (hf : f / 100 ≠ 8 ∧ f / 100 ≠ 11 ∧ f / 100 ≠ 4 ∧ f / 100 ≠ 12 ∧ f / 100 ≠ 9 ∧ f ≠ 0) (hb : f / 100 ≠ 6 ∨ b ≠ g) : ¬ F f b := fun z => by
  have l := (W.2.1 b (by omega)).2
  rcases H f b z with h | h | h | h | h | h | h | h
  · omega
  · exact hf.1 h
  · exact hf.2.1 h
  · exact hf.2.2.1 h
  · exact hf.2.2.2.1 h
  · exact hf.2.2.2.2.1 h
  · exact hf.2.2.2.2.2 h
  · rcases hb with y | y
    · exact y h.1
    · exact y h.2
theorem frO9_w {C : zC} {n0 f b t g : Nat} {F : Nat → Nat → Prop} {κ τ : zS} (W : zW C n0 κ) (H : frO9 (zn κ) g F) (Z : zF F κ τ) (hr : zr f = some t) (ht : 20 ≤ t) (T : zT κ b = f / 100) (hf : f / 100 ≠ 8 ∧ f / 100 ≠ 11 ∧ f / 100 ≠ 4 ∧ f / 100 ≠ 12 ∧ f / 100 ≠ 9 ∧ f ≠ 0) (hb : f / 100 ≠ 6 ∨ b ≠ g) (h0 : f / 100 ≠ 0) : zR τ f b = zR κ f b ∧ zA τ (zR τ f b) = zA κ (zR κ f b) ∧ zN τ (zR τ f b) = zN κ (zR κ f b) := by
  have T9 : zT κ b = (f / 100 - 1) + 1 := by omega
  have n := frO9_n W H T9 hf hb
  have ty := W.r hr T
  have t1 : zT κ (zR κ f b) = (t - 1) + 1 := by omega
  refine ⟨Z.r n, (Z.row W hr ht T n).1, ?_⟩
  rw [Z.r n]
  exact Z.l t1
theorem at_o9 {C : zC} {n0 b f g : Nat} {F : Nat → Nat → Prop} {κ τ : zS} (W : zW C n0 κ) (H : frO9 (zn κ) g F) (Z : zF F κ τ) (Tb : zT κ b = 3) (hf : f ∈ atRf) : zR τ f b = zR κ f b ∧ zA τ (zR τ f b) = zA κ (zR κ f b) ∧ zN τ (zR τ f b) = zN κ (zR κ f b) := by
  obtain ⟨⟨t, h1, h2⟩, h3⟩ := atRf_r f hf
  refine frO9_w W H Z h1 h2 (Tb.trans h3.symm) ⟨by omega, by omega, by omega, by omega, by omega, by omega⟩ (Or.inl (by omega)) (by omega)
theorem atW_o9 {C : zC} {n0 b n g : Nat} {F : Nat → Nat → Prop} {κ τ : zS} (W : zW C n0 κ) (H : frO9 (zn κ) g F) (Z : zF F κ τ) (Tb : zT κ b = 3) (hs : zR κ atStates b ≠ g) (he : zR κ atEndings b ≠ g) (A : atW κ b n) : atW τ b n := by
  have ts := ty_atStates W Tb
  have te := ty_atEndings W Tb
  have g := fun f hf => at_o9 W H Z Tb (f := f) hf
  obtain ⟨A1, A2, A3, A4, A5, A6⟩ := A
  have rs : zR τ atStates b = zR κ atStates b := Z.r (frO9_n W H Tb (by decide) (Or.inl (by decide)))
  have re : zR τ atEndings b = zR κ atEndings b := Z.r (frO9_n W H Tb (by decide) (Or.inl (by decide)))
  have is : zI τ hoTotal (zR κ atStates b) = zI κ hoTotal (zR κ atStates b) := Z.i (frO9_n W H ts (by decide) (Or.inr hs))
  have ie : zI τ hoTotal (zR κ atEndings b) = zI κ hoTotal (zR κ atEndings b) := Z.i (frO9_n W H te (by decide) (Or.inr he))
  have ix : zI τ atNexts b = zI κ atNexts b := Z.i (frO9_n W H Tb (by decide) (Or.inl (by decide)))
  refine ⟨?_, ?_, A3, ?_, ?_, fun k hk => ?_⟩
  · unfold atM
    rw [(g atFirsts (by decide)).2.2, (g atTotals (by decide)).2.2, (g atGains (by decide)).2.2, (g atPlan (by decide)).2.2, (g atChooses (by decide)).2.2, (g atHopeless (by decide)).2.2]
    exact A1
  · unfold atL
    rw [(g atSorts (by decide)).2.2, (g atNumbers (by decide)).2.2, (g atWeights (by decide)).2.2]
    exact A2
  · rw [rs, is]; exact A4
  · rw [ix, (g atNumbers (by decide)).2.2]; exact A5
  · unfold exK
    rw [rs, re, is, ie, ix, (g atFirsts (by decide)).2.1, (g atTotals (by decide)).2.1, (g atChooses (by decide)).2.1, (g atSorts (by decide)).2.1, (g atNumbers (by decide)).2.1, (g atWeights (by decide)).2.1]
    exact A6 k hk
theorem ho_o9 {C : zC} {n0 h M D S g : Nat} {F : Nat → Nat → Prop} {κ τ : zS} (W : zW C n0 κ) (H : frO9 (zn κ) g F) (Z : zF F κ τ) (T : zT κ h = 6) (hg : h ≠ g) : (hoI κ h M D S → hoI τ h M D S) ∧ pV9 τ h = pV9 κ h ∧ zI τ hoTotal h = zI κ hoTotal h := by
  have n : ∀ f, f / 100 = 6 → ¬ F f h := fun f hf => frO9_n W H T ⟨by omega, by omega, by omega, by omega, by omega, by omega⟩ (Or.inr hg)
  have q : ∀ f, f = hoStarts ∨ f = hoTable ∨ f = hoPool → zR τ f h = zR κ f h ∧ zA τ (zR κ f h) = zA κ (zR κ f h) ∧ zN τ (zR κ f h) = zN κ (zR κ f h) := fun f hf => by
    have q : zr f = some 20 ∧ f / 100 = 6 := by rcases hf with rfl | rfl | rfl <;> decide +kernel
    have w := frO9_w W H Z q.1 (by decide) (T.trans q.2.symm) ⟨by omega, by omega, by omega, by omega, by omega, by omega⟩ (Or.inr hg) (by omega)
    have w2 := w.2
    rw [w.1] at w2
    exact ⟨w.1, w2⟩
  have t : zI τ hoTotal h = zI κ hoTotal h := Z.i (n hoTotal (by decide))
  refine ⟨fun I => hoI_f I (fun f hf => Z.i (n f hf)) q, ?_, t⟩
  funext k i
  have s := q hoStarts (Or.inl rfl)
  have p := q hoPool (Or.inr (Or.inr rfl))
  unfold pV9
  rw [t, s.1, p.1, s.2.1, p.2.1]
theorem co_o9 {C : zC} {n0 c g : Nat} {F : Nat → Nat → Prop} {κ τ : zS} (W : zW C n0 κ) (H : frO9 (zn κ) g F) (Z : zF F κ τ) (T : zT κ c = 5) (I : coI κ c) : coI τ c := by
  have n : ∀ f, f / 100 = 5 → ¬ F f c := fun f hf => frO9_n W H T ⟨by omega, by omega, by omega, by omega, by omega, by omega⟩ (Or.inl (by omega))
  have i5 : ∀ f, f ∈ coIf → f / 100 = 5 := by decide
  refine coI_g I (fun f hf => Z.i (n f (i5 f hf))) (fun f hf => Z.r (n f (coRf_r f hf).2)) (fun f hf => Z.l (coRf_t W T hf)) (fun f hf => ?_)
  have m : f ∈ coRf := by rcases hf with rfl | rfl <;> decide
  have r := (Z.row W (coRf_r f m).1 (by decide) (T.trans (coRf_r f m).2.symm) (n f (coRf_r f m).2)).1
  rw [Z.r (n f (coRf_r f m).2)] at r
  exact r
theorem soF_o9 {ρ : Nat → Nat} {R : Nat → Prop} {ca m g : Nat} : frO9 m g (soF ρ R ca) := fun f b z => by
  rcases z with ⟨_, z | z | z⟩ | ⟨_, z | z | z | z⟩
  · rw [z]; exact Or.inr (Or.inl (by decide))
  · rw [z]; exact Or.inr (Or.inl (by decide))
  · rw [z]; exact Or.inr (Or.inr (Or.inl (by decide)))
  · rw [z]; exact Or.inr (Or.inr (Or.inr (Or.inl (by decide))))
  · rw [z]; exact Or.inr (Or.inr (Or.inr (Or.inl (by decide))))
  · rw [z]; exact Or.inr (Or.inr (Or.inr (Or.inl (by decide))))
  · rw [z]; exact Or.inr (Or.inr (Or.inr (Or.inl (by decide))))
/-- the last number of the first ending is not below 0 -/
def enZ9 (κ : zS) (b : Nat) : Prop := ∀ i : Int32, i.toInt = (zI κ coVars (zR κ atCode b)).toInt + (zI κ coCells (zR κ atCode b)).toInt → 0 ≤ (pV9 κ (zR κ atEndings b) 0 i).toInt
theorem enZ_o9 {C : zC} {n0 b g : Nat} {F : Nat → Nat → Prop} {κ τ : zS} (W : zW C n0 κ) (H : frO9 (zn κ) g F) (Z : zF F κ τ) (Tb : zT κ b = 3) (he : zR κ atEndings b ≠ g) (E : enZ9 κ b) : enZ9 τ b := by
  have tc := ty_atCode W Tb
  have te := ty_atEndings W Tb
  have r1 : zR τ atCode b = zR κ atCode b := Z.r (frO9_n W H Tb (by decide) (Or.inl (by decide)))
  have r2 : zR τ atEndings b = zR κ atEndings b := Z.r (frO9_n W H Tb (by decide) (Or.inl (by decide)))
  have i1 : zI τ coVars (zR κ atCode b) = zI κ coVars (zR κ atCode b) := Z.i (frO9_n W H tc (by decide) (Or.inl (by decide)))
  have i2 : zI τ coCells (zR κ atCode b) = zI κ coCells (zR κ atCode b) := Z.i (frO9_n W H tc (by decide) (Or.inl (by decide)))
  have p := (ho_o9 (M := 0) (D := 0) (S := 0) W H Z te he).2.1
  intro i hi
  rw [r1, i1, i2] at hi
  rw [r2, p]
  exact E i hi
/-- what Odds reads -/
def odX9 (ρ : Nat → Nat) (κ : zS) (a n P : Nat) : Prop := (zR κ soAtlas (zR κ odSolver a) = zR κ odAtlas a ∧ zR κ soCalc (zR κ odSolver a) = zR κ odCalc a) ∧ ρ (zR κ odHeld a) = 15 ∧ (atW κ (zR κ odAtlas a) n ∧ n ≤ (zN κ (zR κ soVisits (zR κ odSolver a)))) ∧ vsI9 ρ κ (zR κ odSolver a) n P ∧ (coI κ (zR κ atCode (zR κ odAtlas a)) ∧ (n = 0 → enZ9 κ (zR κ odAtlas a))) ∧ hoI κ (zR κ atEndings (zR κ odAtlas a)) 1000 35 2048
theorem odX9_f {C : zC} {n0 a n P ca : Nat} {ρ : Nat → Nat} {R : Nat → Prop} {κ τ : zS} (W : zW C n0 κ) (Ta : zT κ a = 9) (N : nmI ρ κ) (Z : zF (soF ρ R ca) κ τ) (hR : ∀ r, 100 ≤ r → ¬ R r) (X : odX9 ρ κ a n P) : odX9 ρ τ a n P ∧ (∀ f, f / 100 = 9 ∨ f / 100 = 12 → ∀ b, zR τ f b = zR κ f b) ∧ zI τ hoTotal (zR κ atStates (zR κ odAtlas a)) = zI κ hoTotal (zR κ atStates (zR κ odAtlas a)) ∧ zR τ atStates = zR κ atStates := by
  have e : ∀ f, f / 100 = 9 ∨ f / 100 = 12 ∨ f / 100 = 3 → ∀ b, zR τ f b = zR κ f b := fun f hf b => (soF_r9 Z ⟨fun y => by rw [y] at hf; revert hf; decide, fun y => by rw [y] at hf; revert hf; decide, fun y => by rw [y] at hf; revert hf; decide, fun y => by rw [y] at hf; revert hf; decide, fun y => by rw [y] at hf; revert hf; decide, fun y => by rw [y] at hf; revert hf; decide, fun y => by rw [y] at hf; revert hf; decide⟩).1
  have ts := ty_odSolver W Ta
  have tA := ty_odAtlas W Ta
  have tc := ty_atCode W tA
  have te := ty_atEndings W tA
  have t6 := ty_atStates W tA
  obtain ⟨⟨x1, x2⟩, x3, ⟨x4, x5⟩, x6, ⟨x7, x9⟩, x8⟩ := X
  have en0 : zR κ atEndings (zR κ odAtlas a) ≠ 0 := by
    have l := (W.2.1 _ (show zT κ (zR κ atEndings (zR κ odAtlas a)) ≠ 0 by rw [te]; decide)).1.1
    have p := W.1.1.1
    omega
  have nv := frS9_w (f := soVisits) W soF_fr Z (t := 25) (by decide +kernel) (by decide) ts (by decide) (by decide)
  refine ⟨⟨⟨?_, ?_⟩, ?_, ⟨?_, ?_⟩, ?_, ⟨?_, fun hn => ?_⟩, ?_⟩, fun f hf b => e f (by omega) b, ?_, ?_⟩
  · rw [e odSolver (by decide), e soAtlas (by decide), e odAtlas (by decide)]; exact x1
  · rw [e odSolver (by decide), e soCalc (by decide), e odCalc (by decide)]; exact x2
  · rw [e odHeld (by decide)]; exact x3
  · rw [e odAtlas (by decide)]; exact atW_f9 W soF_fr Z tA x4
  · rw [e odSolver (by decide), nv.2.2]; exact x5
  · rw [e odSolver (by decide)]; exact vsI9_f W ts N Z x4.2.2.1 hR x6
  · rw [e odAtlas (by decide), e atCode (by decide)]
    exact co_o9 (g := 0) W soF_o9 Z tc x7
  · rw [e odAtlas (by decide)]
    exact enZ_o9 (g := 0) W soF_o9 Z tA en0 (x9 hn)
  · rw [e odAtlas (by decide), e atEndings (by decide)]
    exact (ho_o9 (g := 0) W soF_o9 Z te en0).1 x8
  · refine (ho_o9 (M := 0) (D := 0) (S := 0) (g := 0) W soF_o9 Z t6 ?_).2.2
    have l := (W.2.1 _ (show zT κ (zR κ atStates (zR κ odAtlas a)) ≠ 0 by rw [t6]; decide)).1.1
    have p := W.1.1.1
    omega
  · funext b
    exact e atStates (by decide) b
theorem wSm_r9 {Wt : Nat → Int32} {lo x hi : Int} (h0 : 0 ≤ lo) (h : x ≤ hi) (p : ∀ i : Nat, lo ≤ (i : Int) → (i : Int) < hi → 0 ≤ (Wt i).toInt) : wSm Wt lo x ≤ wSm Wt lo hi := by
  have e1 := wSm_eq (Wt := Wt) (Wt' := fun i => if lo ≤ (i : Int) ∧ (i : Int) < hi then Wt i else 0) (lo := lo) (hi := x) h0 (fun j a b => if_pos ⟨a, by omega⟩)
  have e2 := wSm_eq (Wt := Wt) (Wt' := fun i => if lo ≤ (i : Int) ∧ (i : Int) < hi then Wt i else 0) (lo := lo) (hi := hi) h0 (fun j a b => if_pos ⟨a, b⟩)
  rw [← e1, ← e2]
  refine wSm_mo (fun i => ?_) h
  by_cases z : lo ≤ (i : Int) ∧ (i : Int) < hi
  · rw [if_pos z]; exact p i z.1 z.2
  · rw [if_neg z]; decide
theorem sw_9 {s : Int64} {w : Int32} (h1 : -2147483648 ≤ s.toInt) (h2 : s.toInt < 2147483648) (w0 : 0 ≤ w.toInt) : (s * Int32.toInt64 w).toInt = s.toInt * w.toInt ∧ -2147483648 * w.toInt ≤ s.toInt * w.toInt ∧ s.toInt * w.toInt ≤ 2147483648 * w.toInt ∧ (0 ≤ s.toInt → 0 ≤ s.toInt * w.toInt) := by
  have e := Int32.toInt_toInt64 w
  have a := Int.mul_le_mul_of_nonneg_right h1 w0
  have b := Int.mul_le_mul_of_nonneg_right (Int.le_of_lt h2) w0
  have hw := ihi w
  refine ⟨?_, a, b, fun z => Int.mul_nonneg z w0⟩
  rw [jmul_i (by rw [e]; omega) (by rw [e]; omega), e]
theorem Od_lastOf_c {C : zC} {n0 : Nat} {a0 : Nat} {a1 : Int32} {κ : zS} {Q : Int32 → zS → Prop} (W : zW C n0 κ) (Ta0 : zT κ a0 = 9)  (hp : coI κ (zR κ atCode (zR κ odAtlas a0)) ∧ hoI κ (zR κ atEndings (zR κ odAtlas a0)) 1000 35 2048) (h : ∀ (v : Int32), (∃ i : Int32, i.toInt = (zI κ coVars (zR κ atCode (zR κ odAtlas a0))).toInt + (zI κ coCells (zR κ atCode (zR κ odAtlas a0))).toInt ∧ v = pV9 κ (zR κ atEndings (zR κ odAtlas a0)) a1 i) → Q v κ) : zRun C 2 mOd_lastOf [.ref a0, .int a1] κ (oI Q noX) := by
  refine Od_lastOf_run W Ta0 ?_
  replace W := W.lo (Nat.le_trans W.1.2.1 W.1.2.2) (Nat.le_refl (zn κ))
  unfold w_Od_lastOf_0
  obtain ⟨H1, H2⟩ := hp
  intro T1
  refine Co_shared_c W T1  ?_ (fun r2 q4 => ?_)
  · exact H1  -- p1
  intro W5
  intro M6
  intro T7
  refine Ho_part_c2 W5 T7 1000 35 2048 ?_ (fun r8 q10 => ?_)
  · exact ⟨H2, Or.inr (Or.inl ⟨rfl, rfl, rfl⟩)⟩  -- p2
  intro W11
  intro M12
  refine h _ ?_
  · exact ⟨r2, q4, q10⟩  -- q3

theorem Od_share_c {C : zC} {n0 : Nat} {a0 : Nat} {a1 : Int32} {a2 : Int32} {a3 : Int32} {a4 : Int32} {κ : zS} {Q : Int64 → zS → Prop} (W : zW C n0 κ) (Ta0 : zT κ a0 = 9)  (hp : coI κ (zR κ atCode (zR κ odAtlas a0)) ∧ hoI κ (zR κ atEndings (zR κ odAtlas a0)) 1000 35 2048) (h : ∀ (v : Int64), ((-2147483648 ≤ v.toInt ∧ v.toInt < 2147483648) ∧ (0 ≤ a1.toInt → a1.toInt ≤ 7 → 0 ≤ v.toInt ∧ v.toInt ≤ 1) ∧ (a4 = 0 → enZ9 κ (zR κ odAtlas a0) → 0 ≤ v.toInt)) → Q v κ) : zRun C 3 mOd_share [.ref a0, .int a1, .int a2, .int a3, .int a4] κ (oJ Q noX) := by
  refine Od_share_run W Ta0 ?_
  replace W := W.lo (Nat.le_trans W.1.2.1 W.1.2.2) (Nat.le_refl (zn κ))
  unfold w_Od_share_0
  have z0 : (-2147483648 ≤ (0 : Int64).toInt ∧ (0 : Int64).toInt < 2147483648) ∧ (0 ≤ a1.toInt → a1.toInt ≤ 7 → 0 ≤ (0 : Int64).toInt ∧ (0 : Int64).toInt ≤ 1) ∧ (a4 = 0 → enZ9 κ (zR κ odAtlas a0) → 0 ≤ (0 : Int64).toInt) := ⟨by decide, fun _ _ => by decide, fun _ _ => by decide⟩
  have z1 : (-2147483648 ≤ (1 : Int64).toInt ∧ (1 : Int64).toInt < 2147483648) ∧ (0 ≤ a1.toInt → a1.toInt ≤ 7 → 0 ≤ (1 : Int64).toInt ∧ (1 : Int64).toInt ≤ 1) ∧ (a4 = 0 → enZ9 κ (zR κ odAtlas a0) → 0 ≤ (1 : Int64).toInt) := ⟨by decide, fun _ _ => by decide, fun _ _ => by decide⟩
  have hj10 : ∀ (l0 : Nat) (l1 : Int32) (l2 : Int32) (l3 : Int32) (l4 : Int32) (s0 : Int32) (τ : zS), zW C (zn κ) τ → zT τ l0 = 9 → (κ = τ ∧ a0 = l0 ∧ a1 = l1 ∧ a2 = l2 ∧ a3 = l3 ∧ a4 = l4 ∧ True) → w_Od_share_10 C (zn κ) Q  l0 l1 l2 l3 l4 s0 τ := by
    rintro _ _ _ _ _ y10_s0 _ W10 T10_0 ⟨rfl, rfl, rfl, rfl, rfl, rfl, j10⟩
    unfold w_Od_share_10
    refine ⟨fun c1 => ?_, fun c1 => ?_, fun c1 => ?_, fun c1 => ?_, fun c1 => ?_, fun c1 => ?_, fun c1 => ?_, fun c1 => ?_, fun c1 => ?_⟩
    · skip
      refine ⟨fun c2 => ?_, fun c2 => ?_⟩
      · skip
        refine h _ ?_
        · first | exact z0 | exact z1  -- q1
      · skip
        intro T3
        refine Od_lastOf_c W10 T3  ?_ (fun r4 q6 => ?_)
        · exact hp  -- p2
        intro W7
        intro M8
        refine h _ ?_
        · have e := Int32.toInt_toInt64 r4
          have e1 := ilo r4
          have e2 := ihi r4
          refine ⟨⟨by omega, by omega⟩, fun g1 g2 => by omega, fun g1 g2 => ?_⟩
          obtain ⟨i, hi, hv⟩ := q6
          have q := g2 i hi
          rw [g1] at hv
          rw [e, hv]
          exact q
    · skip
      refine ⟨fun c9 => ?_, fun c9 => ?_⟩
      · skip
        refine h _ ?_
        · first | exact z0 | exact z1  -- q4
      · skip
        intro T10
        refine Od_lastOf_c W10 T10  ?_ (fun r11 q13 => ?_)
        · exact hp  -- p5
        intro W14
        intro M15
        refine ⟨fun c16 => ?_, fun c16 => ?_⟩
        · skip
          refine h _ ?_
          · first | exact z0 | exact z1  -- q6
        · skip
          refine h _ ?_
          · first | exact z0 | exact z1  -- q7
    · skip
      refine ⟨fun c17 => ?_, fun c17 => ?_⟩
      · skip
        refine h _ ?_
        · first | exact z0 | exact z1  -- q8
      · skip
        refine ⟨fun c18 => ?_, fun c18 => ?_⟩
        · skip
          refine h _ ?_
          · first | exact z0 | exact z1  -- q9
        · skip
          refine h _ ?_
          · first | exact z0 | exact z1  -- q10
    · skip
      refine ⟨fun c19 => ?_, fun c19 => ?_⟩
      · skip
        refine h _ ?_
        · first | exact z0 | exact z1  -- q11
      · skip
        refine ⟨fun c20 => ?_, fun c20 => ?_⟩
        · skip
          refine h _ ?_
          · first | exact z0 | exact z1  -- q12
        · skip
          refine h _ ?_
          · first | exact z0 | exact z1  -- q13
    · skip
      refine ⟨fun c21 => ?_, fun c21 => ?_⟩
      · skip
        refine h _ ?_
        · first | exact z0 | exact z1  -- q14
      · skip
        refine ⟨fun c22 => ?_, fun c22 => ?_⟩
        · skip
          refine h _ ?_
          · first | exact z0 | exact z1  -- q15
        · skip
          refine h _ ?_
          · first | exact z0 | exact z1  -- q16
    · skip
      refine ⟨fun c23 => ?_, fun c23 => ?_⟩
      · skip
        refine h _ ?_
        · first | exact z0 | exact z1  -- q17
      · skip
        refine h _ ?_
        · first | exact z0 | exact z1  -- q18
    · skip
      refine ⟨fun c24 => ?_, fun c24 => ?_⟩
      · skip
        refine h _ ?_
        · first | exact z0 | exact z1  -- q19
      · skip
        refine h _ ?_
        · first | exact z0 | exact z1  -- q20
    · skip
      refine ⟨fun c25 => ?_, fun c25 => ?_⟩
      · skip
        refine h _ ?_
        · first | exact z0 | exact z1  -- q21
      · skip
        refine ⟨fun c26 => ?_, fun c26 => ?_⟩
        · skip
          refine h _ ?_
          · first | exact z0 | exact z1  -- q22
        · skip
          refine h _ ?_
          · first | exact z0 | exact z1  -- q23
    · skip
      refine ⟨fun c27 => ?_, fun c27 => ?_⟩
      · skip
        refine h _ ?_
        · first | exact z0 | exact z1  -- q24
      · skip
        refine h _ ?_
        · first | exact z0 | exact z1  -- q25
  refine ⟨fun c28 => ?_, fun c28 => ?_⟩
  · skip
    refine hj10 _ _ _ _ _ _ _ W ?_ ?_
    · exact Ta0  -- t26
    · exact ⟨rfl, rfl, rfl, rfl, rfl, rfl, trivial⟩  -- k27
  · skip
    refine hj10 _ _ _ _ _ _ _ W ?_ ?_
    · exact Ta0  -- t28
    · exact ⟨rfl, rfl, rfl, rfl, rfl, rfl, trivial⟩  -- k29

theorem Od_unitsOf_c {C : zC} {n0 : Nat} {a0 : Nat} {a1 : Int32} {a2 : Int32} {a3 : Int32} {κ : zS} {Q : Int64 → zS → Prop} (W : zW C n0 κ) (Ta0 : zT κ a0 = 9) (ρ : Nat → Nat) (n9 P9 : Nat) (hp : odX9 ρ κ a0 n9 P9 ∧ 0 ≤ a1.toInt ∧ a1.toInt < n9) (h : ∀ (v : Int64), ((-17179869184000000 ≤ v.toInt ∧ v.toInt ≤ 17179869184000000) ∧ (0 ≤ a2.toInt → a2.toInt ≤ 7 → 0 ≤ v.toInt) ∧ (v ≠ 0 → zI κ raSign (vU9 κ (zR κ odSolver a0) a1.toNatClampNeg) ≠ 0)) → Q v κ) : zRun C 4 mOd_unitsOf [.ref a0, .int a1, .int a2, .int a3] κ (oJ Q noX) := by
  refine Od_unitsOf_run W Ta0 ?_
  replace W := W.lo (Nat.le_trans W.1.2.1 W.1.2.2) (Nat.le_refl (zn κ))
  unfold w_Od_unitsOf_0
  obtain ⟨X0, p1, p2⟩ := hp
  have kn := cnk p1
  obtain ⟨⟨x1, x2⟩, x3, ⟨⟨A1, A2, A3, A4, A5, A6⟩, x5⟩, x6, ⟨x7, _⟩, x8⟩ := X0
  obtain ⟨⟨f0, f1, f2⟩, nx, ⟨w1, w2⟩, _, _⟩ := A6 a1.toNatClampNeg (by omega)
  obtain ⟨v1, v2, v3⟩ := x6 a1.toNatClampNeg (by omega)
  have i1 := cn1 (x := a1) p1 (by omega)
  have a20 := A2.2.2
  refine ⟨?_, ?_⟩
  · rw [inb_iff]; omega  -- b1
  refine ex_some ?_ (fun u1 hu1 => ?_)
  · exact ⟨_, v1⟩  -- e2
  have eu : u1 = vU9 κ (zR κ odSolver a0) a1.toNatClampNeg := Option.some.inj (hu1.symm.trans v1)
  refine ⟨fun c2 => ?_, fun c2 => ?_⟩
  · skip
    refine h _ ?_
    · exact ⟨by decide, fun _ _ => by decide, fun z => absurd rfl z⟩  -- q3
  · skip
    refine ⟨?_, ?_⟩
    · rw [inb_iff, A1.1]; omega  -- b4
    intro x3 hx3
    unfold w_Od_unitsOf_29
    refine ⟨fun n l0 l1 l2 l3 l4 l6 τ => n = ((zA κ (zR κ atFirsts (zR κ odAtlas a0)) (a1.toNatClampNeg + 1)).toInt - l6.toInt).toNat ∧ (κ = τ ∧ a0 = l0 ∧ a1 = l1 ∧ a2 = l2 ∧ a3 = l3 ∧ ((zA κ (zR κ atFirsts (zR κ odAtlas a0)) a1.toNatClampNeg).toInt ≤ l6.toInt ∧ l6.toInt ≤ (zA κ (zR κ atFirsts (zR κ odAtlas a0)) (a1.toNatClampNeg + 1)).toInt) ∧ (-2147483648 * wSm (zA κ (zR κ atWeights (zR κ odAtlas a0))) ((zA κ (zR κ atFirsts (zR κ odAtlas a0)) a1.toNatClampNeg).toInt) l6.toInt ≤ l4.toInt ∧ l4.toInt ≤ 2147483648 * wSm (zA κ (zR κ atWeights (zR κ odAtlas a0))) ((zA κ (zR κ atFirsts (zR κ odAtlas a0)) a1.toNatClampNeg).toInt) l6.toInt) ∧ (0 ≤ a2.toInt → a2.toInt ≤ 7 → 0 ≤ l4.toInt)), ⟨_, rfl, ?_⟩, ?_⟩
    · refine ⟨rfl, rfl, rfl, rfl, rfl, ⟨by rw [hx3]; exact Int.le_refl _, by rw [hx3]; exact f1⟩, ⟨?_, ?_⟩, fun _ _ => by decide⟩
      · rw [hx3, wSm_0]; decide
      · rw [hx3, wSm_0]; decide
    rintro n29 _ _ _ _ x29_4 x29_6 _ W29 T29_0 ⟨hn29, rfl, rfl, rfl, rfl, rfl, i29⟩
    obtain ⟨⟨l1, l2⟩, ⟨l3, l4⟩, l5⟩ := i29
    have kl := cnk (x := x29_6) (by omega)
    have wr := wSm_r9 (Wt := zA κ (zR κ atWeights (zR κ odAtlas a0))) f0 l2 (fun i a b => (nx i a b).2.2)
    refine ⟨?_, ?_⟩
    · rw [inb_iff, i1.2, A1.1]; omega  -- b6
    refine ⟨fun c4 => ?_, fun c4 => ?_⟩
    · skip
      refine h _ ?_
      · exact ⟨⟨by omega, by omega⟩, l5, fun _ => by rw [← eu]; exact c2⟩  -- q7
    · skip
      intro T5
      rw [i1.1, lei] at c4
      have nxi := nx x29_6.toNatClampNeg (by omega) (by omega)
      have wx := wSm_ex (Wt := zA κ (zR κ atWeights (zR κ odAtlas a0))) (Wt' := zA κ (zR κ atWeights (zR κ odAtlas a0))) (lo := (zA κ (zR κ atFirsts (zR κ odAtlas a0)) a1.toNatClampNeg).toInt) (hi := x29_6.toInt) f0 l1 (fun _ _ => rfl)
      have kt : x29_6.toInt.toNat = x29_6.toNatClampNeg := rfl
      rw [kt] at wx
      have wr2 := wSm_r9 (Wt := zA κ (zR κ atWeights (zR κ odAtlas a0))) (x := x29_6.toInt + 1) f0 (by omega) (fun i a b => (nx i a b).2.2)
      have ix := cn1 (x := x29_6) (by omega) (by omega)
      have wn := nxi.2.2
      refine At_isTaken_c W29 T5  ?_ (fun r6 q8 => ?_)
      · exact ⟨A1, p1, by omega⟩  -- p8
      intro W9
      intro M10
      refine ⟨fun c11 => ?_, fun c11 => ?_⟩
      · skip
        intro x12 hx12
        refine ⟨_, ?_, rfl, ?_⟩
        · rw [hn29, hx12, ix.2]; omega  -- d9
        · refine ⟨rfl, rfl, rfl, rfl, rfl, ⟨by rw [hx12, ix.2]; omega, by rw [hx12, ix.2]; omega⟩, ⟨?_, ?_⟩, l5⟩
          · rw [hx12, ix.2, wx]; omega
          · rw [hx12, ix.2, wx]; omega
      · skip
        refine ⟨?_, ?_⟩
        · rw [inb_iff, A2.1.1]; omega  -- b11
        refine ⟨?_, ?_⟩
        · rw [inb_iff]; omega  -- b12
        intro T13
        refine Od_share_c W9 T13  ?_ (fun r14 q16 => ?_)
        · exact ⟨x7, x8⟩  -- p13
        intro W17
        intro M18
        refine ⟨?_, ?_⟩
        · rw [inb_iff, A2.1.2]; omega  -- b14
        intro x19 hx19
        intro x20 hx20
        have m := sw_9 (s := r14) (w := zA κ (zR κ atWeights (zR κ odAtlas a0)) x29_6.toNatClampNeg) q16.1.1 q16.1.2 wn
        obtain ⟨m1, m2, m3, m4⟩ := m
        have q16b := q16.2.1
        generalize r14.toInt * (zA κ (zR κ atWeights (zR κ odAtlas a0)) x29_6.toNatClampNeg).toInt = pr at *
        have ea : x19.toInt = x29_4.toInt + pr := by rw [hx19, jadd_i (by rw [m1]; omega) (by rw [m1]; omega), m1]
        refine ⟨_, ?_, rfl, ?_⟩
        · rw [hn29, hx20, ix.2]; omega  -- d15
        · refine ⟨rfl, rfl, rfl, rfl, rfl, ⟨by rw [hx20, ix.2]; omega, by rw [hx20, ix.2]; omega⟩, ⟨?_, ?_⟩, fun g1 g2 => ?_⟩
          · rw [hx20, ix.2, wx, ea]; omega
          · rw [hx20, ix.2, wx, ea]; omega
          · have y := m4 (q16b g1 g2).1
            have y2 := l5 g1 g2
            rw [ea]; omega

theorem Od_weighs_c {C : zC} {n0 : Nat} {a0 : Nat} {a1 : Int32} {κ : zS} {Q : Int32 → zS → Prop} (W : zW C n0 κ) (Ta0 : zT κ a0 = 9) (ρ : Nat → Nat) (n9 P9 : Nat) (hp : odX9 ρ κ a0 n9 P9) (h : ∀ (v : Int32), (nb v) → Q v κ) : zRun C 5 mOd_weighs [.ref a0, .int a1] κ (oI Q noX) := by
  refine Od_weighs_run W Ta0 ?_
  replace W := W.lo (Nat.le_trans W.1.2.1 W.1.2.2) (Nat.le_refl (zn κ))
  unfold w_Od_weighs_0
  have A := hp.2.2.1.1
  have hn := A.2.2.1
  have tot := A.2.2.2.1
  have hj20 : ∀ (l0 : Nat) (l1 : Int32) (l2 : Int32) (s0 : Int32) (τ : zS), zW C (zn κ) τ → zT τ l0 = 9 → (κ = τ ∧ a0 = l0 ∧ a1 = l1 ∧ nb s0 ∧ l2.toInt = (n9 : Int)) → w_Od_weighs_20 C (zn κ) Q  l0 l1 l2 s0 τ := by
    rintro _ _ y20_2 y20_s0 _ W20 T20_0 ⟨rfl, rfl, rfl, j20⟩
    unfold w_Od_weighs_20
    unfold w_Od_weighs_24
    refine ⟨fun n l0 l1 l2 l3 l4 τ => n = (l2.toInt - l4.toInt).toNat ∧ (κ = τ ∧ a0 = l0 ∧ a1 = l1 ∧ l2.toInt = (n9 : Int) ∧ nb l3 ∧ 0 ≤ l4.toInt), ⟨_, rfl, ?_⟩, ?_⟩
    · exact ⟨rfl, rfl, rfl, j20.2, j20.1, by decide⟩  -- j1
    rintro n24 _ _ x24_2 x24_3 x24_4 _ W24 T24_0 ⟨hn24, rfl, rfl, rfl, i24⟩
    obtain ⟨m1, m2, m3⟩ := i24
    have hj52 : ∀ (l0 : Nat) (l1 : Int32) (l2 : Int32) (l4 : Int32) (s0 : Int32) (τ : zS), zW C (zn κ) τ → zT τ l0 = 9 → (κ = τ ∧ a0 = l0 ∧ a1 = l1 ∧ nb s0 ∧ 0 ≤ l4.toInt ∧ l4.toInt < l2.toInt ∧ x24_4 = l4 ∧ x24_2 = l2) → w_Od_weighs_52 C (zn κ) Q (fun (l0' : Nat) (l1' : Int32) (l2' : Int32) (l3' : Int32) (l4' : Int32) (τ : zS) => ∃ k < n24, (fun (n : Nat) (l0 : Nat) (l1 : Int32) (l2 : Int32) (l3 : Int32) (l4 : Int32) (τ : zS) => n = (l2.toInt - l4.toInt).toNat ∧ (κ = τ ∧ a0 = l0 ∧ a1 = l1 ∧ l2.toInt = (n9 : Int) ∧ nb l3 ∧ 0 ≤ l4.toInt)) k l0' l1' l2' l3' l4' τ) l0 l1 l2 l4 s0 τ := by
      rintro _ _ y52_2 y52_4 y52_s0 _ W52 T52_0 ⟨rfl, rfl, rfl, j52⟩
      unfold w_Od_weighs_52
      intro x1 hx1
      obtain ⟨g0, g1, g2, g3, g4⟩ := j52
      subst g3
      subst g4
      have ix := cn1 g1 (by omega)
      refine ⟨_, ?_, rfl, ?_⟩
      · rw [hn24, hx1, ix.2]; omega  -- d2
      · exact ⟨rfl, rfl, rfl, m1, g0, by rw [hx1, ix.2]; omega⟩  -- i3
    refine ⟨fun c2 => ?_, fun c2 => ?_⟩
    · skip
      refine ⟨?_, h _ ?_⟩
      · exact m2  -- b4
      · exact m2  -- q5
    · skip
      refine ⟨fun c3 => ?_, fun c3 => ?_⟩
      · skip
        refine ⟨?_, h _ ?_⟩
        · exact m2  -- b6
        · exact m2  -- q7
      · skip
        intro T4
        refine Od_unitsOf_c W24 T4 ρ n9 P9 ?_ (fun r5 q7 => ?_)
        · rw [lei] at c2
          exact ⟨hp, m3, by omega⟩
        intro W8
        intro M9
        refine ⟨fun c10 => ?_, fun c10 => ?_⟩
        · skip
          refine hj52 _ _ _ _ _ _ W8 ?_ ?_
          · exact Ta0  -- t9
          · rw [lei] at c2
            exact ⟨rfl, rfl, rfl, nb_0, m3, by omega, rfl, rfl⟩
        · skip
          refine hj52 _ _ _ _ _ _ W8 ?_ ?_
          · exact Ta0  -- t11
          · rw [lei] at c2
            exact ⟨rfl, rfl, rfl, nb_1, m3, by omega, rfl, rfl⟩
  intro x11 hx11
  refine ⟨fun c12 => ?_, fun c12 => ?_⟩
  · skip
    refine hj20 _ _ _ _ _ W ?_ ?_
    · exact Ta0  -- t13
    · exact ⟨rfl, rfl, rfl, nb_0, by rw [hx11]; exact tot⟩  -- k14
  · skip
    refine hj20 _ _ _ _ _ W ?_ ?_
    · exact Ta0  -- t15
    · exact ⟨rfl, rfl, rfl, nb_1, by rw [hx11]; exact tot⟩  -- k16

end
