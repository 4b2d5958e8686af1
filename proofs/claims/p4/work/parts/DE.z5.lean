set_option maxHeartbeats 1600000
/-! the class: Solver's worths made anew, its visits kept -/
theorem uo_n9 {κ τ : zS} {f a r : Nat} (hf : f / 100 = 12) (e : τ = uo κ f a r) : (∀ g b, g / 100 ≠ 12 → zR τ g b = zR κ g b) ∧ ∀ w, nuN τ w = nuN κ w := by
  have h : ∀ g b, g / 100 ≠ 12 → zR τ g b = zR κ g b := fun g b h => by
    rw [e]
    exact if_neg (fun z => h (by rw [z.1]; exact hf))
  refine ⟨h, fun w => ?_⟩
  have i : zI τ = zI κ := by rw [e]; rfl
  have x : zA τ = zA κ := by rw [e]; rfl
  unfold nuN
  rw [h nuLimbs w (by decide), i, x]
theorem fr_q9 {C : zC} {n0 a r n : Nat} {ρ : Nat → Nat} {κ τ τ1 : zS} {m : Int32} (W : zW C n0 κ) (Wt : zW C n0 τ) (Wt1 : zW C n0 τ1) (Ta : zT κ a = 12) (S : soR9 ρ κ a) (hm : m.toInt = (n : Int) ∧ n ≤ 1000) (H : frX9 ρ a 104 soWorths κ τ (zR κ soWorths a) r m m.toNatClampNeg (fun _ => True)) (Cc : frC9 κ τ (zR κ soWorths a) m.toNatClampNeg m.toNatClampNeg) (e : τ1 = uo τ soWorths a r) : zF (frF9 ρ κ soWorths a) κ τ1 ∧ zK9 κ τ1 a ∧ ∃ ρ' : Nat → Nat, (∀ x, x < zn κ → ρ' x = ρ x) ∧ soR9 ρ' τ1 a ∧ wsI9 ρ' τ1 a n 1 ∧ (zR τ1 soTaken a = zR κ soTaken a ∧ zN τ1 (zR κ soTaken a) = zN κ (zR κ soTaken a)) ∧ ∀ i P, i ≤ 1000 → vsI9 ρ κ a i P → vsI9 ρ' τ1 a i P := by
  have hz : zr soWorths = some 25 := by decide +kernel
  have Z := fr_u9 W Wt Ta (Or.inr rfl) rfl ⟨by omega, by omega⟩ H e
  obtain ⟨κ1, ρ', Hw, R1, ⟨N1, S1⟩, Z1, O1, A1, A2, A3, _⟩ := H
  have To := ty_soWorths W Ta
  have rl : ρ (zR κ soLess a) = 8 := S.1.2.1.2.2.2.2.2.1
  have N0 := S.1.1
  obtain ⟨_, K, L, ⟨v1, v2⟩, ⟨w1, w2⟩, r0, l0⟩ := S
  have lv := fr_l9 W To (m := m) ⟨by omega, by omega⟩ w2 Hw Z1
  have lt : ∀ x, zT κ x ≠ 0 → x < zn κ := fun x h => (W.2.1 x h).2
  have la := lt a (by rw [Ta]; decide)
  have nf : ∀ f, 1200 ≤ f → f ≠ soWorths → ¬ frF9 ρ κ soWorths a f a := fun f h1 h2 z => by
    rcases z with z | z | z | z
    · rcases z with ⟨_, z | z | z⟩ | ⟨_, z | z | z | z⟩ <;> (rw [z] at h1; exact absurd h1 (by decide))
    · exact h2 z.1
    · omega
    · omega
  have row : ∀ f t, zr f = some t → 20 ≤ t → f / 100 = 12 → f ≠ soWorths → zQ τ1 (zR τ1 f a) = zQ κ (zR κ f a) ∧ zN τ1 (zR τ1 f a) = zN κ (zR κ f a) := fun f t h1 h2 h3 h4 => by
    have T9 : zT κ a = f / 100 := by rw [h3]; exact Ta
    refine ⟨(Z.row W h1 h2 T9 (nf f (by omega) h4)).2.2, ?_⟩
    have q := W.r h1 T9
    obtain ⟨c, hc⟩ : ∃ c, t = c + 1 := ⟨t - 1, by omega⟩
    rw [Z.r (nf f (by omega) h4)]
    exact Z.l (c := c) (q.trans hc)
  have rw9 := row soVisits 25 (by decide +kernel) (by decide) (by decide) (by decide)
  have rc := row soCells 24 (by decide +kernel) (by decide) (by decide) (by decide)
  have rr := row soRows 20 (by decide +kernel) (by decide) (by decide) (by decide)
  have rt : zR τ1 soTaken a = zR κ soTaken a := Z.r (nf soTaken (by decide) (by decide))
  have ea : zR τ1 soAtlas a = zR κ soAtlas a := Z.r (nf soAtlas (by decide) (by decide))
  have ev : zR τ1 soWorths a = r := by rw [e]; exact if_pos ⟨rfl, rfl⟩
  have eq : zQ τ1 r = zQ τ r := by rw [e]; rfl
  have en : zN τ1 r = zN τ r := by rw [e]; rfl
  have ei : zI τ1 = zI τ := by rw [e]; rfl
  have uo9 := uo_n9 (f := soWorths) (by decide) e
  have tl := ty_soLess W Ta
  have ll := lt _ (show zT κ (zR κ soLess a) ≠ 0 by rw [tl]; decide)
  have nv : ∀ f w, w < zn κ → ρ w < 100 ∨ (ρ w - 100) % 8 < 4 → f / 100 = 8 ∨ f / 100 = 11 → ¬ frF9 ρ κ soWorths a f w := fun f w hw hr hf z => by
    rcases z with z | z | z | z
    · rcases z with ⟨z, _⟩ | ⟨_, z | z | z | z⟩
      · have y := z.2.2 rfl
        have x := z.1
        omega
      · rw [z] at hf; exact absurd hf (by decide)
      · rw [z] at hf; exact absurd hf (by decide)
      · rw [z] at hf; exact absurd hf (by decide)
      · rw [z] at hf; exact absurd hf (by decide)
    · rw [z.1] at hf; exact absurd hf (by decide)
    · rw [z] at hf; exact absurd hf (by decide)
    · omega
  have nl : ∀ f, f / 100 = 8 → ¬ frF9 ρ κ soWorths a f (zR κ soLess a) := fun f hf => nv f _ ll (Or.inl (by rw [rl]; decide)) (Or.inl hf)
  have kc := cnk (x := m) (by omega)
  have kz : zK9 κ τ1 a := by
    have q := fr_n9 (n := m.toNatClampNeg) (by omega) Hw lv.1 lv.2.2.1 (fun j hj => (A3 j hj).imp (fun u h => h.1)) Cc.2
    have e1 : nn9 τ1 (zR τ1 soWorths a) = nn9 τ r := nn_s9 (by rw [ev, en]) (by rw [ev, eq])
    have e2 : nn9 τ1 (zR τ1 soVisits a) = nn9 κ (zR κ soVisits a) := nn_s9 rw9.2 rw9.1
    have e3 : nn9 τ1 (zR τ1 soCells a) = nn9 κ (zR κ soCells a) := nn_s9 rc.2 rc.1
    have t8 : nT9 8 τ1 = nT9 8 τ := nT_09 (by rw [e]; rfl) (fun b _ => by rw [e]; rfl)
    have t11 : nT9 11 τ1 = nT9 11 τ := nT_09 (by rw [e]; rfl) (fun b _ => by rw [e]; rfl)
    obtain ⟨⟨c11, c8⟩, _⟩ := Cc
    unfold zK9 zV9
    rw [e1, e2, e3, t8, t11]
    exact ⟨by omega, by omega⟩
  refine ⟨Z, kz, ρ', R1, ⟨⟨by rw [e]; exact nm_uo9 (by decide) N1, by rw [e]; exact so_uo9 (Or.inr rfl) S1⟩, fun i u hi hu => ?_, by rw [rc.2]; exact L, ⟨fun j u hj hu => ?_, by rw [rw9.2]; exact v2⟩, ⟨fun j u hj hu => ?_, by rw [ev, en]; exact lv.2.1⟩, by rw [rr.2]; exact r0, ?_⟩, ⟨by rw [ev, en]; omega, fun k hk => ?_⟩, ⟨rt, Z.l (ty_soTaken W Ta)⟩, fun i P hi V k hk => ?_⟩
  · rw [rc.1] at hu
    have t := W.2.2.2.1 _ _ _ (ty_soCells W Ta) hu
    rw [R1 u (lt u (by rw [t]; decide))]
    exact K i u hi hu
  · rw [rw9.1] at hu
    have t := W.2.2.2.2.1 _ _ _ (ty_soVisits W Ta) hu
    rw [R1 u (lt u (by rw [t]; decide))]
    exact v1 j u hj hu
  · rw [ev, eq] at hu
    exact A1 j u hj hu
  · rw [Z.r (nf soLess (by decide) (by decide)), (nuB_z (c := 0) W tl Z (nl _ (by decide)) (nl _ (by decide))).2.2.1]
    exact l0
  · obtain ⟨u, hu, hz9, ht, hb⟩ := A3 k (by omega)
    have vu : wU9 τ1 a k = u := by
      unfold wU9
      rw [ev, eq, hu]
      rfl
    rw [vu, ev, eq]
    refine ⟨hu, A1 k u (by omega) hu, ?_⟩
    unfold wsK9
    rw [uo9.1 raTop u (by decide), uo9.1 raBottom u (by decide), uo9.2, uo9.2, ei, ht, hb, hz9]
    exact ⟨⟨by decide, by decide⟩, Or.inr (Nat.dvd_refl 1), by decide, by decide⟩
  · obtain ⟨q1, q2, q3⟩ := V k hk
    have vu : vU9 τ1 a k = vU9 κ a k := by
      unfold vU9
      rw [rw9.1]
    have tu := W.2.2.2.2.1 _ _ _ (ty_soVisits W Ta) q1
    have lu := lt _ (show zT κ (vU9 κ a k) ≠ 0 by rw [tu]; decide)
    have P9 := N0.2 (vU9 κ a k) (by rw [q2]; exact vs_r9 (by omega))
    have tt := ty_raTop W tu
    have tb := ty_raBottom W tu
    have lt9 := lt _ (show zT κ (zR κ raTop (vU9 κ a k)) ≠ 0 by rw [tt]; decide)
    have lb9 := lt _ (show zT κ (zR κ raBottom (vU9 κ a k)) ≠ 0 by rw [tb]; decide)
    have nu := fun f hf => nv f (vU9 κ a k) lu (Or.inr (by rw [q2]; omega)) hf
    have nt := fun f hf => nv f (zR κ raTop (vU9 κ a k)) lt9 (Or.inr (by rw [P9.2.1, q2]; omega)) hf
    have nb9 := fun f hf => nv f (zR κ raBottom (vU9 κ a k)) lb9 (Or.inr (by rw [P9.2.2, q2]; omega)) hf
    have fv := frF9_v (ρ := ρ) (κ := κ) (s := a) (Or.inr (rfl : soWorths = soWorths))
    have tA := ty_soAtlas W Ta
    have dN : dvN9 τ1 (zR κ soAtlas a) k = dvN9 κ (zR κ soAtlas a) k := by
      unfold dvN9 dvA
      rw [(at_v9 W fv Z tA (f := atChooses) (by decide)).2.1, (at_v9 W fv Z tA (f := atTotals) (by decide)).2.1]
    rw [rw9.1, vu, ea, dN, R1 _ lu]
    refine ⟨q1, q2, ?_⟩
    unfold vsK9
    rw [Z.i (nu raSign (by decide)), Z.r (nu raTop (by decide)), Z.r (nu raBottom (by decide)), (nuB_z (c := 0) W tt Z (nt _ (by decide)) (nt _ (by decide))).2.2.1, (nuB_z (c := 0) W tb Z (nb9 _ (by decide)) (nb9 _ (by decide))).2.2.1]
    exact q3
