set_option maxHeartbeats 1600000
/-! the class: a ring's visits, by their values -/
theorem So_visitRing_q6 {C : zC} {n0 : Nat} {a0 : Nat} {a1 : Int32} {κ : zS} {Q : Int32 → zS → Prop} (W : zW C n0 κ) (Ta0 : zT κ a0 = 12) (ρ : Nat → Nat) (n9 P9 f9 m9 : Nat) (V9 : Nat → Rat) (hV9 : vV15 κ a0 n9 V9) (hz9 : ∀ s, s < n9 → kO15 κ a0 s = kO15 κ a0 (od15 κ a0 f9) → V9 s = 0) (hU9 : ∀ r, r < m9 → uB15 κ a0 (od15 κ a0 (f9 + r))) (hE9 : ∀ j, j < m9 → ∃ k, lv15 (rw15 κ a0 f9) (rT15 κ a0 f9) m9 k j) (hC9 : ∀ i j, i < m9 → j < m9 → ∃ l, pt15 (rw15 κ a0 f9) m9 l i j) (hp : ((nmI ρ κ ∧ soI ρ κ a0) ∧ clK9 ρ κ a0 ∧ ((zN κ (zR κ soCells a0)) = 0 ∨ (zN κ (zR κ soCells a0)) = 1056)) ∧ svX9 κ a0 n9 ∧ vsI9 ρ κ a0 n9 P9 ∧ n9 ≤ (zN κ (zR κ soRows a0)) ∧ (0 ≤ a1.toInt ∧ a1.toInt < (zI κ weKnots (zR κ soWeb a0)).toInt) ∧ ((zA κ (zR κ weKnotFirsts (zR κ soWeb a0)) a1.toNatClampNeg).toInt = (f9 : Int) ∧ (zA κ (zR κ weKnotFirsts (zR κ soWeb a0)) (a1.toNatClampNeg + 1)).toInt = (f9 : Int) + m9 ∧ m9 ≤ 32) ∧ (0 < P9 ∧ P9 < pB9 1490) ∧ nuN κ (zR κ soLess a0) < pB9 4000) (h : ∀ (v : Int32) (κ' : zS), ((nb v ∧ ∃ ρ' : Nat → Nat, rgE9 (fun _ => True) ρ κ κ' a0 ρ' ∧ nuN κ' (zR κ soLess a0) < pB9 4000 ∧ zR κ' soRows a0 = zR κ soRows a0 ∧ (v ≠ 0 → ∃ Q9, (0 < Q9 ∧ Q9 ≤ 8000000 ^ (2 * m9)) ∧ vsI9 ρ' κ' a0 n9 (P9 * Q9))) ∧ (∃ X : Nat → Rat, eC15 κ a0 V9 f9 m9 X ∧ (v ≠ 0 → (∀ i, i < m9 → rqW8 κ' (vU9 κ' a0 (od15 κ a0 (f9 + i))) (X i) ∧ f2W8 (X i)) ∧ ∀ k, k < n9 → (∀ i, i < m9 → od15 κ a0 (f9 + i) ≠ k) → rqW8 κ' (vU9 κ' a0 k) (V9 k)) ∧ (v = 0 → ∃ i, i < m9 ∧ ¬ f2W8 (X i)))) → Q v κ') : zRun C 7 mSo_visitRing [.ref a0, .int a1] κ (oI Q noX) := by
  refine So_visitRing_run W Ta0 ?_
  replace W := W.lo (Nat.le_trans W.1.2.1 W.1.2.2) (Nat.le_refl (zn κ))
  unfold w_So_visitRing_0
  obtain ⟨⟨⟨N0, S0⟩, CK0, L0⟩, X0, V0, hrows, p1, ⟨hf, hfm, hm⟩, ⟨P0, P1⟩, hl⟩ := hp
  have kn := cnk p1.1
  have hn := X0.1.2.1.2
  have kA := X0.2.1.2.1 a1.toNatClampNeg (by omega)
  have kK := X0.2.1.1.2
  have wM := X0.1.1.1
  have gW := nm_g N0 S0.1.1 (Or.inl ⟨by decide, by decide⟩) (by decide)
  have hfn : f9 + m9 ≤ n9 ∧ 1 ≤ m9 := by omega
  have od : ∀ r, r < m9 → 0 ≤ (zA κ (zR κ weOrder (zR κ soWeb a0)) (f9 + r)).toInt ∧ (zA κ (zR κ weOrder (zR κ soWeb a0)) (f9 + r)).toInt < n9 := fun r hr => (X0.2.1.2.2.1 (f9 + r) (by omega)).1
  have o1 : (1 : Int64).toInt.toNat = 1 := rfl
  have t32 : (32 : Int32).toNatClampNeg = 32 := by decide
  have h8 := S0.1.2.2.2.2.2.1
  have h7 := S0.1.2.2.2.2.1
  have tw := ty_soWhole W Ta0
  have tl := ty_soLess W Ta0
  have ts := ty_soSum W Ta0
  have P1' : P9 < pB9 1900 := Nat.lt_of_lt_of_le P1 (pB9_l (by decide))
  have lt0 : ∀ x, zT κ x ≠ 0 → x < zn κ := fun x h => (W.2.1 x h).2
  have lw := lt0 _ (show zT κ (zR κ soWhole a0) ≠ 0 by rw [tw]; decide)
  have ll := lt0 _ (show zT κ (zR κ soLess a0) ≠ 0 by rw [tl]; decide)
  have ls := lt0 _ (show zT κ (zR κ soSum a0) ≠ 0 by rw [ts]; decide)
  have sx : ∀ x y : Int32, x.toInt = (f9 : Int) → 0 ≤ y.toInt → y.toInt < 32 → (x + y).toInt = (f9 : Int) + y.toNatClampNeg ∧ (x + y).toNatClampNeg = f9 + y.toNatClampNeg := fun x y hx h0 h1 => by
    have ky := cnk h0
    have q := add_i (x := x) (y := y) (by omega) (by omega)
    have k2 := cnk (x := x + y) (by omega)
    omega
  refine ⟨?_, ?_⟩
  · rw [inb_iff, wM.2.2.2.1]; omega  -- b1
  intro x1 hx1
  intro T2
  refine We_sizeOf_c W T2 n9 ?_ (fun r3 q5 => ?_)
  · exact ⟨wM, hn, X0.2.1, p1⟩  -- p2
  have mK : ∀ r, r < m9 → (kO15 κ a0 (od15 κ a0 (f9 + r))).toInt = (a1.toNatClampNeg : Int) := fun r hr => ko_9 X0.2.1 (by omega) (by omega) (by omega) (by omega)
  have mS : ∀ s, s < n9 → ∀ r, r < m9 → kO15 κ a0 s = kO15 κ a0 (od15 κ a0 (f9 + r)) → V9 s = 0 := fun s hs r hr y => hz9 s hs (y.trans (Int32.toInt.inj ((mK r hr).trans (mK 0 (by omega)).symm)))
  have odn : ∀ r, r < m9 → od15 κ a0 (f9 + r) < n9 := fun r hr => by
    have o := od r hr
    have k := cnk o.1
    show (zA κ _ _).toNatClampNeg < n9
    omega
  intro W6
  intro M7
  intro T8
  refine Nu_put_c W6 T8 6500 ?_ (fun κ_9 q10 => ?_)
  · exact ⟨by decide, gW.2.2⟩  -- p3
  intro W11
  intro M12
  obtain ⟨Fp, ⟨Rp, Np⟩, Ip, Vp⟩ := q10
  have Zp : zF (soF ρ (fun r => r = 1) (zR κ soCalc a0)) κ κ_9 := soF_1 S0.1.1 Fp
  have Ep : rgE9 vrR9 ρ κ κ_9 a0 ρ := rg_so9 W Ta0 CK0 L0 Zp (fun r h => Or.inl (by omega)) ⟨nm_1 W N0 Fp (by rw [S0.1.1]; exact Ip), so_1 W Ta0 S0 Fp⟩
  have lp := soF_B (c := 0) W tl Zp (by rw [h8]; decide)
  unfold w_So_visitRing_30
  refine ⟨fun n l0 l2 l3 l4 τ => n = (l3.toInt - l4.toInt).toNat ∧ ((a0 = l0 ∧ (rgE9 vrR9 ρ κ τ a0 ρ ∧ dz9 (nuN τ (zR κ soWhole a0)) P9 ∧ nuN τ (zR κ soLess a0) = nuN κ (zR κ soLess a0)) ∧ (l2.toInt = (f9 : Int) ∧ l3.toInt = (m9 : Int)) ∧ (0 ≤ l4.toInt ∧ l4.toInt ≤ l3.toInt) ∧ (zR τ soRows a0 = zR κ soRows a0 ∧ ∀ r : Nat, r < l4.toNatClampNeg → (zA τ (zR κ soRows a0) (zA κ (zR κ weOrder (zR κ soWeb a0)) (f9 + r)).toNatClampNeg).toInt = (r : Int))) ∧ 0 < nuN τ (zR κ soWhole a0) ∧ ∀ r, r < l4.toNatClampNeg → ∀ b, bl15 κ a0 (od15 κ a0 (f9 + r)) ≤ b → b < bl15 κ a0 (od15 κ a0 (f9 + r) + 1) → V9 (bs15 κ a0 b) ≠ 0 → (un15 κ a0 V9 (bs15 κ a0 b)).den ∣ nuN τ (zR κ soWhole a0)), ⟨_, rfl, ?_⟩, ?_⟩
  · refine and_5 ?_ (fun o9 => ?_)  -- j4
    · refine ⟨rfl, ⟨Ep, by rw [Vp, o1]; exact Or.inr (Nat.one_dvd _), lp.2.1⟩, ⟨by rw [hx1]; exact hf, by omega⟩, ⟨by decide, by rw [t0i]; omega⟩, by rw [Rp], fun r hr => absurd hr (Nat.not_lt_zero r)⟩
    · exact ⟨by rw [Vp, o1]; decide, fun r hr => absurd hr (Nat.not_lt_zero r)⟩
  rintro n30 _ x30_2 x30_3 x30_4 κ30 W30 T30_0 ⟨hn30, ⟨rfl, i30⟩, hE⟩
  obtain ⟨⟨E1, D1, le1⟩, ⟨x2, x3⟩, l4, er1, rw1⟩ := i30
  have kc := cnk l4.1
  refine ⟨fun c13 => ?_, fun c13 => ?_⟩
  · skip
    unfold w_So_visitRing_83
    refine ⟨fun n l0 l2 l3 l4 l5 τ => n = (l3.toInt - l5.toInt).toNat ∧ ((a0 = l0 ∧ (∃ ρ', rgE9 vrR9 ρ κ τ a0 ρ') ∧ (dz9 (nuN τ (zR κ soWhole a0)) P9 ∧ nuN τ (zR κ soLess a0) < pB9 4000) ∧ (l2.toInt = (f9 : Int) ∧ l3.toInt = (m9 : Int)) ∧ (0 ≤ l5.toInt ∧ l5.toInt ≤ l3.toInt) ∧ (zR τ soRows a0 = zR κ soRows a0 ∧ ∀ r : Nat, r < m9 → (zA τ (zR κ soRows a0) (zA κ (zR κ weOrder (zR κ soWeb a0)) (f9 + r)).toNatClampNeg).toInt = (r : Int)) ∧ ∃ M : Nat → Nat → Nat, (∀ i j, i < l5.toNatClampNeg → j < m9 → flV9 κ a0 n9 (zA κ (zR κ weOrder (zR κ soWeb a0)) (f9 + i)).toNatClampNeg i f9 j (M i j)) ∧ (∀ i, i < l5.toNatClampNeg → M i 32 ≤ pB9 1501) ∧ clP9 τ a0 (fun i j => i < l5.toNatClampNeg ∧ (j < m9 ∨ j = 32)) M) ∧ rD15 κ τ a0 V9 f9 m9 ∧ (∀ i, i < l5.toNatClampNeg → rC15 κ τ a0 f9 m9 i ∧ rB15 κ τ a0 V9 f9 i) ∧ rV15 κ a0 V9 f9 l5.toNatClampNeg l4), ⟨_, rfl, ?_⟩, ?_⟩
    · refine and_5 ?_ (fun o9 => ?_)  -- j5
      · rw [lei] at c13
        refine ⟨rfl, ⟨ρ, E1⟩, ⟨D1, by rw [le1]; exact hl⟩, ⟨x2, x3⟩, ⟨by decide, by rw [t0i]; omega⟩, ⟨er1, fun r hr => rw1 r (by omega)⟩, fun _ _ => 0, fun i j h => absurd h (Nat.not_lt_zero i), fun i h => absurd h (Nat.not_lt_zero i), fun i j z => absurd z.1 (Nat.not_lt_zero i)⟩
      · rw [lei] at c13
        exact ⟨⟨hE.1, fun r hr => hE.2 r (by omega)⟩, fun i h => absurd h (Nat.not_lt_zero i), fun _ i h => absurd h (Nat.not_lt_zero i), fun z => absurd rfl z⟩
    rintro n83 _ x83_2 x83_3 x83_4 x83_5 κ83 W83 T83_0 ⟨hn83, ⟨rfl, i83⟩, hE⟩
    obtain ⟨⟨ρ83, E8⟩, ⟨D8, hl8⟩, ⟨z2, z3⟩, l5, ⟨er8, rw8⟩, M8, F8, B8, Q8⟩ := i83
    have kd := cnk l5.1
    have X8 := rg_x9 W Ta0 E8 X0
    have V8 := rg_v9 W Ta0 N0 hn vrR9_v E8 V0
    have w8 := rg_w9 W Ta0 E8 X0
    have ew8 : zR κ83 soWhole a0 = (zR κ soWhole a0) := (rg_r9 W Ta0 E8 (by decide)).1
    have el8 : zR κ83 soLess a0 = (zR κ soLess a0) := (rg_r9 W Ta0 E8 (by decide)).1
    have es8 : zR κ83 soSum a0 = (zR κ soSum a0) := (rg_r9 W Ta0 E8 (by decide)).1
    have hj140 : ∀ (l0 : Nat) (l2 : Int32) (l3 : Int32) (l5 : Int32) (s0 : Int32) (τ : zS), zW C (zn κ) τ → zT τ l0 = 12 → ((a0 = l0 ∧ (∃ ρ', rgE9 vrR9 ρ κ τ a0 ρ') ∧ (dz9 (nuN τ (zR κ soWhole a0)) P9 ∧ nuN τ (zR κ soLess a0) < pB9 4000) ∧ (l2.toInt = (f9 : Int) ∧ l3.toInt = (m9 : Int)) ∧ (0 ≤ l5.toInt ∧ l5.toInt < l3.toInt ∧ x83_5 = l5 ∧ x83_3 = l3) ∧ (zR τ soRows a0 = zR κ soRows a0 ∧ ∀ r : Nat, r < m9 → (zA τ (zR κ soRows a0) (zA κ (zR κ weOrder (zR κ soWeb a0)) (f9 + r)).toNatClampNeg).toInt = (r : Int)) ∧ ∃ M : Nat → Nat → Nat, (∀ i j, i < l5.toNatClampNeg → j < m9 → flV9 κ a0 n9 (zA κ (zR κ weOrder (zR κ soWeb a0)) (f9 + i)).toNatClampNeg i f9 j (M i j)) ∧ (∀ i, i ≤ l5.toNatClampNeg → M i 32 ≤ pB9 1501) ∧ clP9 τ a0 (fun i j => (i < l5.toNatClampNeg ∧ (j < m9 ∨ j = 32)) ∨ (i = l5.toNatClampNeg ∧ j = 32)) M) ∧ rD15 κ τ a0 V9 f9 m9 ∧ ((∀ i, i < l5.toNatClampNeg → rC15 κ τ a0 f9 m9 i ∧ rB15 κ τ a0 V9 f9 i) ∧ rB15 κ τ a0 V9 f9 l5.toNatClampNeg) ∧ rV15 κ a0 V9 f9 (l5.toNatClampNeg + 1) s0) → w_So_visitRing_140 C (zn κ) Q (fun (l0' : Nat) (l2' : Int32) (l3' : Int32) (l4' : Int32) (l5' : Int32) (τ : zS) => ∃ k < n83, (fun (n : Nat) (l0 : Nat) (l2 : Int32) (l3 : Int32) (l4 : Int32) (l5 : Int32) (τ : zS) => n = (l3.toInt - l5.toInt).toNat ∧ ((a0 = l0 ∧ (∃ ρ', rgE9 vrR9 ρ κ τ a0 ρ') ∧ (dz9 (nuN τ (zR κ soWhole a0)) P9 ∧ nuN τ (zR κ soLess a0) < pB9 4000) ∧ (l2.toInt = (f9 : Int) ∧ l3.toInt = (m9 : Int)) ∧ (0 ≤ l5.toInt ∧ l5.toInt ≤ l3.toInt) ∧ (zR τ soRows a0 = zR κ soRows a0 ∧ ∀ r : Nat, r < m9 → (zA τ (zR κ soRows a0) (zA κ (zR κ weOrder (zR κ soWeb a0)) (f9 + r)).toNatClampNeg).toInt = (r : Int)) ∧ ∃ M : Nat → Nat → Nat, (∀ i j, i < l5.toNatClampNeg → j < m9 → flV9 κ a0 n9 (zA κ (zR κ weOrder (zR κ soWeb a0)) (f9 + i)).toNatClampNeg i f9 j (M i j)) ∧ (∀ i, i < l5.toNatClampNeg → M i 32 ≤ pB9 1501) ∧ clP9 τ a0 (fun i j => i < l5.toNatClampNeg ∧ (j < m9 ∨ j = 32)) M) ∧ rD15 κ τ a0 V9 f9 m9 ∧ (∀ i, i < l5.toNatClampNeg → rC15 κ τ a0 f9 m9 i ∧ rB15 κ τ a0 V9 f9 i) ∧ rV15 κ a0 V9 f9 l5.toNatClampNeg l4)) k l0' l2' l3' l4' l5' τ) l0 l2 l3 l5 s0 τ := by
      rintro _ y140_2 y140_3 y140_5 y140_s0 τ140 W140 T140_0 ⟨⟨rfl, j140⟩, hE⟩
      unfold w_So_visitRing_140
      obtain ⟨⟨ρ14, E14⟩, ⟨D14, hl14⟩, ⟨u2, u3⟩, ⟨l51, l52, e51, e53⟩, ⟨er14, rw14⟩, M14, F14, B14, Q14⟩ := j140
      subst e51
      subst e53
      have X14 := rg_x9 W Ta0 E14 X0
      have w14 := rg_w9 W Ta0 E14 X0
      have B14x := bx_g15 W Ta0 rgF9_fr E14.2.2.2.2 X0
      have s14 := sx y140_2 x83_5 u2 l51 (by omega)
      have o14 := od x83_5.toNatClampNeg (by omega)
      have ko14 := cnk o14.1
      refine ⟨?_, ?_⟩
      · rw [inb_iff, w14.2.2.2.2]; omega  -- b6
      intro T14
      refine So_fillRow_q6 W140 T14 ρ14 (fun i j => (i < x83_5.toNatClampNeg ∧ (j < m9 ∨ j = 32)) ∨ (i = x83_5.toNatClampNeg ∧ j = 32)) M14 n9 f9 m9 (by rw [s14.2, w14.1]; exact uB_e15 B14x (hU9 _ (by omega))) (fun j hj => by rw [s14.2, w14.1, od_e15 B14x, B14x.2.2.2.2.1, B14x.2.2.2.2.1]; exact Int32.toInt.inj ((mK j hj).trans (mK _ (by omega)).symm)) ?_ (fun κ_15 q16 => ?_)
      · rw [s14.2, w14.1]
        refine ⟨E14.2.1, E14.2.2.1, E14.2.2.2.1.1, X14.1, ⟨hfn.1, ?_, fun r hr => ?_, fun s r hs hr e => ?_⟩, ⟨hm, u3⟩, ⟨l51, by omega⟩, rfl, Q14⟩
        · rw [er14, E14.2.2.2.2.l (ty_soRows W Ta0)]
          exact hrows
        · rw [w14.1, er14]
          exact rw14 r hr
        · refine rm_9 X14.1.2.1 (c := a1.toNatClampNeg) ?_ ?_ ?_ hs hr e
          · rw [w14.2.2.2.1]; omega
          · rw [w14.2.2.1]; exact hf
          · rw [w14.2.2.1]; exact hfm
      obtain ⟨q16, z9⟩ := q16
      have zf := z9
      intro W17
      intro M18
      intro x19 hx19
      obtain ⟨⟨ρ15, E15⟩, ⟨er15, ra15⟩, R15, F15, Q15⟩ := q16
      have ix := cn1 (x := x83_5) (by omega) (by omega)
      have tw14 : zT τ140 (zR κ soWhole a0) = 8 := E14.2.2.2.2.t tw (by decide)
      have tl14 : zT τ140 (zR κ soLess a0) = 8 := E14.2.2.2.2.t tl (by decide)
      have nw := rg_n9 (c := 0) W140 tw14 E15 (by rw [E14.1 _ lw, S0.1.1]; unfold ceR9; decide)
      have nl := rg_n9 (c := 0) W140 tl14 E15 (by rw [E14.1 _ ll, h8]; unfold ceR9; decide)
      have Ef := rg_t9 W Ta0 E14 (rg_m9 (fun r h => Or.inr h) E15)
      refine lp_b5 ?_ (fun d9 => ⟨rfl, ?_⟩)
      · rw [hn83, hx19, ix.2]; omega  -- d8
      · refine and_5 ?_ (fun o9 => ?_)  -- i9
        · refine ⟨rfl, ⟨ρ15, Ef⟩, ⟨by rw [nw.2.1]; exact D14, by rw [nl.2.1]; exact hl14⟩, ⟨u2, u3⟩, ⟨by rw [hx19, ix.2]; omega, by rw [hx19, ix.2]; omega⟩, ⟨by rw [er15]; exact er14, fun r hr => ?_⟩, fun i j => if i = x83_5.toNatClampNeg ∧ j < m9 then R15 j else M14 i j, fun i j hi hj => ?_, fun i hi => ?_, cp_m9 Q15 (fun i j z => ?_)⟩
          · rw [← er14, ra15, er14]
            exact rw14 r hr
          · rw [hx19, ix.1] at hi
            dsimp only
            by_cases e : i = x83_5.toNatClampNeg
            · rw [if_pos ⟨e, hj⟩, e]
              have q := fl_f9 W Ta0 E14 X0 (F15 j hj)
              rw [s14.2, w14.1] at q
              exact q
            · rw [if_neg (fun y => e y.1)]
              exact F14 i j (by omega) hj
          · rw [hx19, ix.1] at hi
            dsimp only
            rw [if_neg (by omega)]
            exact B14 i (by omega)
          · rw [hx19, ix.1] at z
            refine ⟨?_, rfl⟩
            by_cases e : i = x83_5.toNatClampNeg
            · rcases z.2 with y | y
              · exact Or.inr ⟨e, y⟩
              · exact Or.inl (Or.inr ⟨e, y⟩)
            · exact Or.inl (Or.inl ⟨by omega, z.2⟩)
        · rw [s14.2, w14.1] at zf
          have q14 := fun i j h => cV_p15 (i := i) (j := j) Q14 h
          have old : ∀ i j, (i < x83_5.toNatClampNeg ∧ (j < m9 ∨ j = 32)) ∨ (i = x83_5.toNatClampNeg ∧ j = 32) → cV15 κ_15 a0 i j = cV15 τ140 a0 i j := fun i j h => by
            rw [q14 i j h, cV_p15 Q15 (Or.inl h)]
            exact if_neg (by omega)
          have w9 : nuN κ_15 (zR κ soWhole a0) = nuN τ140 (zR κ soWhole a0) := nw.2.1
          obtain ⟨hD, ⟨hO, hN⟩, hV⟩ := hE
          rw [hx19, ix.1]
          refine ⟨⟨by rw [w9]; exact hD.1, fun r hr b h1 h2 h3 => by rw [w9]; exact hD.2 r hr b h1 h2 h3⟩, fun i hi => ?_, hV⟩
          have colB : ∀ i, i ≤ x83_5.toNatClampNeg → rB15 κ τ140 a0 V9 f9 i → rB15 κ κ_15 a0 V9 f9 i := fun i hi z => by
            unfold rB15 at z ⊢
            rw [old i 32 (by omega), w9]
            exact z
          by_cases e : i = x83_5.toNatClampNeg
          · refine ⟨fun j hj => ?_, by rw [e]; exact colB _ (Nat.le_refl _) hN⟩
            have z := zf j hj
            rw [bW_e15 B14x, od_e15 B14x, X14.2.2.1, dvA_f9 W rgF9_fr E14.2.2.2.2 (ty_soAtlas W Ta0)] at z
            rw [e]
            refine ⟨fun y => z.1 y, fun y => ?_⟩
            have t := dN_15 X0 (k := (zA κ (zR κ weOrder (zR κ soWeb a0)) (f9 + x83_5.toNatClampNeg)).toNatClampNeg) (odn _ (by omega))
            rw [z.2 y, ← t]
            rfl
          · have il : i < x83_5.toNatClampNeg := by omega
            refine ⟨fun j hj => ?_, colB i (by omega) (hO i il).2⟩
            rw [old i j (Or.inl ⟨il, Or.inl hj⟩)]
            exact (hO i il).1 j hj
    refine ⟨fun c20 => ?_, fun c20 => ?_⟩
    · skip
      refine ⟨fun c21 => ?_, fun c21 => ?_⟩
      · skip
        unfold w_So_visitRing_177
        refine ⟨fun n l0 l2 l3 l5 τ => n = (l3.toInt - l5.toInt).toNat ∧ ((a0 = l0 ∧ (∃ ρ', rgE9 vrR9 ρ κ τ a0 ρ' ∧ ∃ (M : Nat → Nat → Nat) (q9 : Nat), clI9 ρ' τ a0 m9 M ∧ ((l5 = 0 → q9 = 1) ∧ (¬ l5 = 0 → q9 = M (l5.toNatClampNeg - 1) (l5.toNatClampNeg - 1))) ∧ bz9 M m9 l5.toNatClampNeg q9 (pB9 1501) 8000000) ∧ (dz9 (nuN τ (zR κ soWhole a0)) P9 ∧ nuN τ (zR κ soLess a0) < pB9 4000 ∧ zR τ soRows a0 = zR κ soRows a0) ∧ (l2.toInt = (f9 : Int) ∧ l3.toInt = (m9 : Int)) ∧ (0 ≤ l5.toInt ∧ l5.toInt + 1 ≤ l3.toInt)) ∧ rM15 κ τ a0 V9 f9 m9 l5), ⟨_, rfl, ?_⟩, ?_⟩
        · refine and_5 ?_ (fun o9 => ?_)  -- j10
          · rw [lei] at c20
            have e5 : x83_5.toNatClampNeg = m9 := by omega
            rw [e5] at F8 B8 Q8
            refine ⟨rfl, ⟨ρ83, E8, M8, 1, cp_i9 E8.2.2.1 ⟨by omega, hm⟩ Q8 (fun i j hi hj => ⟨hi, hj⟩), ⟨fun _ => rfl, fun z => absurd rfl z⟩, rg_d9 X0 hfn.1 F8 B8⟩, ⟨D8, hl8, er8⟩, ⟨z2, z3⟩, ⟨by decide, by rw [t0i]; omega⟩⟩
          · rw [lei] at c20
            have e5 : x83_5.toNatClampNeg = m9 := by omega
            obtain ⟨hD, hO, hV⟩ := hE
            rw [e5] at hO hV F8 B8 Q8
            exact rM_015 hm hD hO (hV.2 c21) rfl (fun i j hi hj => cV_p15 Q8 ⟨hi, Or.inl hj⟩) (fun j hj => ((rg_d9 X0 hfn.1 F8 B8).2.1 j (Nat.zero_le j) hj).1)
        rintro n177 _ x177_2 x177_3 x177_5 κ177 W177 T177_0 ⟨hn177, ⟨rfl, i177⟩, hE⟩
        obtain ⟨⟨ρ7, E7, M7, q7, K7, Q7, B7⟩, ⟨D7, hl7, er7⟩, ⟨y2, y3⟩, l57⟩ := i177
        have ke := cnk l57.1
        have k3 := cnk (x := x177_3) (by omega)
        have d3 := dec_9 (x := x177_3) (by omega) (fun z => by rw [z, t0i] at y3; omega)
        refine ⟨fun c22 => ?_, fun c22 => ?_⟩
        · skip
          intro T23
          refine So_cell_c2 W177 T23  ?_ (fun r24 q26 => ?_)
          · rw [lei] at c22
            have e1 : (x177_3 - 1).toNatClampNeg = m9 - 1 := by omega
            rw [e1]
            exact ⟨K7.1, ⟨d3.2.2.2, by omega⟩, ⟨d3.2.2.2, by omega⟩, (K7.2 _ _ (by omega) (Or.inl (by omega))).1⟩
          intro W27
          intro M28
          intro T29
          intro T30
          intro T31
          rw [lei] at c22
          have e1 : (x177_3 - 1).toNatClampNeg = m9 - 1 := by omega
          rw [e1] at q26
          have e57 : x177_5.toNatClampNeg = m9 - 1 := by omega
          rw [e57] at B7
          have hA : M7 (m9 - 1) (m9 - 1) ≤ 8000000 ^ m9 := by
            have q := (bz9_e B7 (i := m9 - 1) (j := m9 - 1) (by omega) (by omega) (by omega) (by omega)).2
            rw [show m9 - 1 + 1 = m9 by omega] at q
            exact q
          have h32 : ∀ r, r < m9 → M7 r 32 ≤ 8000000 ^ 31 * 2 ^ 31 * pB9 1501 := fun r hr => by
            obtain ⟨b1, _, b3, _, b5⟩ := B7
            by_cases z : r < m9 - 1
            · exact Nat.le_trans (b5 r z) (Nat.mul_le_mul_right _ (Nat.mul_le_mul (Nat.pow_le_pow_right (by decide) (by omega)) (Nat.pow_le_pow_right (by decide) (by omega))))
            · exact Nat.le_trans (b3 r (by omega) hr) (Nat.mul_le_mul_right _ (Nat.mul_le_mul (Nat.le_trans b1 (Nat.pow_le_pow_right (by decide) (by omega))) (Nat.pow_le_pow_right (by decide) (by omega))))
          refine So_putBack_q6 W27 T30 T31 ρ7 M7 m9 (8000000 ^ 63 * 2 ^ 31 * pB9 1501) ?_ (fun κ_32 q33 => ?_)
          · refine ⟨E7.2.1, K7, ⟨hfn.2, hm, y3⟩, q26, fun r c h1 h2 h3 => ?_, fun r hr => ?_, ?_⟩
            · by_cases z : r < m9 - 1
              · exact B7.2.2.2.1 r c z h2 h3
              · have er : r = m9 - 1 := by omega
                have ec : c = m9 - 1 := by omega
                rw [er, ec]
                exact (bz9_e B7 (i := m9 - 1) (j := m9 - 1) (by omega) (by omega) (by omega) (by omega)).2
            · have q := Nat.mul_le_mul_right (8000000 ^ 32) (h32 r hr)
              refine Nat.le_trans q (Nat.le_of_eq ?_)
              rw [show (63 : Nat) = 31 + 32 from rfl, Nat.pow_add]
              generalize 8000000 ^ 31 = x
              generalize 8000000 ^ 32 = y
              generalize pB9 1501 = z
              generalize 2 ^ 31 = t
              simp only [Nat.mul_assoc, Nat.mul_comm, Nat.mul_left_comm]
            · exact big_9
          obtain ⟨q33, z9⟩ := q33
          obtain ⟨x9, A9p, W9p, y9, eX9⟩ := rM_z15 X0 hfn.1 hm hfn.2 e57 hE9 hC9 (fun i j hi hj => cV_c15 K7 hi hj) Q7 odn hE z9.2.1 z9.2.2
          obtain ⟨X9, hX9⟩ : ∃ X : Nat → Rat, X = fun r => mkRat ((x9 r * dvN9 κ (zR κ soAtlas a0) (od15 κ a0 (f9 + r)) : Nat) : Int) (M7 (m9 - 1) (m9 - 1) * nuN κ177 (zR κ soWhole a0)) := ⟨_, rfl⟩
          rw [← hX9] at eX9
          obtain ⟨⟨Zb, Nb, Sb⟩, M2, K2, e2, b2⟩ := q33
          have Eb := rg_t9 W Ta0 E7 (rg_so9 (R' := vrR9) W27 T177_0 E7.2.2.1 E7.2.2.2.1.1 Zb (fun r h => by
            rcases h with h | h
            · exact Or.inl (by omega)
            · exact Or.inr h) ⟨Nb, Sb⟩)
          have tw7 : zT κ177 (zR κ soWhole a0) = 8 := E7.2.2.2.2.t tw (by decide)
          have tl7 : zT κ177 (zR κ soLess a0) = 8 := E7.2.2.2.2.t tl (by decide)
          have r7w : ρ7 (zR κ soWhole a0) = 1 := by rw [E7.1 _ lw]; exact S0.1.1
          have r7l : ρ7 (zR κ soLess a0) = 8 := by rw [E7.1 _ ll]; exact h8
          have nw := soF_B (c := 6500) W27 tw7 Zb (by rw [r7w]; unfold elR9; decide)
          have ew2 : zR κ_32 soWhole a0 = (zR κ soWhole a0) := (rg_r9 W Ta0 Eb (by decide)).1
          have el2 : zR κ_32 soLess a0 = (zR κ soLess a0) := (rg_r9 W Ta0 Eb (by decide)).1
          have U2 := (so_rw9 W27 T177_0 Zb).2.2.2
          have kA2 := K2.2 (m9 - 1) (m9 - 1) (by omega) (Or.inl (by omega))
          have gA2 := cl_g9 Nb K2 (i := m9 - 1) (j := m9 - 1) (by omega) (Or.inl (by omega))
          rw [U2, ← q26, e2 _ _ (by omega)] at kA2
          rw [U2, ← q26] at gA2
          have gw2 := nm_g Nb r7w (Or.inl ⟨by decide, by decide⟩) (by decide)
          have gl2 := nm_g Nb r7l (Or.inl ⟨by decide, by decide⟩) (by decide)
          have xA := nuK_lt gA2.2.2.1 (k := 24) (by rw [kA2.2.2]; exact Nat.lt_of_le_of_lt hA (dp_9 hm))
          have lw7 : nuN κ177 (zR κ soWhole a0) < pB9 1490 := Nat.lt_of_le_of_lt (dz9_le D7 P0) P1
          have xw := nuK_lt gw2.1 (k := 1490) (by rw [nw.2.1]; exact lw7)
          intro W34
          intro M35
          intro T36
          intro T37
          intro T38
          refine Nu_product_c W34 T36 T37 T38 6500 30000000 30000000 ?_ (fun κ_39 q40 => ?_)
          · rw [el2, ew2]
            exact ⟨gl2.2.2, ⟨gA2.2.2.1, gw2.2.1⟩, ⟨ro_n r7l kA2.2.1 (by omega), ro_n r7l r7w (by decide)⟩, by omega, by decide⟩
          intro W41
          intro M42
          rw [el2, ew2, kA2.2.2, nw.2.1] at q40
          obtain ⟨Fl, Il, Vl⟩ := q40
          have T32 : zT κ_32 a0 = 12 := Zb.t T177_0 (by decide)
          have Zl : zF (soF ρ7 (fun r => r = 8) (zR κ_32 soCalc a0)) κ_32 κ_39 := soF_1 r7l Fl
          have N39 : nmI ρ7 κ_39 ∧ soI ρ7 κ_39 a0 := ⟨nm_1 W34 Nb Fl (by rw [r7l]; exact Il), so_1 W34 T32 Sb Fl⟩
          have E39 := rg_t9 W Ta0 Eb (rg_so9 (R' := vrR9) W34 T32 Eb.2.2.1 Eb.2.2.2.1.1 Zl (fun r h => Or.inl (by omega)) N39)
          have K39 := cl_f9 W34 T32 Nb Zl (fun r h z => by omega) K2
          have V39 := rg_v9 W Ta0 N0 hn vrR9_v E39 V0
          have er39 : zR κ_39 soRows a0 = zR κ soRows a0 := by
            rw [(soF_r9 Zl (by decide)).1, (soF_r9 Zb (by decide)).1]
            exact er7
          unfold w_So_visitRing_233
          refine ⟨fun n l0 l2 l3 l6 τ => n = (l3.toInt - l6.toInt).toNat ∧ ((a0 = l0 ∧ (l2.toInt = (f9 : Int) ∧ l3.toInt = (m9 : Int)) ∧ (0 ≤ l6.toInt ∧ l6.toInt ≤ l3.toInt) ∧ zR τ soRows a0 = zR κ soRows a0 ∧ ∃ (ρ' : Nat → Nat) (M : Nat → Nat → Nat) (A9 : Nat), rgE9 (fun _ => True) ρ κ τ a0 ρ' ∧ clI9 ρ' τ a0 m9 M ∧ (∀ i, i < m9 → M i 32 < pB9 1960) ∧ A9 ≤ 8000000 ^ m9 ∧ (∃ w, dz9 w P9 ∧ nuN τ (zR κ soLess a0) = A9 * w) ∧ vsI9 ρ' τ a0 n9 (P9 * ((if A9 = 0 then 1 else A9) * pd9 (fun i => dvN9 κ (zR κ soAtlas a0) (zA κ (zR κ weOrder (zR κ soWeb a0)) (f9 + i)).toNatClampNeg) m9))) ∧ nuN τ (zR κ soLess a0) = M7 (m9 - 1) (m9 - 1) * nuN κ177 (zR κ soWhole a0) ∧ (∀ r, r < m9 → cV15 τ a0 r 32 = x9 r) ∧ (∀ i, i < l6.toNatClampNeg → rqW8 τ (vU9 τ a0 (od15 κ a0 (f9 + i))) (X9 i) ∧ f2W8 (X9 i)) ∧ ∀ k, k < n9 → (∀ i, i < l6.toNatClampNeg → od15 κ a0 (f9 + i) ≠ k) → rqW8 τ (vU9 τ a0 k) (V9 k)), ⟨_, rfl, ?_⟩, ?_⟩
          · refine and_5 ?_ (fun o9 => ?_)  -- j14
            · exact ⟨rfl, ⟨y2, y3⟩, ⟨by decide, by rw [t0i]; omega⟩, er39, ρ7, M2, M7 (m9 - 1) (m9 - 1), rg_m9 (fun _ _ => trivial) E39, K39, b2, hA, ⟨nuN κ177 (zR κ soWhole a0), D7, Vl⟩, vsI9_m (Nat.dvd_mul_right _ _) V39.1⟩
            · have cc : ∀ r, r < m9 → cV15 κ_39 a0 r 32 = cV15 κ_32 a0 r 32 := fun r hr => (cV_c15 K39 hr (Or.inr rfl)).trans (cV_c15 K2 hr (Or.inr rfl)).symm
              exact ⟨Vl, fun r hr => (cc r hr).trans (y9 r hr).1, fun i h => absurd h (Nat.not_lt_zero i), fun k hk _ => (vV_g15 W Ta0 N0 hn vrR9_v E39 V0 hV9 k hk).1⟩
          rintro n233 _ x233_2 x233_3 x233_6 κ233 W233 T233_0 ⟨hn233, ⟨rfl, i233⟩, hE⟩
          obtain ⟨⟨v2, v3⟩, l6, er3, ρ3, M3, A3, E3, K3, B3, hA3, ⟨w3, Dw3, Lw3⟩, V3⟩ := i233
          have kf := cnk l6.1
          have X3 := rg_x9 W Ta0 E3 X0
          have w9 := rg_w9 W Ta0 E3 X0
          have es3 : zR κ233 soSum a0 = (zR κ soSum a0) := (rg_r9 W Ta0 E3 (by decide)).1
          have el3 : zR κ233 soLess a0 = (zR κ soLess a0) := (rg_r9 W Ta0 E3 (by decide)).1
          have lA3 : A3 < pB9 24 := Nat.lt_of_le_of_lt hA3 (dp_9 hm)
          have lL3 : nuN κ233 (zR κ soLess a0) < pB9 1514 := lL_9 Lw3 lA3 (Nat.lt_of_le_of_lt (dz9_le Dw3 P0) P1)
          refine ⟨fun c43 => ?_, fun c43 => ?_⟩
          · skip
            refine h _ _ ?_
            · refine and_5 ?_ (fun o9 => ?_)  -- q15
              · refine ⟨Or.inr rfl, ρ3, E3, Nat.lt_of_lt_of_le lL3 (pB9_l (by decide)), er3, fun _ => ⟨_, ?_, V3⟩⟩
                have pd := pd9_b (f := fun i => dvN9 κ (zR κ soAtlas a0) (zA κ (zR κ weOrder (zR κ soWeb a0)) (f9 + i)).toNatClampNeg) (D := 8000000) (n := m9) (fun i hi => ⟨dvN9_p, by
                  have o := od i hi
                  have k := cnk o.1
                  have d := dv_9 X0 (k := (zA κ (zR κ weOrder (zR κ soWeb a0)) (f9 + i)).toNatClampNeg) (by omega)
                  unfold dvN9
                  split <;> omega⟩)
                have pA : 0 < 8000000 ^ m9 := Nat.pow_pos (by decide)
                refine ⟨Nat.mul_pos (by split <;> omega) pd.1, ?_⟩
                rw [Nat.two_mul, Nat.pow_add]
                refine Nat.mul_le_mul ?_ pd.2
                split <;> omega
              · rw [lei] at c43
                obtain ⟨_, _, h3, h4⟩ := hE
                exact ⟨X9, eX9, fun _ => ⟨fun i hi => h3 i (by omega), fun k hk h => h4 k hk (fun i hi => h i (by omega))⟩, fun z => absurd z (by decide)⟩
          · skip
            rw [lei] at c43
            have s9 := sx x233_2 x233_6 v2 l6.1 (by omega)
            have o9 := od x233_6.toNatClampNeg (by omega)
            have ko9 := cnk o9.1
            refine ⟨?_, ?_⟩
            · rw [inb_iff, w9.2.2.2.2]; omega  -- b16
            intro x44 hx44
            intro T45
            rw [s9.2, w9.1] at hx44
            have r3s : ρ3 (zR κ soSum a0) = 7 := by rw [E3.1 _ ls]; exact h7
            have r3l : ρ3 (zR κ soLess a0) = 8 := by rw [E3.1 _ ll]; exact h8
            refine So_cell_c2 W233 T45  ?_ (fun r46 q48 => ?_)
            · rw [t32]
              exact ⟨K3.1, ⟨l6.1, by omega⟩, ⟨by decide, by decide⟩, (K3.2 _ _ (by omega) (Or.inr rfl)).1⟩
            intro W49
            intro M50
            intro T51
            intro T52
            intro T53
            rw [t32] at q48
            have kC := K3.2 x233_6.toNatClampNeg 32 (by omega) (Or.inr rfl)
            have gC := cl_g9 E3.2.1.1 K3 (i := x233_6.toNatClampNeg) (j := 32) (by omega) (Or.inr rfl)
            rw [← q48] at kC gC
            rw [show capR (1000000 + (33 * x233_6.toNatClampNeg + 32)) = 3000 by rw [cap_c9 (by omega) (Nat.le_refl _)]; rfl] at gC
            have gS3 := nm_g E3.2.1.1 r3s (Or.inl ⟨by decide, by decide⟩) (by decide)
            have xC := nuK_lt gC.2.2.1 (k := 1960) (by rw [kC.2.2]; exact B3 _ (by omega))
            refine Nu_copy_c W49 T52 T53 6500 3000 ?_ (fun κ_54 q55 => ?_)
            · rw [es3]
              exact ⟨gS3.2.2, gC.2.1.1, ro_n r3s kC.2.1 (by omega), by omega, by decide⟩
            rw [es3] at q55
            obtain ⟨Fc, Bc, Vc, Kc, Zc⟩ := q55
            have Zs : zF (soF ρ3 (fun r => r = 7) (zR κ233 soCalc a0)) κ233 κ_54 := soF_1 r3s Fc
            have Ic : nuI κ_54 (zR κ soSum a0) 6500 := ⟨Bc, Zc gC.2.1.2⟩
            have N54 : nmI ρ3 κ_54 ∧ soI ρ3 κ_54 a0 := ⟨nm_1 W233 E3.2.1.1 Fc (by rw [r3s]; exact Ic), so_1 W233 T233_0 E3.2.1.2 Fc⟩
            have E54 := rg_t9 W Ta0 E3 (rg_so9 (R' := fun _ => True) W233 T233_0 E3.2.2.1 E3.2.2.2.1.1 Zs (fun _ _ => trivial) N54)
            have T54 : zT κ_54 a0 = 12 := Zs.t T233_0 (by decide)
            have X54 := rg_x9 W Ta0 E54 X0
            have es54 : zR κ_54 soSum a0 = (zR κ soSum a0) := (rg_r9 W Ta0 E54 (by decide)).1
            have od9 : 0 ≤ x44.toInt ∧ x44.toInt < n9 := by rw [hx44]; exact o9
            have kx := cnk od9.1
            intro W56
            intro M57
            intro T58
            refine At_divisorOf_c W56 T58  ?_ (fun r59 q61 => ?_)
            · exact ⟨X54.1.2.2.1.1, od9.1, by omega⟩  -- p19
            intro W62
            intro M63
            intro T64
            have rd : r59 = dvA κ (zR κ soAtlas a0) x44.toNatClampNeg := by
              have q := q61
              rw [X54.2.2.1] at q
              exact q.trans (dvA_f9 W rgF9_fr E54.2.2.2.2 (ty_soAtlas W Ta0) _)
            have dv := dv_9 X0 (k := x44.toNatClampNeg) (by omega)
            rw [← rd] at dv
            have e64 := Int32.toInt_toInt64 r59
            refine Nu_times_c W62 T64 6500 ?_ (fun κ_65 q66 => ?_)
            · rw [es54, e64, Kc]
              exact ⟨Ic, ⟨by omega, by omega⟩, by omega, by decide⟩
            intro W67
            intro M68
            rw [es54, e64, Vc, kC.2.2] at q66
            obtain ⟨Ft, It, Vt⟩ := q66
            have Zt : zF (soF ρ3 (fun r => r = 7) (zR κ_54 soCalc a0)) κ_54 κ_65 := soF_1 r3s Ft
            have N65 : nmI ρ3 κ_65 ∧ soI ρ3 κ_65 a0 := ⟨nm_1 W56 N54.1 Ft (by rw [r3s]; exact It), so_1 W56 T54 N54.2 Ft⟩
            have E65 := rg_t9 W Ta0 E54 (rg_so9 (R' := fun _ => True) W56 T54 E54.2.2.1 E54.2.2.2.1.1 Zt (fun _ _ => trivial) N65)
            have T65 : zT κ_65 a0 = 12 := Zt.t T54 (by decide)
            have X65 := rg_x9 W Ta0 E65 X0
            have xv65 := X65.1.2.2.2
            have ec54 : zR κ_54 soCalc a0 = zR κ233 soCalc a0 := (soF_r9 Zs (by decide)).1
            have Zst : zF (soF ρ3 (fun r => r = 7) (zR κ233 soCalc a0)) κ233 κ_65 := Zs.tr (by rw [ec54] at Zt; exact Zt)
            have V65 := vsI9_f W233 T233_0 E3.2.1.1 Zst hn (fun r h z => by omega) V3
            have U65 := vU9_f W233 T233_0 Zst
            have K65 := cl_f9 W233 T233_0 E3.2.1.1 Zst (fun r h z => by omega) K3
            obtain ⟨g1, g2, g3⟩ := V65 x44.toNatClampNeg (by omega)
            have es65 : zR κ_65 soSum a0 = (zR κ soSum a0) := (rg_r9 W Ta0 E65 (by decide)).1
            have el65 : zR κ_65 soLess a0 = (zR κ soLess a0) := (rg_r9 W Ta0 E65 (by decide)).1
            have nl65 := soF_B (c := 0) (w := (zR κ soLess a0)) W233 (E3.2.2.2.2.t tl (by decide)) Zst (by rw [r3l]; decide)
            have lS65 : nuN κ_65 (zR κ soSum a0) < pB9 4000 := by
              rw [Vt]
              have q : M3 x233_6.toNatClampNeg 32 * r59.toInt.toNat < pB9 1960 * pB9 1 := Nat.mul_lt_mul'' (B3 _ (by omega)) (by unfold pB9; omega)
              rw [← pB9_a] at q
              exact Nat.lt_of_lt_of_le q (pB9_l (by decide))
            refine ⟨?_, ?_⟩
            · rw [inb_iff]; omega  -- b21
            refine ex_some ?_ (fun u69 hu69 => ?_)
            · exact ⟨_, g1⟩  -- e22
            intro T70
            intro T71
            intro T72
            intro T73
            have eu : u69 = vU9 κ_65 a0 x44.toNatClampNeg := Option.some.inj (hu69.symm.trans g1)
            subst eu
            refine So_keep_q6 W67 T70 T71 T72 T73 ρ3 (100 + 8 * x44.toNatClampNeg) 7 8 ?_ (fun r74 κ_75 q76 => ?_)
            · refine ⟨N65, ⟨g2, by omega, by omega, by omega⟩, ⟨by rw [es65]; exact r3s, Or.inl ⟨by decide, by decide⟩, by decide⟩, ⟨by rw [el65]; exact r3l, Or.inl ⟨by decide, by decide⟩, by decide⟩, by rw [es65]; exact lS65, ?_⟩
              rw [el65, nl65.2.1]
              exact Nat.lt_of_lt_of_le lL3 (pB9_l (by decide))
            obtain ⟨q76, z9⟩ := q76
            have zk := z9
            rw [es65, el65, nl65.2.1] at q76
            obtain ⟨nbk, ⟨Zk, Nk, Sk⟩, _, Kk⟩ := q76
            have E75 := rg_t9 W Ta0 E65 (rg_so9 (R' := fun _ => True) W67 T65 E65.2.2.1 E65.2.2.2.1.1 Zk (fun _ _ => trivial) ⟨Nk, Sk⟩)
            have T75 : zT κ_75 a0 = 12 := Zk.t T65 (by decide)
            have nl75 := soF_B (c := 0) (w := (zR κ soLess a0)) W67 (by rw [← el65]; exact ty_soLess W67 T65) Zk (by rw [r3l]; unfold kpR9 stR9; omega)
            have er75 : zR κ_75 soRows a0 = zR κ soRows a0 := by
              rw [(soF_r9 Zk (by decide)).1, (soF_r9 Zst (by decide)).1]
              exact er3
            intro W77
            intro M78
            refine ⟨fun c79 => ?_, fun c79 => ?_⟩
            · skip
              intro x80 hx80
              refine lp_b5 ?_ (fun d9 => ⟨rfl, ?_⟩)
              · have ix := cn1 (x := x233_6) (by omega) (by omega)
                rw [hn233, hx80, ix.2]; omega
              · refine and_5 ?_ (fun o9 => ?_)  -- i25
                · have ix := cn1 (x := x233_6) (by omega) (by omega)
                  have K75 := cl_f9 W67 T65 N65.1 Zk (fun r h z => by
                    rcases z with (z | z | z | z) | z | z | z <;> omega) K65
                  refine ⟨rfl, ⟨v2, v3⟩, ⟨by rw [hx80, ix.2]; omega, by rw [hx80, ix.2]; omega⟩, er75, ρ3, M3, A3, E75, K75, B3, hA3, ⟨w3, Dw3, by rw [nl75.2.1, nl65.2.1]; exact Lw3⟩, fun k hk => ?_⟩
                  obtain ⟨q1, q2, q3⟩ := V65 k hk
                  obtain ⟨e3, e4⟩ := vU9_f W67 T65 Zk
                  have ea : zR κ_75 soAtlas a0 = zR κ_65 soAtlas a0 := (soF_r9 Zk (by decide)).1
                  have dd := dvA_f9 W67 soF_fr Zk (ty_soAtlas W67 T65) k
                  have dN : dvN9 κ_75 (zR κ_65 soAtlas a0) k = dvN9 κ_65 (zR κ_65 soAtlas a0) k := by unfold dvN9; rw [dd]
                  rw [e3, e4, ea, dN]
                  refine ⟨q1, q2, ?_⟩
                  by_cases z : k = x44.toNatClampNeg
                  · obtain ⟨⟨f1, f2⟩, f3, f4, f5⟩ := Kk c79
                    rw [← z] at f3 f4 f5
                    intro _
                    rw [f4, f5]
                    refine ⟨f1, f2, ?_⟩
                    have d65 : dvN9 κ_65 (zR κ_65 soAtlas a0) k = dvN9 κ (zR κ soAtlas a0) (zA κ (zR κ weOrder (zR κ soWeb a0)) (f9 + x233_6.toNatClampNeg)).toNatClampNeg := by
                      unfold dvN9
                      rw [X65.2.2.1, dvA_f9 W rgF9_fr E65.2.2.2.2 (ty_soAtlas W Ta0) k, z, hx44]
                    rw [d65]
                    have dl : dz9 (nuN κ233 (zR κ soLess a0)) (P9 * (if A3 = 0 then 1 else A3)) := by
                      rw [Lw3]
                      by_cases y : A3 = 0
                      · left; rw [y, Nat.zero_mul]
                      · rw [if_neg y, Nat.mul_comm A3]
                        exact dz9_mul Dw3
                    have dg := dz9_mul (d := dvN9 κ (zR κ soAtlas a0) (zA κ (zR κ weOrder (zR κ soWeb a0)) (f9 + x233_6.toNatClampNeg)).toNatClampNeg) (dz9_div dl (Nat.gcd_dvd_right (nuN κ_65 (zR κ soSum a0)) (nuN κ233 (zR κ soLess a0))))
                    refine dz9_m dg ?_
                    rw [Nat.mul_assoc]
                    refine Nat.mul_dvd_mul (Nat.dvd_refl _) (Nat.mul_dvd_mul (Nat.dvd_refl _) ?_)
                    exact pd9_d (f := fun i => dvN9 κ (zR κ soAtlas a0) (zA κ (zR κ weOrder (zR κ soWeb a0)) (f9 + i)).toNatClampNeg) (k := x233_6.toNatClampNeg) (n := m9) (by omega)
                  · exact vsK9_f W67 N65.1 Zk q2 (vs_r9 (by omega)) ⟨by unfold kpR9 stR9; omega, by unfold kpR9 stR9; omega, by unfold kpR9 stR9; omega⟩ q3
                · have ix := cn1 (x := x233_6) (by omega) (by omega)
                  have K75 := cl_f9 W67 T65 N65.1 Zk (fun r h z => by
                    rcases z with (z | z | z | z) | z | z | z <;> omega) K65
                  obtain ⟨h1, h2, h3, h4⟩ := hE
                  have ox : od15 κ a0 (f9 + x233_6.toNatClampNeg) = x44.toNatClampNeg := by rw [hx44]
                  have T0 : r59.toInt.toNat = dvN9 κ (zR κ soAtlas a0) x44.toNatClampNeg := by
                    have t := dN_15 X0 (k := x44.toNatClampNeg) (by omega)
                    rw [← rd] at t
                    omega
                  have cx : M3 x233_6.toNatClampNeg 32 = x9 x233_6.toNatClampNeg := (cV_c15 K3 (by omega) (Or.inr rfl)).symm.trans (h2 _ (by omega))
                  have xp := (y9 x233_6.toNatClampNeg (by omega)).2
                  rw [es65, el65, nl65.2.1, h1, Vt, cx, T0] at zk
                  have kk := Kk
                  rw [Vt, cx, T0, h1] at kk
                  have AW := Nat.mul_pos A9p W9p
                  have XE : X9 x233_6.toNatClampNeg = mkRat ((x9 x233_6.toNatClampNeg * dvN9 κ (zR κ soAtlas a0) x44.toNatClampNeg : Nat) : Int) (M7 (m9 - 1) (m9 - 1) * nuN κ177 (zR κ soWhole a0)) := by rw [hX9, ← ox]
                  have kp := kp_15 (x := X9 x233_6.toNatClampNeg) AW (by rw [XE]; exact mk_p8 AW (Nat.mul_pos xp dvN9_p)) (by
                    have bq := nq0 AW
                    have iv := inv_s (S := ((M7 (m9 - 1) (m9 - 1) * nuN κ177 (zR κ soWhole a0) : Nat) : Rat)) (by grind)
                    rw [XE, mk_d, Rat.intCast_natCast]
                    grind) zk (fun z => (kk z).2)
                  have u75 := (vU9_f W67 T65 Zk).2
                  have st : ∀ k q, k < n9 → k ≠ x44.toNatClampNeg → rqW8 κ233 (vU9 κ233 a0 k) q → rqW8 κ_75 (vU9 κ_75 a0 k) q := fun k q hk ne z => by
                    have s1 := rq_f15 W233 E3.2.1.1 Zst (V3 k hk).2.1 (vs_r9 (by omega)) ⟨by omega, by omega, by omega⟩ z
                    rw [← U65.2] at s1
                    have s2 := rq_f15 W67 N65.1 Zk (V65 k hk).2.1 (vs_r9 (by omega)) ⟨by unfold kpR9 stR9; omega, by unfold kpR9 stR9; omega, by unfold kpR9 stR9; omega⟩ s1
                    rw [u75]
                    exact s2
                  rw [hx80, ix.1]
                  refine ⟨by rw [nl75.2.1, nl65.2.1]; exact h1, fun r hr => ((cV_c15 K75 hr (Or.inr rfl)).trans (cV_c15 K3 hr (Or.inr rfl)).symm).trans (h2 r hr), fun i hi => ?_, fun k hk h => ?_⟩
                  · by_cases e : i = x233_6.toNatClampNeg
                    · rw [e, ox, u75]
                      exact ⟨kp.2 c79, kp.1.mp c79⟩
                    · have z := h3 i (by omega)
                      refine ⟨st _ _ (odn i (by omega)) (fun y => e ?_) z.1, z.2⟩
                      have q := od_i9 X0.2.1 (i := f9 + i) (j := f9 + x233_6.toNatClampNeg) (by omega) (by omega) (y.trans ox.symm)
                      omega
                  · exact st k _ hk (fun y => h x233_6.toNatClampNeg (by omega) (ox.trans y.symm)) (h4 k hk (fun i hi => h i (by omega)))
            · skip
              refine h _ _ ?_
              · refine and_5 ?_ (fun o9 => ?_)  -- q26
                · refine ⟨Or.inl rfl, ρ3, E75, ?_, er75, fun z => absurd rfl z⟩
                  rw [nl75.2.1, nl65.2.1]
                  exact Nat.lt_of_lt_of_le lL3 (pB9_l (by decide))
                · obtain ⟨h1, h2, h3, h4⟩ := hE
                  have ox : od15 κ a0 (f9 + x233_6.toNatClampNeg) = x44.toNatClampNeg := by rw [hx44]
                  have T0 : r59.toInt.toNat = dvN9 κ (zR κ soAtlas a0) x44.toNatClampNeg := by
                    have t := dN_15 X0 (k := x44.toNatClampNeg) (by omega)
                    rw [← rd] at t
                    omega
                  have cx : M3 x233_6.toNatClampNeg 32 = x9 x233_6.toNatClampNeg := (cV_c15 K3 (by omega) (Or.inr rfl)).symm.trans (h2 _ (by omega))
                  have xp := (y9 x233_6.toNatClampNeg (by omega)).2
                  rw [es65, el65, nl65.2.1, h1, Vt, cx, T0] at zk
                  have kk := Kk
                  rw [Vt, cx, T0, h1] at kk
                  have AW := Nat.mul_pos A9p W9p
                  have XE : X9 x233_6.toNatClampNeg = mkRat ((x9 x233_6.toNatClampNeg * dvN9 κ (zR κ soAtlas a0) x44.toNatClampNeg : Nat) : Int) (M7 (m9 - 1) (m9 - 1) * nuN κ177 (zR κ soWhole a0)) := by rw [hX9, ← ox]
                  have kp := kp_15 (x := X9 x233_6.toNatClampNeg) AW (by rw [XE]; exact mk_p8 AW (Nat.mul_pos xp dvN9_p)) (by
                    have bq := nq0 AW
                    have iv := inv_s (S := ((M7 (m9 - 1) (m9 - 1) * nuN κ177 (zR κ soWhole a0) : Nat) : Rat)) (by grind)
                    rw [XE, mk_d, Rat.intCast_natCast]
                    grind) zk (fun z => (kk z).2)
                  have z9' : r74 = 0 := c79
                  exact ⟨X9, eX9, fun z => absurd rfl z, fun _ => ⟨x233_6.toNatClampNeg, by omega, fun z => kp.1.mpr z z9'⟩⟩
        · skip
          intro T81
          rw [lei] at c22
          refine So_eliminate_c W177 T81 ρ7 M7 m9 q7 (pB9 1501) ?_ (fun κ_82 q83 => ?_)
          · exact ⟨E7.2.1, K7, ⟨hm, y3⟩, ⟨l57.1, by omega⟩, Q7, B7, pB9_l (by decide)⟩  -- p27
          intro W84
          intro M85
          intro x86 hx86
          obtain ⟨⟨Ze, Ne, Se⟩, Ke⟩ := q83
          have ix := cn1 (x := x177_5) (by omega) (by omega)
          have Ee := rg_t9 W Ta0 E7 (rg_so9 (R' := vrR9) W177 T177_0 E7.2.2.1 E7.2.2.2.1.1 Ze (fun r h => by
            rcases h with h | h
            · exact Or.inl (by omega)
            · exact Or.inr h) ⟨Ne, Se⟩)
          have tw7 : zT κ177 (zR κ soWhole a0) = 8 := E7.2.2.2.2.t tw (by decide)
          have tl7 : zT κ177 (zR κ soLess a0) = 8 := E7.2.2.2.2.t tl (by decide)
          have nw := soF_B (c := 0) W177 tw7 Ze (by rw [E7.1 _ lw, S0.1.1]; unfold elR9; decide)
          have nl := soF_B (c := 0) W177 tl7 Ze (by rw [E7.1 _ ll, h8]; unfold elR9; decide)
          refine lp_b5 ?_ (fun d9 => ⟨rfl, ?_⟩)
          · rw [hn177, hx86, ix.2]; omega  -- d28
          · refine and_5 ?_ (fun o9 => ?_)  -- i29
            · refine ⟨rfl, ⟨ρ7, Ee, eM9 M7 m9 x177_5.toNatClampNeg q7, M7 x177_5.toNatClampNeg x177_5.toNatClampNeg, Ke, ⟨fun z => ?_, fun _ => ?_⟩, ?_⟩, ⟨by rw [nw.2.1]; exact D7, by rw [nl.2.1]; exact hl7, by rw [(soF_r9 Ze (by decide)).1]; exact er7⟩, ⟨y2, y3⟩, ⟨by rw [hx86, ix.2]; omega, by rw [hx86, ix.2]; omega⟩⟩
              · exfalso
                rw [hx86] at z
                have q := congrArg Int32.toInt z
                rw [ix.2, t0i] at q
                omega
              · rw [hx86, ix.1, Nat.add_sub_cancel, eM9_o (Nat.le_refl _)]
              · rw [hx86, ix.1]
                exact bz9_s hm (by omega) B7
            · have nl' : ¬ x86 = 0 := fun z => by
                rw [hx86] at z
                have q := congrArg Int32.toInt z
                rw [ix.2, t0i] at q
                omega
              refine rM_s15 X0 hfn.1 hm (p := x177_5.toNatClampNeg) (by omega) rfl (by rw [hx86, ix.1]) nl' hE9 (fun i j hi hj => cV_c15 K7 hi hj) Q7 (fun j h5 h6 => (B7.2.1 j h5 h6).1) (fun i j hi hj => cV_c15 Ke hi hj) ?_ odn hE
              exact nw.2.1
      · skip
        refine h _ _ ?_
        · refine and_5 ?_ (fun o9 => ?_)  -- q30
          · exact ⟨Or.inr rfl, ρ83, rg_m9 (fun _ _ => trivial) E8, hl8, er8, fun _ => ⟨1, ⟨by decide, Nat.pow_pos (by decide)⟩, by rw [Nat.mul_one]; exact V8.1⟩⟩
          · rw [lei] at c20
            have e5 : x83_5.toNatClampNeg = m9 := by omega
            obtain ⟨_, _, hV⟩ := hE
            rw [e5] at hV
            have z := hV.1 c21
            have V83 := vV_g15 W Ta0 N0 hn vrR9_v E8 V0 hV9
            refine ⟨fun _ => 0, fun i hi => ⟨Rat.le_refl, ?_⟩, fun _ => ⟨fun i hi => ⟨?_, by show f2W8 0; unfold f2W8; decide⟩, fun k hk _ => (V83 k hk).1⟩, fun y => absurd y (by decide)⟩
            · have q := z i hi
              rw [q, smQ_0 (fun c _ => by
                show (0 : Rat) * _ * _ = 0
                rw [Rat.zero_mul, Rat.zero_mul]), Rat.add_zero]
            · have q := (V83 _ (odn i hi)).1
              rw [mS _ (odn i hi) i hi rfl] at q
              exact q
    · skip
      rw [lei] at c20
      have s8 := sx x83_2 x83_5 z2 l5.1 (by omega)
      have o8 := od x83_5.toNatClampNeg (by omega)
      have ko8 := cnk o8.1
      have B8x := bx_g15 W Ta0 rgF9_fr E8.2.2.2.2 X0
      refine ⟨?_, ?_⟩
      · rw [inb_iff, w8.2.2.2.2]; omega  -- b31
      intro T87
      refine So_sumInflow_q6 W83 T87 ρ83 n9 P9 V9 (vV_g15 W Ta0 N0 hn vrR9_v E8 V0 hV9) (fun s hs y => by rw [s8.2, w8.1] at y; exact mS s hs x83_5.toNatClampNeg (by omega) (((B8x.2.2.2.2.1 s).symm.trans y).trans (B8x.2.2.2.2.1 _))) (fun b h1 h2 h3 => by rw [s8.2, w8.1] at h1 h2; rw [B8x.2.2.1] at h1 h2; rw [B8x.1] at h3 ⊢; rw [B8x.2.2.2.1, ew8]; exact hE.1.2 _ (by omega) b h1 h2 h3) ?_ (fun κ_88 q89 => ?_)
      · rw [s8.2, w8.1, ew8, el8]
        exact ⟨E8.2.1, X8.1, V8.1, o8, Nat.lt_of_le_of_lt (dz9_le D8 P0) P1', hl8⟩
      obtain ⟨q89, z9⟩ := q89
      have zs := z9
      rw [ew8, es8, el8] at q89
      obtain ⟨Zs, ⟨Ns, Ss⟩, Ds, Es⟩ := q89
      have E88 := rg_t9 W Ta0 E8 (rg_so9 (R' := vrR9) W83 T83_0 E8.2.2.1 E8.2.2.2.1.1 Zs (fun r h => Or.inl (by rcases h with (z | z | z) | (z | z | z | z | z | z) <;> omega)) ⟨Ns, Ss⟩)
      have Q88 := cp_so9 W83 T83_0 E8.2.2.1 Zs (fun r h => suR9_l r (by omega)) Q8
      have r8w : ρ83 (zR κ soWhole a0) = 1 := by rw [E8.1 _ lw]; exact S0.1.1
      have r8l : ρ83 (zR κ soLess a0) = 8 := by rw [E8.1 _ ll]; exact h8
      have r8s : ρ83 (zR κ soSum a0) = 7 := by rw [E8.1 _ ls]; exact h7
      have tw8 : zT κ83 (zR κ soWhole a0) = 8 := E8.2.2.2.2.t tw (by decide)
      have nw := soF_B (c := 0) W83 tw8 Zs (by rw [r8w]; unfold suR9 unR9 adR9; decide)
      have sB : nuN κ_88 (zR κ soSum a0) ≤ pB9 1501 := by
        refine Nat.le_trans Ds ?_
        have q : (nuN κ83 (zR κ soWhole a0) + 1) * pB9 11 ≤ pB9 1490 * pB9 11 := Nat.mul_le_mul_right _ (Nat.lt_of_le_of_lt (dz9_le D8 P0) P1)
        rw [← pB9_a] at q
        exact q
      intro W90
      intro M91
      intro T92
      refine So_cell_c W90 T92 ρ83 ?_ (fun r93 κ_94 q95 => ?_)
      · exact ⟨E88.2.1, E88.2.2.1, E88.2.2.2.1.1, ⟨l5.1, by omega⟩, ⟨by decide, by decide⟩⟩  -- p33
      rw [t32] at q95
      obtain ⟨⟨Zc, Zk4⟩, ⟨ρ4, h4, N4, K4⟩, L4, U4, O4⟩ := q95
      have T88 : zT κ_88 a0 = 12 := Zs.t T83_0 (by decide)
      have Ece : rgE9 (fun _ => False) ρ83 κ_88 κ_94 a0 ρ4 := rg_ce9 Zc h4 N4 K4 L4 Zk4
      have E94 := rg_t9 W Ta0 E88 (rg_m9 (fun _ h => h.elim) Ece)
      have Q94 := (cp_ce9 W90 T88 Zc L4 O4 Q88).1
      have T94 : zT κ_94 a0 = 12 := Zc.t T88 (by decide)
      have es94 : zR κ_94 soSum a0 = (zR κ soSum a0) := (rg_r9 W Ta0 E94 (by decide)).1
      have ts88 : zT κ_88 (zR κ soSum a0) = 8 := E88.2.2.2.2.t ts (by decide)
      have gs88 := nm_g E88.2.1.1 r8s (Or.inl ⟨by decide, by decide⟩) (by decide)
      have ns94 := rg_n9 (c := 6500) W90 ts88 Ece (fun z => z)
      have r4s : ρ4 (zR κ soSum a0) = 7 := by rw [E94.1 _ ls]; exact h7
      have cI := cl_c9 N4.1 K4 (i := 33 * x83_5.toNatClampNeg + 32) (by omega) U4
      rw [show capR (1000000 + (33 * x83_5.toNatClampNeg + 32)) = 3000 by rw [cap_c9 (by omega) (Nat.le_refl _)]; rfl] at cI
      have kr := K4 _ _ (by omega) U4
      have xs := nuK_lt (ns94.1 gs88.1) (k := 1502) (by rw [ns94.2.1]; exact Nat.lt_of_le_of_lt sB (pB9_s (by decide)))
      intro W96
      intro M97
      intro T98
      intro T99
      intro T100
      refine Nu_copy_c W96 T99 T100 3000 6500 ?_ (fun κ_101 q102 => ?_)
      · rw [es94]
        exact ⟨cI.1.2.1, (ns94.1 gs88.1).1, ro_n kr r4s (by omega), by omega, by decide⟩
      intro W103
      intro M104
      rw [es94] at q102
      obtain ⟨Fc, Bc, Vc, Kc, Zq⟩ := q102
      rw [ns94.2.1] at Vc
      have Ep := cl_p9 W96 T94 N4.1 N4.2 K4 L4 (by omega) U4 Fc (by rw [show capR (1000000 + (33 * x83_5.toNatClampNeg + 32)) = 3000 by rw [cap_c9 (by omega) (Nat.le_refl _)]; rfl]; exact ⟨Bc, Zq (ns94.1 gs88.1).2⟩)
      have E101 := rg_t9 W Ta0 E94 (rg_m9 (fun r h => Or.inr h) Ep)
      have t9 := cp_t9 W96 T94 U4
      have U4' := U4
      rw [← t9.2.2] at Fc Vc U4'
      have Q101 := cp_w9 W96 T94 K4 L4 ⟨by omega, by omega⟩ U4' Fc Vc Q94
      have tw88 : zT κ_88 (zR κ soWhole a0) = 8 := E88.2.2.2.2.t tw (by decide)
      have tl88 : zT κ_88 (zR κ soLess a0) = 8 := E88.2.2.2.2.t tl (by decide)
      have nw94 := rg_n9 (c := 0) W90 tw88 Ece (fun z => z)
      have nl94 := rg_n9 (c := 0) W90 tl88 Ece (fun z => z)
      have nw101 := rg_n9 (c := 0) (w := (zR κ soWhole a0)) W96 (E94.2.2.2.2.t tw (by decide)) Ep (by rw [E94.1 _ lw, S0.1.1]; unfold ceR9; decide)
      have nl101 := rg_n9 (c := 0) (w := (zR κ soLess a0)) W96 (E94.2.2.2.2.t tl (by decide)) Ep (by rw [E94.1 _ ll, h8]; unfold ceR9; decide)
      have T101 : zT κ_101 a0 = 12 := Fc.t T94 (by decide)
      have rz1 := rr_9 W83 T83_0 Zs (fun z => by rcases z with ⟨_, z | z | z⟩ | ⟨_, z | z | z | z⟩ <;> exact absurd z (by decide))
      have rz2 := rr_9 W90 T88 Zc (fun z => by
        rcases z with z | z
        · exact absurd z.1 (by decide)
        · have := (W90.2.1 a0 (by rw [T88]; decide)).2
          omega)
      have rz3 := rr_9 W96 T94 Fc (fun z => absurd z.2 (by decide))
      have er101 : zR κ_101 soRows a0 = zR κ soRows a0 := by rw [rz3.1, rz2.1, rz1.1]; exact er8
      have ra101 : zA κ_101 (zR κ soRows a0) = zA κ83 (zR κ soRows a0) := by
        have q3 := rz3.2
        have q2 := rz2.2
        have q1 := rz1.2
        rw [rz2.1, rz1.1, er8] at q3
        rw [rz1.1, er8] at q2
        rw [er8] at q1
        rw [q3, q2, q1]
      have fin : ∀ s : Int32, (∃ ρ', rgE9 vrR9 ρ κ κ_101 a0 ρ') ∧ (dz9 (nuN κ_101 (zR κ soWhole a0)) P9 ∧ nuN κ_101 (zR κ soLess a0) < pB9 4000) ∧ (x83_2.toInt = (f9 : Int) ∧ x83_3.toInt = (m9 : Int)) ∧ (0 ≤ x83_5.toInt ∧ x83_5.toInt < x83_3.toInt ∧ x83_5 = x83_5 ∧ x83_3 = x83_3) ∧ (zR κ_101 soRows a0 = zR κ soRows a0 ∧ ∀ r : Nat, r < m9 → (zA κ_101 (zR κ soRows a0) (zA κ (zR κ weOrder (zR κ soWeb a0)) (f9 + r)).toNatClampNeg).toInt = (r : Int)) ∧ ∃ M : Nat → Nat → Nat, (∀ i j, i < x83_5.toNatClampNeg → j < m9 → flV9 κ a0 n9 (zA κ (zR κ weOrder (zR κ soWeb a0)) (f9 + i)).toNatClampNeg i f9 j (M i j)) ∧ (∀ i, i ≤ x83_5.toNatClampNeg → M i 32 ≤ pB9 1501) ∧ clP9 κ_101 a0 (fun i j => (i < x83_5.toNatClampNeg ∧ (j < m9 ∨ j = 32)) ∨ (i = x83_5.toNatClampNeg ∧ j = 32)) M := fun _ => by
        refine ⟨⟨ρ4, E101⟩, ⟨by rw [nw101.2.1, nw94.2.1, nw.2.1]; exact D8, by rw [nl101.2.1, nl94.2.1]; exact Nat.lt_of_le_of_lt Es hl8⟩, ⟨z2, z3⟩, ⟨l5.1, by omega, rfl, rfl⟩, ⟨er101, fun r hr => by rw [ra101]; exact rw8 r hr⟩, fun i j => if i = x83_5.toNatClampNeg ∧ j = 32 then nuN κ_88 (zR κ soSum a0) else M8 i j, fun i j hi hj => ?_, fun i hi => ?_, Q101⟩
        · dsimp only
          rw [if_neg (by omega)]
          exact F8 i j hi hj
        · dsimp only
          by_cases e : i = x83_5.toNatClampNeg
          · rw [if_pos ⟨e, rfl⟩]; exact sB
          · rw [if_neg (fun y => e y.1)]; exact B8 i (by omega)
      refine ⟨fun c105 => ?_, fun c105 => ?_⟩
      · skip
        refine hj140 _ _ _ _ _ _ W103 ?_ ?_
        · exact T101  -- t35
        · refine and_5 ?_ (fun o9 => ?_)  -- k36
          · exact ⟨rfl, fin 0⟩
          · have wE : nuN κ_101 (zR κ soWhole a0) = nuN κ83 (zR κ soWhole a0) := by rw [nw101.2.1, nw94.2.1, nw.2.1]
            have old : ∀ i j, i < x83_5.toNatClampNeg ∧ (j < m9 ∨ j = 32) → cV15 κ_101 a0 i j = cV15 κ83 a0 i j := fun i j h => by
              rw [cV_p15 Q8 h]
              have q := cV_p15 (i := i) (j := j) Q101 (Or.inl h)
              rw [if_neg (fun z => absurd z.1 (Nat.ne_of_lt h.1))] at q
              exact q
            have new : cV15 κ_101 a0 x83_5.toNatClampNeg 32 = nuN κ_88 (zR κ soSum a0) := by
              have q := cV_p15 (i := x83_5.toNatClampNeg) (j := 32) Q101 (Or.inr ⟨rfl, rfl⟩)
              rw [if_pos ⟨rfl, rfl⟩] at q
              exact q
            rw [s8.2, w8.1, es8, ew8] at zs
            have zs2 : ((nuN κ_88 (zR κ soSum a0) : Nat) : Rat) = in15 κ83 a0 V9 (zA κ (zR κ weOrder (zR κ soWeb a0)) (f9 + x83_5.toNatClampNeg)) * ((nuN κ83 (zR κ soWhole a0) : Nat) : Rat) := zs
            rw [in_e15 B8x] at zs2
            have Wp := hE.1.1
            have i0 := in_n15 (V := V9) (k := zA κ (zR κ weOrder (zR κ soWeb a0)) (f9 + x83_5.toNatClampNeg)) X0 (odn _ (by omega)) (fun s hs => (hV9 s hs).2)
            have es101 : zR κ_101 soSum a0 = zR κ soSum a0 := (rg_r9 W Ta0 E101 (by decide)).1
            have ns101 := rg_n9 (c := 6500) (w := zR κ soSum a0) W96 (E94.2.2.2.2.t ts (by decide)) Ep (by rw [r4s]; unfold ceR9; decide)
            have nI := ns101.1 (ns94.1 gs88.1)
            have nE : nuN κ_101 (zR κ soSum a0) = nuN κ_88 (zR κ soSum a0) := by rw [ns101.2.1, ns94.2.1]
            refine ⟨⟨by rw [wE]; exact hE.1.1, fun r hr b h1 h2 h3 => by rw [wE]; exact hE.1.2 r hr b h1 h2 h3⟩, ⟨fun i hi => ⟨fun j hj => by rw [old i j ⟨hi, Or.inl hj⟩]; exact (hE.2.1 i hi).1 j hj, by
              have z := (hE.2.1 i hi).2
              unfold rB15 at z ⊢
              rw [old i 32 ⟨hi, Or.inr rfl⟩, wE]
              exact z⟩, by
              unfold rB15
              rw [new, wE]
              exact zs2⟩, ?_⟩
            refine ⟨fun z => absurd z (by decide), fun _ => ?_⟩
            obtain ⟨i, hi, p⟩ := hE.2.2.2 (by first | exact c105 | exact fun z => c105 z)
            exact ⟨i, by omega, p⟩
      · skip
        refine ⟨fun c106 => ?_, fun c106 => ?_⟩
        · skip
          refine hj140 _ _ _ _ _ _ W103 ?_ ?_
          · exact T101  -- t37
          · refine and_5 ?_ (fun o9 => ?_)  -- k38
            · exact ⟨rfl, fin 0⟩
            · have wE : nuN κ_101 (zR κ soWhole a0) = nuN κ83 (zR κ soWhole a0) := by rw [nw101.2.1, nw94.2.1, nw.2.1]
              have old : ∀ i j, i < x83_5.toNatClampNeg ∧ (j < m9 ∨ j = 32) → cV15 κ_101 a0 i j = cV15 κ83 a0 i j := fun i j h => by
                rw [cV_p15 Q8 h]
                have q := cV_p15 (i := i) (j := j) Q101 (Or.inl h)
                rw [if_neg (fun z => absurd z.1 (Nat.ne_of_lt h.1))] at q
                exact q
              have new : cV15 κ_101 a0 x83_5.toNatClampNeg 32 = nuN κ_88 (zR κ soSum a0) := by
                have q := cV_p15 (i := x83_5.toNatClampNeg) (j := 32) Q101 (Or.inr ⟨rfl, rfl⟩)
                rw [if_pos ⟨rfl, rfl⟩] at q
                exact q
              rw [s8.2, w8.1, es8, ew8] at zs
              have zs2 : ((nuN κ_88 (zR κ soSum a0) : Nat) : Rat) = in15 κ83 a0 V9 (zA κ (zR κ weOrder (zR κ soWeb a0)) (f9 + x83_5.toNatClampNeg)) * ((nuN κ83 (zR κ soWhole a0) : Nat) : Rat) := zs
              rw [in_e15 B8x] at zs2
              have Wp := hE.1.1
              have i0 := in_n15 (V := V9) (k := zA κ (zR κ weOrder (zR κ soWeb a0)) (f9 + x83_5.toNatClampNeg)) X0 (odn _ (by omega)) (fun s hs => (hV9 s hs).2)
              have es101 : zR κ_101 soSum a0 = zR κ soSum a0 := (rg_r9 W Ta0 E101 (by decide)).1
              have ns101 := rg_n9 (c := 6500) (w := zR κ soSum a0) W96 (E94.2.2.2.2.t ts (by decide)) Ep (by rw [r4s]; unfold ceR9; decide)
              have nI := ns101.1 (ns94.1 gs88.1)
              have nE : nuN κ_101 (zR κ soSum a0) = nuN κ_88 (zR κ soSum a0) := by rw [ns101.2.1, ns94.2.1]
              refine ⟨⟨by rw [wE]; exact hE.1.1, fun r hr b h1 h2 h3 => by rw [wE]; exact hE.1.2 r hr b h1 h2 h3⟩, ⟨fun i hi => ⟨fun j hj => by rw [old i j ⟨hi, Or.inl hj⟩]; exact (hE.2.1 i hi).1 j hj, by
                have z := (hE.2.1 i hi).2
                unfold rB15 at z ⊢
                rw [old i 32 ⟨hi, Or.inr rfl⟩, wE]
                exact z⟩, by
                unfold rB15
                rw [new, wE]
                exact zs2⟩, ?_⟩
              refine ⟨fun _ i hi => ?_, fun z => absurd rfl z⟩
              by_cases e : i = x83_5.toNatClampNeg
              · rw [es101] at c106
                have z0 := nu_00 nI (by first | exact (by rw [lei, t0i] at c106; exact c106) | exact (by have y := Int32.not_lt.mp c106; rw [lei, t0i] at y; exact y))
                rw [nE] at z0
                rw [z0] at zs2
                rw [e]
                have m0 : ri15 κ a0 V9 f9 x83_5.toNatClampNeg * ((nuN κ83 (zR κ soWhole a0) : Nat) : Rat) = 0 := zs2.symm
                rcases Rat.mul_eq_zero.mp m0 with y | y
                · exact y
                · have w := nq0 Wp
                  rw [y] at w
                  exact absurd w (by decide)
              · exact hE.2.2.1 (by first | exact c105 | exact Decidable.byContradiction (fun z => c105 z)) i (by omega)
        · skip
          refine hj140 _ _ _ _ _ _ W103 ?_ ?_
          · exact T101  -- t39
          · refine and_5 ?_ (fun o9 => ?_)  -- k40
            · exact ⟨rfl, fin 0⟩
            · have wE : nuN κ_101 (zR κ soWhole a0) = nuN κ83 (zR κ soWhole a0) := by rw [nw101.2.1, nw94.2.1, nw.2.1]
              have old : ∀ i j, i < x83_5.toNatClampNeg ∧ (j < m9 ∨ j = 32) → cV15 κ_101 a0 i j = cV15 κ83 a0 i j := fun i j h => by
                rw [cV_p15 Q8 h]
                have q := cV_p15 (i := i) (j := j) Q101 (Or.inl h)
                rw [if_neg (fun z => absurd z.1 (Nat.ne_of_lt h.1))] at q
                exact q
              have new : cV15 κ_101 a0 x83_5.toNatClampNeg 32 = nuN κ_88 (zR κ soSum a0) := by
                have q := cV_p15 (i := x83_5.toNatClampNeg) (j := 32) Q101 (Or.inr ⟨rfl, rfl⟩)
                rw [if_pos ⟨rfl, rfl⟩] at q
                exact q
              rw [s8.2, w8.1, es8, ew8] at zs
              have zs2 : ((nuN κ_88 (zR κ soSum a0) : Nat) : Rat) = in15 κ83 a0 V9 (zA κ (zR κ weOrder (zR κ soWeb a0)) (f9 + x83_5.toNatClampNeg)) * ((nuN κ83 (zR κ soWhole a0) : Nat) : Rat) := zs
              rw [in_e15 B8x] at zs2
              have Wp := hE.1.1
              have i0 := in_n15 (V := V9) (k := zA κ (zR κ weOrder (zR κ soWeb a0)) (f9 + x83_5.toNatClampNeg)) X0 (odn _ (by omega)) (fun s hs => (hV9 s hs).2)
              have es101 : zR κ_101 soSum a0 = zR κ soSum a0 := (rg_r9 W Ta0 E101 (by decide)).1
              have ns101 := rg_n9 (c := 6500) (w := zR κ soSum a0) W96 (E94.2.2.2.2.t ts (by decide)) Ep (by rw [r4s]; unfold ceR9; decide)
              have nI := ns101.1 (ns94.1 gs88.1)
              have nE : nuN κ_101 (zR κ soSum a0) = nuN κ_88 (zR κ soSum a0) := by rw [ns101.2.1, ns94.2.1]
              refine ⟨⟨by rw [wE]; exact hE.1.1, fun r hr b h1 h2 h3 => by rw [wE]; exact hE.1.2 r hr b h1 h2 h3⟩, ⟨fun i hi => ⟨fun j hj => by rw [old i j ⟨hi, Or.inl hj⟩]; exact (hE.2.1 i hi).1 j hj, by
                have z := (hE.2.1 i hi).2
                unfold rB15 at z ⊢
                rw [old i 32 ⟨hi, Or.inr rfl⟩, wE]
                exact z⟩, by
                unfold rB15
                rw [new, wE]
                exact zs2⟩, ?_⟩
              refine ⟨fun z => absurd z (by decide), fun _ => ⟨x83_5.toNatClampNeg, by omega, ?_⟩⟩
              rw [es101] at c106
              have kk := nuK_i nI.1
              have np : nuN κ_88 (zR κ soSum a0) ≠ 0 := fun z => by
                rw [← nE] at z
                have q := (nuK_z nI).2 z
                rw [q] at kk
                exact c106 (by rw [lei, t0i]; omega)
              have m0 : ri15 κ a0 V9 f9 x83_5.toNatClampNeg ≠ 0 := fun z => by
                have z2 : ((nuN κ_88 (zR κ soSum a0) : Nat) : Rat) = ri15 κ a0 V9 f9 x83_5.toNatClampNeg * ((nuN κ83 (zR κ soWhole a0) : Nat) : Rat) := zs2
                rw [z, Rat.zero_mul] at z2
                have y := nq0 (Nat.pos_of_ne_zero np)
                rw [z2] at y
                exact absurd y (by decide)
              have i1 : 0 ≤ ri15 κ a0 V9 f9 x83_5.toNatClampNeg := i0
              grind
  · skip
    rw [lei] at c13
    have X1 := rg_x9 W Ta0 E1 X0
    have w1 := rg_w9 W Ta0 E1 X0
    have s1 := sx x30_2 x30_4 x2 l4.1 (by omega)
    have o1' := od x30_4.toNatClampNeg (by omega)
    have ko1 := cnk o1'.1
    have n1 : zN κ30 (zR κ30 soRows a0) = zN κ (zR κ soRows a0) := by rw [er1]; exact E1.2.2.2.2.l (ty_soRows W Ta0)
    refine ⟨?_, ?_⟩
    · rw [inb_iff, w1.2.2.2.2]; omega  -- b41
    refine ⟨?_, ?_⟩
    · rw [s1.2, w1.1, inb_iff, n1]; omega  -- b42
    intro κ_107 hκ_107
    intro W108
    rw [s1.2, w1.1] at hκ_107
    have Er0 : rgE9 (fun _ => False) ρ κ30 κ_107 a0 ρ := rg_ro9 W30 T30_0 E1.2.1.1 E1.2.1.2 E1.2.2.1 E1.2.2.2.1.1 hκ_107
    have E107 := rg_t9 W Ta0 E1 (rg_m9 (fun _ h => h.elim) Er0)
    have X107 := rg_x9 W Ta0 E107 X0
    have w107 := rg_w9 W Ta0 E107 X0
    have V107 := rg_v9 W Ta0 N0 hn vrR9_v E107 V0
    have T107 : zT κ_107 a0 = 12 := E107.2.2.2.2.t Ta0 (by decide)
    have ew107 : zR κ_107 soWhole a0 = (zR κ soWhole a0) := (rg_r9 W Ta0 E107 (by decide)).1
    have nw107 := rg_n9 (c := 0) (w := (zR κ soWhole a0)) W30 (E1.2.2.2.2.t tw (by decide)) Er0 (fun z => z)
    have nl107 := rg_n9 (c := 0) (w := (zR κ soLess a0)) W30 (E1.2.2.2.2.t tl (by decide)) Er0 (fun z => z)
    refine ⟨?_, ?_⟩
    · rw [inb_iff, w107.2.2.2.2]; omega  -- b43
    intro T109
    refine So_joinInflow_q6 W108 T109 ρ n9 P9 V9 (vV_g15 W Ta0 N0 hn vrR9_v E107 V0 hV9) ?_ (fun κ_110 q111 => ?_)
    · rw [s1.2, w107.1, ew107, nw107.2.1]
      exact ⟨E107.2.1, X107.1, V107.1, o1', D1, P0, Nat.lt_of_lt_of_le P1 (pB9_l (by decide))⟩
    obtain ⟨q111, z9⟩ := q111
    have zj := z9
    intro W112
    intro M113
    intro x114 hx114
    rw [ew107] at q111
    obtain ⟨Zj, ⟨Nj, Sj⟩, Dj⟩ := q111
    have E110 := rg_t9 W Ta0 E107 (rg_so9 (R' := vrR9) W108 T107 E107.2.2.1 E107.2.2.2.1.1 Zj (fun r h => Or.inl (by rcases h with (z | z | z) | (z | z | z) <;> omega)) ⟨Nj, Sj⟩)
    have nl110 := soF_B (c := 0) (w := (zR κ soLess a0)) W108 (E107.2.2.2.2.t tl (by decide)) Zj (by rw [h8]; unfold jiR9 unR9 jnR9; decide)
    have ix := cn1 (x := x30_4) (by omega) (by omega)
    have rz := rr_9 W108 T107 Zj (fun z => by rcases z with ⟨_, z | z | z⟩ | ⟨_, z | z | z | z⟩ <;> exact absurd z (by decide))
    have er107 : zR κ_107 soRows a0 = zR κ soRows a0 := by rw [hκ_107]; exact er1
    have ra107 : zA κ_107 (zR κ soRows a0) = upd (zA κ30 (zR κ soRows a0)) (zA κ (zR κ weOrder (zR κ soWeb a0)) (f9 + x30_4.toNatClampNeg)).toNatClampNeg x30_4 := by
      rw [hκ_107, er1]
      exact if_pos rfl
    refine lp_b5 ?_ (fun d9 => ⟨rfl, ?_⟩)
    · rw [hn30, hx114, ix.2]; omega  -- d45
    · refine and_5 ?_ (fun o9 => ?_)  -- i46
      · refine ⟨rfl, ⟨E110, Dj, by rw [nl110.2.1, nl107.2.1]; exact le1⟩, ⟨x2, x3⟩, ⟨by rw [hx114, ix.2]; omega, by rw [hx114, ix.2]; omega⟩, by rw [rz.1]; exact er107, fun r hr => ?_⟩
        rw [hx114, ix.1] at hr
        rw [← er107, rz.2, er107, ra107]
        unfold upd
        by_cases e : r = x30_4.toNatClampNeg
        · rw [e, if_pos rfl]; exact kc.symm
        · rw [if_neg (fun y => e (by
            have q := od_i9 X0.2.1 (i := f9 + r) (j := f9 + x30_4.toNatClampNeg) (by omega) (by omega) y
            omega))]
          exact rw1 r (by omega)
      · have B := bx_g15 W Ta0 rgF9_fr E107.2.2.2.2 X0
        rw [s1.2, w107.1, ew107, nw107.2.1] at zj
        refine ⟨zj.1 hE.1, fun r hr b h1 h2 h3 => ?_⟩
        rw [hx114, ix.1] at hr
        by_cases e : r = x30_4.toNatClampNeg
        · have y := zj.2.2 b (by rw [B.2.2.1, ← e]; exact h1) (by rw [B.2.2.1, ← e]; exact h2)
          have kO : ∀ s, zA κ_107 (zR κ_107 weKnotOf (zR κ_107 soWeb a0)) s = kO15 κ a0 s := B.2.2.2.2.1
          rw [B.1, kO, kO, B.2.2.2.1] at y
          refine y (fun z => h3 (mS _ (bk_n15 X0 (odn r (by omega)) h1 h2).1 x30_4.toNatClampNeg (by omega) z)) h3
        · exact Nat.dvd_trans (hE.2 r (by omega) b h1 h2 h3) zj.2.1
